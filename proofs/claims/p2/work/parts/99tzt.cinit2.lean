section
/-! THE CONSTRUCTORS OF THE CLASS: the rest, and the class -/
set_option maxHeartbeats 4000000 in
theorem zi_div_M {l : Launch} {G : am_G} {X : ck_XT} (g : gM l G X) {q t : Nat} {x0 x1 x2 : Value} {h : List am_C} (hg : am_g G h q = some (t, [x0, x1, x2])) (ht : t % 100 = 9) (hq : 1000 ≤ q) {mc ms : Nat} {Post : am_O → List am_C → Prop} (hmc : 6 ≤ mc) (hms : 39 ≤ ms)
    (hP : ∀ h', zk G h h' (fun y => y = q) → Post (.inl none) h') :
    am_M l G yX2_init (.code yX2_init prog_4_method_1_code 1 none) 2 40 mc ms [.ref q] h Post := by
  refine gh_yX2_init_X g (Nat.le_of_ble_eq_true rfl) fun S SX hs hr hw hx => ?_
  have rv : ∀ x : Int32, ck_fv 0 (.int x) := fun x => ⟨_, rfl⟩
  have lq_ := zg_lt hg
  refine hs 0 _ rfl _ _ _ _ _ _ _ rfl ?_
  refine hs 1 _ rfl _ _ _ _ _ _ rfl (Nat.le_of_ble_eq_true rfl) ?_
  refine hs 2 _ rfl _ _ _ _ _ _ _ rfl ?_
  refine zw_W (G := G) (hs 3 _ rfl) (t := 7) (vs := [.null, .int 0, .int 0]) (m := 3) rfl rfl rfl (by omega) (by omega) fun hz431 az432 ez433 lz434 gz435 cz436 => ?_
  refine hs 4 _ rfl _ _ _ _ _ _ _ rfl ?_
  refine zw_cmn (hs 5 _ rfl) (a := [.ref az432]) (st := [.ref az432, .ref q]) 1 10 rfl rfl (Nat.le_of_ble_eq_true rfl) ⟨_, _, _, rfl, (cz436), rfl⟩ (by omega) (by omega) (⟨zi_big_M (td := 50) g (cz436) rfl rfl (by omega) (by omega) (by omega) fun hs1_ lb1_ ks1_ qb1_ rb1_ => ?_, fun _ _ h9 => h9⟩)
  have lk1_ := ks1_.1
  show S 12 [some (.ref q)] [.ref az432, .ref q] _ _ _
  refine zw_U (hs 6 _ rfl) (by omega) ((ks1_.2 _ _ ((gz435.2 _ _ hg)) (by omega))) ht (Or.inl ⟨_, rfl⟩) fun hz437 wz438 => ?_
  have wz438 : hd_w G hs1_ hz437 q (t, [.ref az432, x1, x2]) := wz438
  have lwz438 := wz438.1
  refine hs 7 _ rfl _ _ _ _ _ _ _ rfl ?_
  refine zw_W (G := G) (hs 8 _ rfl) (t := 7) (vs := [.null, .int 0, .int 0]) (m := 3) rfl rfl rfl (by omega) (by omega) fun hz439 az440 ez441 lz442 gz443 cz444 => ?_
  refine hs 9 _ rfl _ _ _ _ _ _ _ rfl ?_
  refine zw_cmn (hs 10 _ rfl) (a := [.ref az440]) (st := [.ref az440, .ref q]) 1 10 rfl rfl (Nat.le_of_ble_eq_true rfl) ⟨_, _, _, rfl, (cz444), rfl⟩ (by omega) (by omega) (⟨zi_big_M (td := 50) g (cz444) rfl rfl (by omega) (by omega) (by omega) fun hs2_ lb2_ ks2_ qb2_ rb2_ => ?_, fun _ _ h9 => h9⟩)
  have lk2_ := ks2_.1
  show S 23 [some (.ref q)] [.ref az440, .ref q] _ _ _
  refine zw_U (hs 11 _ rfl) (by omega) ((ks2_.2 _ _ ((gz443.2 _ _ wz438.at)) (by omega))) ht (Or.inl ⟨_, rfl⟩) fun hz445 wz446 => ?_
  have wz446 : hd_w G hs2_ hz445 q (t, [.ref az432, .ref az440, x2]) := wz446
  have lwz446 := wz446.1
  refine hs 12 _ rfl _ _ _ _ _ _ _ rfl ?_
  refine zw_W (G := G) (hs 13 _ rfl) (t := 7) (vs := [.null, .int 0, .int 0]) (m := 3) rfl rfl rfl (by omega) (by omega) fun hz447 az448 ez449 lz450 gz451 cz452 => ?_
  refine hs 14 _ rfl _ _ _ _ _ _ _ rfl ?_
  refine zw_cmn (hs 15 _ rfl) (a := [.ref az448]) (st := [.ref az448, .ref q]) 1 10 rfl rfl (Nat.le_of_ble_eq_true rfl) ⟨_, _, _, rfl, (cz452), rfl⟩ (by omega) (by omega) (⟨zi_big_M (td := 50) g (cz452) rfl rfl (by omega) (by omega) (by omega) fun hs3_ lb3_ ks3_ qb3_ rb3_ => ?_, fun _ _ h9 => h9⟩)
  have lk3_ := ks3_.1
  show S 34 [some (.ref q)] [.ref az448, .ref q] _ _ _
  refine zw_U (hs 16 _ rfl) (by omega) ((ks3_.2 _ _ ((gz451.2 _ _ wz446.at)) (by omega))) ht (Or.inl ⟨_, rfl⟩) fun hz453 wz454 => ?_
  have wz454 : hd_w G hs3_ hz453 q (t, [.ref az432, .ref az440, .ref az448]) := wz454
  have lwz454 := wz454.1
  exact hs 17 _ rfl _ _ _ _ (by omega) (by omega) (hP _ (((((((((zk.g (D := fun y => y = q) gz435).tr2 (ks1_ : zk _ _ _ (fun y => y = az432)) (fun p_ y1_ (y2_ : p_ = az432) => absurd y1_ (by omega))).tr (zk.w (D := fun y => y = q) wz438 (by first | exact Or.inl rfl | exact Or.inl (Or.inl rfl)))).tr (zk.g (D := fun y => y = q) gz443)).tr2 (ks2_ : zk _ _ _ (fun y => y = az440)) (fun p_ y1_ (y2_ : p_ = az440) => absurd y1_ (by omega))).tr (zk.w (D := fun y => y = q) wz446 (by first | exact Or.inl rfl | exact Or.inl (Or.inl rfl)))).tr (zk.g (D := fun y => y = q) gz451)).tr2 (ks3_ : zk _ _ _ (fun y => y = az448)) (fun p_ y1_ (y2_ : p_ = az448) => absurd y1_ (by omega))).tr (zk.w (D := fun y => y = q) wz454 (by first | exact Or.inl rfl | exact Or.inl (Or.inl rfl)))))
set_option maxHeartbeats 4000000 in
theorem zi_bround_M {l : Launch} {G : am_G} {X : ck_XT} (g : gM l G X) {q t : Nat} {x0 x1 x2 x3 x4 x5 x6 : Value} {h : List am_C} (hg : am_g G h q = some (t, [x0, x1, x2, x3, x4, x5, x6])) (ht : t % 100 = 8) (hq : 1000 ≤ q) {mc ms : Nat} {Post : am_O → List am_C → Prop} (hmc : 19 ≤ mc) (hms : 120 ≤ ms)
    (hP : ∀ h', zk G h h' (fun y => y = q) → Post (.inl none) h') :
    am_M l G yX1_init (.code yX1_init prog_3_method_1_code 1 none) 3 60 mc ms [.ref q] h Post := by
  refine gh_yX1_init_X g (Nat.le_of_ble_eq_true rfl) fun S SX hs hr hw hx => ?_
  have rv : ∀ x : Int32, ck_fv 0 (.int x) := fun x => ⟨_, rfl⟩
  have lq_ := zg_lt hg
  refine hs 0 _ rfl _ _ _ _ _ _ _ rfl ?_
  refine hs 1 _ rfl _ _ _ _ _ _ rfl (Nat.le_of_ble_eq_true rfl) ?_
  refine hs 2 _ rfl _ _ _ _ _ _ _ rfl ?_
  refine zw_W (G := G) (hs 3 _ rfl) (t := 7) (vs := [.null, .int 0, .int 0]) (m := 3) rfl rfl rfl (by omega) (by omega) fun hz455 az456 ez457 lz458 gz459 cz460 => ?_
  refine hs 4 _ rfl _ _ _ _ _ _ _ rfl ?_
  refine zw_cmn (hs 5 _ rfl) (a := [.ref az456]) (st := [.ref az456, .ref q]) 1 10 rfl rfl (Nat.le_of_ble_eq_true rfl) ⟨_, _, _, rfl, (cz460), rfl⟩ (by omega) (by omega) (⟨zi_big_M (td := 50) g (cz460) rfl rfl (by omega) (by omega) (by omega) fun hs4_ lb4_ ks4_ qb4_ rb4_ => ?_, fun _ _ h9 => h9⟩)
  have lk4_ := ks4_.1
  show S 12 [some (.ref q)] [.ref az456, .ref q] _ _ _
  refine zw_U (hs 6 _ rfl) (by omega) ((ks4_.2 _ _ ((gz459.2 _ _ hg)) (by omega))) ht (Or.inl ⟨_, rfl⟩) fun hz461 wz462 => ?_
  have wz462 : hd_w G hs4_ hz461 q (t, [.ref az456, x1, x2, x3, x4, x5, x6]) := wz462
  have lwz462 := wz462.1
  refine hs 7 _ rfl _ _ _ _ _ _ _ rfl ?_
  refine zw_W (G := G) (hs 8 _ rfl) (t := 9) (vs := [.null, .null, .null]) (m := 3) rfl rfl rfl (by omega) (by omega) fun hz463 az464 ez465 lz466 gz467 cz468 => ?_
  refine hs 9 _ rfl _ _ _ _ _ _ _ rfl ?_
  refine zw_cmn (hs 10 _ rfl) (a := [.ref az464]) (st := [.ref az464, .ref q]) 6 39 rfl rfl (Nat.le_of_ble_eq_true rfl) ⟨_, _, _, rfl, (cz468), rfl⟩ (by omega) (by omega) (⟨zi_div_M g (cz468) rfl (by omega) (by omega) (by omega) fun hs5_ ks5_ => ?_, fun _ _ h9 => h9⟩)
  have lk5_ := ks5_.1
  show S 23 [some (.ref q)] [.ref az464, .ref q] _ _ _
  refine zw_U (hs 11 _ rfl) (by omega) ((ks5_.2 _ _ ((gz467.2 _ _ wz462.at)) (by omega))) ht (Or.inl ⟨_, rfl⟩) fun hz469 wz470 => ?_
  have wz470 : hd_w G hs5_ hz469 q (t, [.ref az456, .ref az464, x2, x3, x4, x5, x6]) := wz470
  have lwz470 := wz470.1
  refine hs 12 _ rfl _ _ _ _ _ _ _ rfl ?_
  refine zw_W (G := G) (hs 13 _ rfl) (t := 7) (vs := [.null, .int 0, .int 0]) (m := 3) rfl rfl rfl (by omega) (by omega) fun hz471 az472 ez473 lz474 gz475 cz476 => ?_
  refine hs 14 _ rfl _ _ _ _ _ _ _ rfl ?_
  refine zw_cmn (hs 15 _ rfl) (a := [.ref az472]) (st := [.ref az472, .ref q]) 1 10 rfl rfl (Nat.le_of_ble_eq_true rfl) ⟨_, _, _, rfl, (cz476), rfl⟩ (by omega) (by omega) (⟨zi_big_M (td := 50) g (cz476) rfl rfl (by omega) (by omega) (by omega) fun hs6_ lb6_ ks6_ qb6_ rb6_ => ?_, fun _ _ h9 => h9⟩)
  have lk6_ := ks6_.1
  show S 34 [some (.ref q)] [.ref az472, .ref q] _ _ _
  refine zw_U (hs 16 _ rfl) (by omega) ((ks6_.2 _ _ ((gz475.2 _ _ wz470.at)) (by omega))) ht (Or.inl ⟨_, rfl⟩) fun hz477 wz478 => ?_
  have wz478 : hd_w G hs6_ hz477 q (t, [.ref az456, .ref az464, .ref az472, x3, x4, x5, x6]) := wz478
  have lwz478 := wz478.1
  refine hs 17 _ rfl _ _ _ _ _ _ _ rfl ?_
  refine zw_W (G := G) (hs 18 _ rfl) (t := 7) (vs := [.null, .int 0, .int 0]) (m := 3) rfl rfl rfl (by omega) (by omega) fun hz479 az480 ez481 lz482 gz483 cz484 => ?_
  refine hs 19 _ rfl _ _ _ _ _ _ _ rfl ?_
  refine zw_cmn (hs 20 _ rfl) (a := [.ref az480]) (st := [.ref az480, .ref q]) 1 10 rfl rfl (Nat.le_of_ble_eq_true rfl) ⟨_, _, _, rfl, (cz484), rfl⟩ (by omega) (by omega) (⟨zi_big_M (td := 50) g (cz484) rfl rfl (by omega) (by omega) (by omega) fun hs7_ lb7_ ks7_ qb7_ rb7_ => ?_, fun _ _ h9 => h9⟩)
  have lk7_ := ks7_.1
  show S 45 [some (.ref q)] [.ref az480, .ref q] _ _ _
  refine zw_U (hs 21 _ rfl) (by omega) ((ks7_.2 _ _ ((gz483.2 _ _ wz478.at)) (by omega))) ht (Or.inl ⟨_, rfl⟩) fun hz485 wz486 => ?_
  have wz486 : hd_w G hs7_ hz485 q (t, [.ref az456, .ref az464, .ref az472, .ref az480, x4, x5, x6]) := wz486
  have lwz486 := wz486.1
  refine hs 22 _ rfl _ _ _ _ _ _ _ rfl ?_
  refine zw_W (G := G) (hs 23 _ rfl) (t := 7) (vs := [.null, .int 0, .int 0]) (m := 3) rfl rfl rfl (by omega) (by omega) fun hz487 az488 ez489 lz490 gz491 cz492 => ?_
  refine hs 24 _ rfl _ _ _ _ _ _ _ rfl ?_
  refine zw_cmn (hs 25 _ rfl) (a := [.ref az488]) (st := [.ref az488, .ref q]) 1 10 rfl rfl (Nat.le_of_ble_eq_true rfl) ⟨_, _, _, rfl, (cz492), rfl⟩ (by omega) (by omega) (⟨zi_big_M (td := 50) g (cz492) rfl rfl (by omega) (by omega) (by omega) fun hs8_ lb8_ ks8_ qb8_ rb8_ => ?_, fun _ _ h9 => h9⟩)
  have lk8_ := ks8_.1
  show S 56 [some (.ref q)] [.ref az488, .ref q] _ _ _
  refine zw_U (hs 26 _ rfl) (by omega) ((ks8_.2 _ _ ((gz491.2 _ _ wz486.at)) (by omega))) ht (Or.inl ⟨_, rfl⟩) fun hz493 wz494 => ?_
  have wz494 : hd_w G hs8_ hz493 q (t, [.ref az456, .ref az464, .ref az472, .ref az480, .ref az488, x5, x6]) := wz494
  have lwz494 := wz494.1
  refine hs 27 _ rfl _ _ _ _ _ _ _ rfl ?_
  refine zw_W (G := G) (hs 28 _ rfl) (t := 7) (vs := [.null, .int 0, .int 0]) (m := 3) rfl rfl rfl (by omega) (by omega) fun hz495 az496 ez497 lz498 gz499 cz500 => ?_
  refine hs 29 _ rfl _ _ _ _ _ _ _ rfl ?_
  refine zw_cmn (hs 30 _ rfl) (a := [.ref az496]) (st := [.ref az496, .ref q]) 1 10 rfl rfl (Nat.le_of_ble_eq_true rfl) ⟨_, _, _, rfl, (cz500), rfl⟩ (by omega) (by omega) (⟨zi_big_M (td := 50) g (cz500) rfl rfl (by omega) (by omega) (by omega) fun hs9_ lb9_ ks9_ qb9_ rb9_ => ?_, fun _ _ h9 => h9⟩)
  have lk9_ := ks9_.1
  show S 67 [some (.ref q)] [.ref az496, .ref q] _ _ _
  refine zw_U (hs 31 _ rfl) (by omega) ((ks9_.2 _ _ ((gz499.2 _ _ wz494.at)) (by omega))) ht (Or.inl ⟨_, rfl⟩) fun hz501 wz502 => ?_
  have wz502 : hd_w G hs9_ hz501 q (t, [.ref az456, .ref az464, .ref az472, .ref az480, .ref az488, .ref az496, x6]) := wz502
  have lwz502 := wz502.1
  refine hs 32 _ rfl _ _ _ _ _ _ _ rfl ?_
  refine zw_W (G := G) (hs 33 _ rfl) (t := 7) (vs := [.null, .int 0, .int 0]) (m := 3) rfl rfl rfl (by omega) (by omega) fun hz503 az504 ez505 lz506 gz507 cz508 => ?_
  refine hs 34 _ rfl _ _ _ _ _ _ _ rfl ?_
  refine zw_cmn (hs 35 _ rfl) (a := [.ref az504]) (st := [.ref az504, .ref q]) 1 10 rfl rfl (Nat.le_of_ble_eq_true rfl) ⟨_, _, _, rfl, (cz508), rfl⟩ (by omega) (by omega) (⟨zi_big_M (td := 50) g (cz508) rfl rfl (by omega) (by omega) (by omega) fun hs10_ lb10_ ks10_ qb10_ rb10_ => ?_, fun _ _ h9 => h9⟩)
  have lk10_ := ks10_.1
  show S 78 [some (.ref q)] [.ref az504, .ref q] _ _ _
  refine zw_U (hs 36 _ rfl) (by omega) ((ks10_.2 _ _ ((gz507.2 _ _ wz502.at)) (by omega))) ht (Or.inl ⟨_, rfl⟩) fun hz509 wz510 => ?_
  have wz510 : hd_w G hs10_ hz509 q (t, [.ref az456, .ref az464, .ref az472, .ref az480, .ref az488, .ref az496, .ref az504]) := wz510
  have lwz510 := wz510.1
  exact hs 37 _ rfl _ _ _ _ (by omega) (by omega) (hP _ (((((((((((((((((((((zk.g (D := fun y => y = q) gz459).tr2 (ks4_ : zk _ _ _ (fun y => y = az456)) (fun p_ y1_ (y2_ : p_ = az456) => absurd y1_ (by omega))).tr (zk.w (D := fun y => y = q) wz462 (by first | exact Or.inl rfl | exact Or.inl (Or.inl rfl)))).tr (zk.g (D := fun y => y = q) gz467)).tr2 (ks5_ : zk _ _ _ (fun y => y = az464)) (fun p_ y1_ (y2_ : p_ = az464) => absurd y1_ (by omega))).tr (zk.w (D := fun y => y = q) wz470 (by first | exact Or.inl rfl | exact Or.inl (Or.inl rfl)))).tr (zk.g (D := fun y => y = q) gz475)).tr2 (ks6_ : zk _ _ _ (fun y => y = az472)) (fun p_ y1_ (y2_ : p_ = az472) => absurd y1_ (by omega))).tr (zk.w (D := fun y => y = q) wz478 (by first | exact Or.inl rfl | exact Or.inl (Or.inl rfl)))).tr (zk.g (D := fun y => y = q) gz483)).tr2 (ks7_ : zk _ _ _ (fun y => y = az480)) (fun p_ y1_ (y2_ : p_ = az480) => absurd y1_ (by omega))).tr (zk.w (D := fun y => y = q) wz486 (by first | exact Or.inl rfl | exact Or.inl (Or.inl rfl)))).tr (zk.g (D := fun y => y = q) gz491)).tr2 (ks8_ : zk _ _ _ (fun y => y = az488)) (fun p_ y1_ (y2_ : p_ = az488) => absurd y1_ (by omega))).tr (zk.w (D := fun y => y = q) wz494 (by first | exact Or.inl rfl | exact Or.inl (Or.inl rfl)))).tr (zk.g (D := fun y => y = q) gz499)).tr2 (ks9_ : zk _ _ _ (fun y => y = az496)) (fun p_ y1_ (y2_ : p_ = az496) => absurd y1_ (by omega))).tr (zk.w (D := fun y => y = q) wz502 (by first | exact Or.inl rfl | exact Or.inl (Or.inl rfl)))).tr (zk.g (D := fun y => y = q) gz507)).tr2 (ks10_ : zk _ _ _ (fun y => y = az504)) (fun p_ y1_ (y2_ : p_ = az504) => absurd y1_ (by omega))).tr (zk.w (D := fun y => y = q) wz510 (by first | exact Or.inl rfl | exact Or.inl (Or.inl rfl)))))
set_option maxHeartbeats 4000000 in
theorem zi_prow_M {l : Launch} {G : am_G} {X : ck_XT} (g : gM l G X) {q t : Nat} {x0 x1 x2 x3 : Value} {h : List am_C} (hg : am_g G h q = some (t, [x0, x1, x2, x3])) (ht : t % 100 = 13) (hq : 1000 ≤ q) {mc ms : Nat} {Post : am_O → List am_C → Prop} (hmc : 2 ≤ mc) (hms : 800 ≤ ms)
    (hP : ∀ h', zk G h h' (fun y => y = q) → Post (.inl none) h') :
    am_M l G yX6_init (.code yX6_init prog_8_method_1_code 1 none) 1 20 mc ms [.ref q] h Post := by
  refine gh_yX6_init_X g (Nat.le_of_ble_eq_true rfl) fun S SX hs hr hw hx => ?_
  have rv : ∀ x : Int32, ck_fv 0 (.int x) := fun x => ⟨_, rfl⟩
  have lq_ := zg_lt hg
  refine hs 0 _ rfl _ _ _ _ _ _ _ rfl ?_
  refine hs 1 _ rfl _ _ _ _ _ _ rfl (Nat.le_of_ble_eq_true rfl) ?_
  refine hs 2 _ rfl _ _ _ _ _ _ _ rfl ?_
  refine hs 3 _ rfl _ _ _ _ _ _ _ rfl ?_
  refine zw_E (G := G) (hs 4 _ rfl) (t := 50) (N := 400) rfl (by omega) (by omega) (by omega) (by omega) fun hz511 az512 ez513 lz514 gz515 cz516 => ?_
  refine zw_U (hs 5 _ rfl) (by omega) ((gz515.2 _ _ hg)) ht (Or.inl ⟨_, rfl⟩) fun hz517 wz518 => ?_
  have wz518 : hd_w G hz511 hz517 q (t, [.ref az512, x1, x2, x3]) := wz518
  have lwz518 := wz518.1
  refine hs 6 _ rfl _ _ _ _ _ _ _ rfl ?_
  refine hs 7 _ rfl _ _ _ _ _ _ _ rfl ?_
  refine zw_E (G := G) (hs 8 _ rfl) (t := 50) (N := 400) rfl (by omega) (by omega) (by omega) (by omega) fun hz519 az520 ez521 lz522 gz523 cz524 => ?_
  refine zw_U (hs 9 _ rfl) (by omega) ((gz523.2 _ _ wz518.at)) ht (Or.inl ⟨_, rfl⟩) fun hz525 wz526 => ?_
  have wz526 : hd_w G hz519 hz525 q (t, [.ref az512, .ref az520, x2, x3]) := wz526
  have lwz526 := wz526.1
  exact hs 10 _ rfl _ _ _ _ (by omega) (by omega) (hP _ ((((zk.g (D := fun y => y = q) gz515).tr (zk.w (D := fun y => y = q) wz518 (by first | exact Or.inl rfl | exact Or.inl (Or.inl rfl)))).tr (zk.g (D := fun y => y = q) gz523)).tr (zk.w (D := fun y => y = q) wz526 (by first | exact Or.inl rfl | exact Or.inl (Or.inl rfl)))))
set_option maxHeartbeats 4000000 in
theorem zi_gen_M {l : Launch} {G : am_G} {X : ck_XT} (g : gM l G X) {q t : Nat} {x0 x1 x2 x3 : Value} {h : List am_C} (hg : am_g G h q = some (t, [x0, x1, x2, x3])) (ht : t % 100 = 10) (hq : 1000 ≤ q) {mc ms : Nat} {Post : am_O → List am_C → Prop} (hmc : 1 ≤ mc) (hms : 4 ≤ ms)
    (hP : ∀ h', zk G h h' (fun y => y = q) → Post (.inl none) h') :
    am_M l G yX3_init (.code yX3_init prog_5_method_1_code 1 none) 1 20 mc ms [.ref q] h Post := by
  refine gh_yX3_init_X g (Nat.le_of_ble_eq_true rfl) fun S SX hs hr hw hx => ?_
  have rv : ∀ x : Int32, ck_fv 0 (.int x) := fun x => ⟨_, rfl⟩
  have lq_ := zg_lt hg
  refine hs 0 _ rfl _ _ _ _ _ _ _ rfl ?_
  refine hs 1 _ rfl _ _ _ _ _ _ rfl (Nat.le_of_ble_eq_true rfl) ?_
  refine hs 2 _ rfl _ _ _ _ _ _ _ rfl ?_
  refine hs 3 _ rfl _ _ _ _ _ _ _ rfl ?_
  refine zw_E (G := G) (hs 4 _ rfl) (t := 50) (N := 4) rfl (by omega) (by omega) (by omega) (by omega) fun hz527 az528 ez529 lz530 gz531 cz532 => ?_
  refine zw_U (hs 5 _ rfl) (by omega) ((gz531.2 _ _ hg)) ht (Or.inl ⟨_, rfl⟩) fun hz533 wz534 => ?_
  have wz534 : hd_w G hz527 hz533 q (t, [.ref az528, x1, x2, x3]) := wz534
  have lwz534 := wz534.1
  exact hs 6 _ rfl _ _ _ _ (by omega) (by omega) (hP _ ((zk.g (D := fun y => y = q) gz531).tr (zk.w (D := fun y => y = q) wz534 (by first | exact Or.inl rfl | exact Or.inl (Or.inl rfl)))))
set_option maxHeartbeats 4000000 in
theorem zi_join_M {l : Launch} {G : am_G} {X : ck_XT} (g : gM l G X) {q t : Nat} {x0 x1 x2 : Value} {h : List am_C} (hg : am_g G h q = some (t, [x0, x1, x2])) (ht : t % 100 = 11) {mc ms : Nat} {Post : am_O → List am_C → Prop} (hP : Post (.inl none) h) :
    am_M l G yX4_init (.code yX4_init prog_6_method_1_code 1 none) 1 20 mc ms [.ref q] h Post := by
  refine gh_yX4_init_X g (Nat.le_of_ble_eq_true rfl) fun S SX hs hr hw hx => ?_
  have rv : ∀ x : Int32, ck_fv 0 (.int x) := fun x => ⟨_, rfl⟩
  refine hs 0 _ rfl _ _ _ _ _ _ _ rfl ?_
  refine hs 1 _ rfl _ _ _ _ _ _ rfl (Nat.le_of_ble_eq_true rfl) ?_
  exact hs 2 _ rfl _ _ _ _ (Nat.zero_le _) (Nat.zero_le _) hP
set_option maxHeartbeats 4000000 in
theorem zi_abs_M {l : Launch} {G : am_G} {X : ck_XT} (g : gM l G X) {q t : Nat} {x0 x1 x2 x3 : Value} {h : List am_C} (hg : am_g G h q = some (t, [x0, x1, x2, x3])) (ht : t % 100 = 1) (hq : 1000 ≤ q) {mc ms : Nat} {Post : am_O → List am_C → Prop} (hmc : 1 ≤ mc) (hms : 16 ≤ ms)
    (hP : ∀ h', zk G h h' (fun y => y = q) → Post (.inl none) h') :
    am_M l G yJ5_init_d00df (.code yJ5_init_d00df prog_18_method_2_code 2 none) 1 20 mc ms [.ref q, .int (Int32.ofInt 16)] h Post := by
  refine gh_yJ5_init_d00df_X g (Nat.le_of_ble_eq_true rfl) fun S SX hs hr hw hx => ?_
  have rv : ∀ x : Int32, ck_fv 0 (.int x) := fun x => ⟨_, rfl⟩
  have lq_ := zg_lt hg
  refine hs 0 _ rfl _ _ _ _ _ _ _ rfl ?_
  refine hs 1 _ rfl _ _ _ _ _ _ rfl (Nat.le_of_ble_eq_true rfl) ?_
  refine hs 2 _ rfl _ _ _ _ _ _ _ rfl ?_
  refine hs 3 _ rfl _ _ _ _ _ _ (fun zq => absurd (hd_c1z (c := 0) (by omega) (by omega) zq) (by omega : ¬ ((1 : Int) = 0))) (fun _ => ?_)
  refine hs 4 _ rfl _ _ _ _ _ _ _ rfl ?_
  refine hs 5 _ rfl _ _ _ _ _ _ _ rfl ?_
  refine zw_E (G := G) (hs 6 _ rfl) (t := 51) (N := 16) rfl (by omega) (by omega) (by omega) (by omega) fun hz535 az536 ez537 lz538 gz539 cz540 => ?_
  refine zw_U (hs 7 _ rfl) (by omega) ((gz539.2 _ _ hg)) ht (Or.inl ⟨_, rfl⟩) fun hz541 wz542 => ?_
  have wz542 : hd_w G hz535 hz541 q (t, [.ref az536, x1, x2, x3]) := wz542
  have lwz542 := wz542.1
  refine hs 8 _ rfl _ _ _ _ _ _ _ rfl ?_
  refine hs 9 _ rfl _ _ _ _ _ _ _ rfl ?_
  refine zw_U (hs 10 _ rfl) (by omega) (wz542.at) ht ⟨_, rfl, by decide, by decide⟩ fun hz543 wz544 => ?_
  have wz544 : hd_w G hz541 hz543 q (t, [.ref az536, .int (Int32.ofInt (0 : Int)), x2, x3]) := wz544
  have lwz544 := wz544.1
  refine hs 11 _ rfl _ _ _ _ _ ?_
  exact hs 14 _ rfl _ _ _ _ (by omega) (by omega) (hP _ (((zk.g (D := fun y => y = q) gz539).tr (zk.w (D := fun y => y = q) wz542 (by first | exact Or.inl rfl | exact Or.inl (Or.inl rfl)))).tr (zk.w (D := fun y => y = q) wz544 (by first | exact Or.inl rfl | exact Or.inl (Or.inl rfl)))))
set_option maxHeartbeats 4000000 in
theorem zi_sb_M {l : Launch} {G : am_G} {X : ck_XT} (g : gM l G X) {q t : Nat} {x0 x1 x2 x3 : Value} {h : List am_C} (hg : am_g G h q = some (t, [x0, x1, x2, x3])) (ht : t % 100 = 1) (hq : 1000 ≤ q) {mc ms : Nat} {Post : am_O → List am_C → Prop} (hmc : 1 ≤ mc) (hms : 16 ≤ ms)
    (hP : ∀ h', zk G h h' (fun y => y = q) → Post (.inl none) h') :
    am_M l G yJ4_init_da8c8 (.code yJ4_init_da8c8 prog_36_method_1_code 1 none) 2 41 mc ms [.ref q] h Post := by
  refine gh_yJ4_init_da8c8_X g (Nat.le_of_ble_eq_true rfl) fun S SX hs hr hw hx => ?_
  have rv : ∀ x : Int32, ck_fv 0 (.int x) := fun x => ⟨_, rfl⟩
  refine hs 0 _ rfl _ _ _ _ _ _ _ rfl ?_
  refine hs 1 _ rfl _ _ _ _ _ _ _ rfl ?_
  refine zw_cmn (hs 2 _ rfl) (a := [.ref q, .int (Int32.ofInt (16 : Int))]) (st := []) 1 16 rfl rfl (Nat.le_of_ble_eq_true rfl) ⟨_, _, _, rfl, (hg), ht⟩ (by omega) (by omega) (⟨zi_abs_M g hg ht hq (by omega) (by omega) fun hs_ ks_ => ?_, fun _ _ h9 => h9⟩)
  show S 6 [some (.ref q)] [] _ _ _
  exact hs 3 _ rfl _ _ _ _ (by omega) (by omega) (hP _ ks_)
set_option maxHeartbeats 4000000 in
theorem zi_class_M {l : Launch} {G : am_G} {X : ck_XT} (g : gM l G X) {x : Nat} {h : List am_C} (hg : am_g G h x = some (1015, [.null, .null, .int 0, .int 0, .int 0, .null, .null, .null, .null, .null, .null, .null, .null])) (hx_ : 1000 ≤ x) (hl_ : x + 1 = 1000 + h.length) {mc ms : Nat} {Post : am_O → List am_C → Prop} (hmc : 257 ≤ mc) (hms : 2420 ≤ ms)
    (hP : ∀ (h' : List am_C) (r : Nat → Nat), zk G h h' (fun y => y = x) → zc_X G h' x r 0 0 0 sp_0 [] → Post (.inl none) h') :
    am_M l G yX10_init (.code yX10_init prog_1_method_1_code 1 none) 4 82 mc ms [.ref x] h Post := by
  refine gh_yX10_init_X g (Nat.le_of_ble_eq_true rfl) fun S SX hs hr hw hx => ?_
  have rv : ∀ x : Int32, ck_fv 0 (.int x) := fun x => ⟨_, rfl⟩
  refine hs 0 _ rfl _ _ _ _ _ _ _ rfl ?_
  refine hs 1 _ rfl _ _ _ _ _ _ rfl (Nat.le_of_ble_eq_true rfl) ?_
  refine hs 2 _ rfl _ _ _ _ _ _ _ rfl ?_
  refine zw_W (G := G) (hs 3 _ rfl) (t := 1014) (vs := [.int 0, .null, .int 0, .null, .null, .int 0, .null]) (m := 7) rfl rfl rfl (by omega) (by omega) fun hz545 az546 ez547 lz548 gz549 cz550 => ?_
  refine hs 4 _ rfl _ _ _ _ _ _ _ rfl ?_
  refine zw_cmn (hs 5 _ rfl) (a := [.ref az546]) (st := [.ref az546, .ref x]) 16 101 rfl rfl (Nat.le_of_ble_eq_true rfl) ⟨_, _, _, rfl, (cz550), rfl⟩ (by omega) (by omega) (⟨zi_state_M g (cz550) (by omega) (by omega) (by omega) (by omega) fun hs11_ lb11_ ks11_ sS_ => ?_, fun _ _ h9 => h9⟩)
  have lk11_ := ks11_.1
  show S 12 [some (.ref x)] [.ref az546, .ref x] _ _ _
  refine zw_U (hs 6 _ rfl) (by omega) ((ks11_.2 _ _ ((gz549.2 _ _ hg)) (by omega))) rfl (Or.inl ⟨_, rfl⟩) fun hz551 wz552 => ?_
  have wz552 : hd_w G hs11_ hz551 x (1015, [.ref az546, .null, .int 0, .int 0, .int 0, .null, .null, .null, .null, .null, .null, .null, .null]) := wz552
  have lwz552 := wz552.1
  refine hs 7 _ rfl _ _ _ _ _ _ _ rfl ?_
  refine zw_W (G := G) (hs 8 _ rfl) (t := 1012) (vs := [.null, .int 0, .int 0]) (m := 3) rfl rfl rfl (by omega) (by omega) fun hz553 az554 ez555 lz556 gz557 cz558 => ?_
  refine hs 9 _ rfl _ _ _ _ _ _ _ rfl ?_
  refine zw_cmn (hs 10 _ rfl) (a := [.ref az554]) (st := [.ref az554, .ref x]) 205 1308 rfl rfl (Nat.le_of_ble_eq_true rfl) ⟨_, _, _, rfl, (cz558), rfl⟩ (by omega) (by omega) (⟨zi_past_M g (cz558) (by omega) (by omega) (by omega) (by omega) fun hs12_ lb12_ ks12_ sP_ => ?_, fun _ _ h9 => h9⟩)
  have lk12_ := ks12_.1
  show S 23 [some (.ref x)] [.ref az554, .ref x] _ _ _
  refine zw_U (hs 11 _ rfl) (by omega) ((ks12_.2 _ _ ((gz557.2 _ _ wz552.at)) (by omega))) rfl (Or.inl ⟨_, rfl⟩) fun hz559 wz560 => ?_
  have wz560 : hd_w G hs12_ hz559 x (1015, [.ref az546, .ref az554, .int 0, .int 0, .int 0, .null, .null, .null, .null, .null, .null, .null, .null]) := wz560
  have lwz560 := wz560.1
  refine hs 12 _ rfl _ _ _ _ _ _ _ rfl ?_
  refine zw_W (G := G) (hs 13 _ rfl) (t := 1007) (vs := [.null, .int 0, .int 0]) (m := 3) rfl rfl rfl (by omega) (by omega) fun hz561 az562 ez563 lz564 gz565 cz566 => ?_
  refine hs 14 _ rfl _ _ _ _ _ _ _ rfl ?_
  refine zw_cmn (hs 15 _ rfl) (a := [.ref az562]) (st := [.ref az562, .ref x]) 1 10 rfl rfl (Nat.le_of_ble_eq_true rfl) ⟨_, _, _, rfl, (cz566), rfl⟩ (by omega) (by omega) (⟨zi_big_M (td := 1050) g (cz566) rfl rfl (by omega) (by omega) (by omega) fun hs13_ lb13_ ks13_ qb13_ rb13_ => ?_, fun _ _ h9 => h9⟩)
  have lk13_ := ks13_.1
  show S 34 [some (.ref x)] [.ref az562, .ref x] _ _ _
  refine zw_U (hs 16 _ rfl) (by omega) ((ks13_.2 _ _ ((gz565.2 _ _ wz560.at)) (by omega))) rfl (Or.inl ⟨_, rfl⟩) fun hz567 wz568 => ?_
  have wz568 : hd_w G hs13_ hz567 x (1015, [.ref az546, .ref az554, .int 0, .int 0, .int 0, .ref az562, .null, .null, .null, .null, .null, .null, .null]) := wz568
  have lwz568 := wz568.1
  refine hs 17 _ rfl _ _ _ _ _ _ _ rfl ?_
  refine zw_W (G := G) (hs 18 _ rfl) (t := 1007) (vs := [.null, .int 0, .int 0]) (m := 3) rfl rfl rfl (by omega) (by omega) fun hz569 az570 ez571 lz572 gz573 cz574 => ?_
  refine hs 19 _ rfl _ _ _ _ _ _ _ rfl ?_
  refine zw_cmn (hs 20 _ rfl) (a := [.ref az570]) (st := [.ref az570, .ref x]) 1 10 rfl rfl (Nat.le_of_ble_eq_true rfl) ⟨_, _, _, rfl, (cz574), rfl⟩ (by omega) (by omega) (⟨zi_big_M (td := 1050) g (cz574) rfl rfl (by omega) (by omega) (by omega) fun hs14_ lb14_ ks14_ qb14_ rb14_ => ?_, fun _ _ h9 => h9⟩)
  have lk14_ := ks14_.1
  show S 45 [some (.ref x)] [.ref az570, .ref x] _ _ _
  refine zw_U (hs 21 _ rfl) (by omega) ((ks14_.2 _ _ ((gz573.2 _ _ wz568.at)) (by omega))) rfl (Or.inl ⟨_, rfl⟩) fun hz575 wz576 => ?_
  have wz576 : hd_w G hs14_ hz575 x (1015, [.ref az546, .ref az554, .int 0, .int 0, .int 0, .ref az562, .ref az570, .null, .null, .null, .null, .null, .null]) := wz576
  have lwz576 := wz576.1
  refine hs 22 _ rfl _ _ _ _ _ _ _ rfl ?_
  refine zw_W (G := G) (hs 23 _ rfl) (t := 1007) (vs := [.null, .int 0, .int 0]) (m := 3) rfl rfl rfl (by omega) (by omega) fun hz577 az578 ez579 lz580 gz581 cz582 => ?_
  refine hs 24 _ rfl _ _ _ _ _ _ _ rfl ?_
  refine zw_cmn (hs 25 _ rfl) (a := [.ref az578]) (st := [.ref az578, .ref x]) 1 10 rfl rfl (Nat.le_of_ble_eq_true rfl) ⟨_, _, _, rfl, (cz582), rfl⟩ (by omega) (by omega) (⟨zi_big_M (td := 1050) g (cz582) rfl rfl (by omega) (by omega) (by omega) fun hs15_ lb15_ ks15_ qb15_ rb15_ => ?_, fun _ _ h9 => h9⟩)
  have lk15_ := ks15_.1
  show S 56 [some (.ref x)] [.ref az578, .ref x] _ _ _
  refine zw_U (hs 26 _ rfl) (by omega) ((ks15_.2 _ _ ((gz581.2 _ _ wz576.at)) (by omega))) rfl (Or.inl ⟨_, rfl⟩) fun hz583 wz584 => ?_
  have wz584 : hd_w G hs15_ hz583 x (1015, [.ref az546, .ref az554, .int 0, .int 0, .int 0, .ref az562, .ref az570, .ref az578, .null, .null, .null, .null, .null]) := wz584
  have lwz584 := wz584.1
  refine hs 27 _ rfl _ _ _ _ _ _ _ rfl ?_
  refine zw_W (G := G) (hs 28 _ rfl) (t := 8) (vs := [.null, .null, .null, .null, .null, .null, .null]) (m := 7) rfl rfl rfl (by omega) (by omega) fun hz585 az586 ez587 lz588 gz589 cz590 => ?_
  refine hs 29 _ rfl _ _ _ _ _ _ _ rfl ?_
  refine zw_cmn (hs 30 _ rfl) (a := [.ref az586]) (st := [.ref az586, .ref x]) 19 120 rfl rfl (Nat.le_of_ble_eq_true rfl) ⟨_, _, _, rfl, (cz590), rfl⟩ (by omega) (by omega) (⟨zi_bround_M g (cz590) rfl (by omega) (by omega) (by omega) fun hs16_ ks16_ => ?_, fun _ _ h9 => h9⟩)
  have lk16_ := ks16_.1
  show S 67 [some (.ref x)] [.ref az586, .ref x] _ _ _
  refine zw_U (hs 31 _ rfl) (by omega) ((ks16_.2 _ _ ((gz589.2 _ _ wz584.at)) (by omega))) rfl (Or.inl ⟨_, rfl⟩) fun hz591 wz592 => ?_
  have wz592 : hd_w G hs16_ hz591 x (1015, [.ref az546, .ref az554, .int 0, .int 0, .int 0, .ref az562, .ref az570, .ref az578, .ref az586, .null, .null, .null, .null]) := wz592
  have lwz592 := wz592.1
  refine hs 32 _ rfl _ _ _ _ _ _ _ rfl ?_
  refine zw_W (G := G) (hs 33 _ rfl) (t := 13) (vs := [.null, .null, .int 0, .int 0]) (m := 4) rfl rfl rfl (by omega) (by omega) fun hz593 az594 ez595 lz596 gz597 cz598 => ?_
  refine hs 34 _ rfl _ _ _ _ _ _ _ rfl ?_
  refine zw_cmn (hs 35 _ rfl) (a := [.ref az594]) (st := [.ref az594, .ref x]) 2 800 rfl rfl (Nat.le_of_ble_eq_true rfl) ⟨_, _, _, rfl, (cz598), rfl⟩ (by omega) (by omega) (⟨zi_prow_M g (cz598) rfl (by omega) (by omega) (by omega) fun hs17_ ks17_ => ?_, fun _ _ h9 => h9⟩)
  have lk17_ := ks17_.1
  show S 78 [some (.ref x)] [.ref az594, .ref x] _ _ _
  refine zw_U (hs 36 _ rfl) (by omega) ((ks17_.2 _ _ ((gz597.2 _ _ wz592.at)) (by omega))) rfl (Or.inl ⟨_, rfl⟩) fun hz599 wz600 => ?_
  have wz600 : hd_w G hs17_ hz599 x (1015, [.ref az546, .ref az554, .int 0, .int 0, .int 0, .ref az562, .ref az570, .ref az578, .ref az586, .ref az594, .null, .null, .null]) := wz600
  have lwz600 := wz600.1
  refine hs 37 _ rfl _ _ _ _ _ _ _ rfl ?_
  refine zw_W (G := G) (hs 38 _ rfl) (t := 10) (vs := [.null, .int 0, .int 0, .int 0]) (m := 4) rfl rfl rfl (by omega) (by omega) fun hz601 az602 ez603 lz604 gz605 cz606 => ?_
  refine hs 39 _ rfl _ _ _ _ _ _ _ rfl ?_
  refine zw_cmn (hs 40 _ rfl) (a := [.ref az602]) (st := [.ref az602, .ref x]) 1 4 rfl rfl (Nat.le_of_ble_eq_true rfl) ⟨_, _, _, rfl, (cz606), rfl⟩ (by omega) (by omega) (⟨zi_gen_M g (cz606) rfl (by omega) (by omega) (by omega) fun hs18_ ks18_ => ?_, fun _ _ h9 => h9⟩)
  have lk18_ := ks18_.1
  show S 89 [some (.ref x)] [.ref az602, .ref x] _ _ _
  refine zw_U (hs 41 _ rfl) (by omega) ((ks18_.2 _ _ ((gz605.2 _ _ wz600.at)) (by omega))) rfl (Or.inl ⟨_, rfl⟩) fun hz607 wz608 => ?_
  have wz608 : hd_w G hs18_ hz607 x (1015, [.ref az546, .ref az554, .int 0, .int 0, .int 0, .ref az562, .ref az570, .ref az578, .ref az586, .ref az594, .ref az602, .null, .null]) := wz608
  have lwz608 := wz608.1
  refine hs 42 _ rfl _ _ _ _ _ _ _ rfl ?_
  refine zw_W (G := G) (hs 43 _ rfl) (t := 1011) (vs := [.int 0, .long 0, .long 0]) (m := 3) rfl rfl rfl (by omega) (by omega) fun hz609 az610 ez611 lz612 gz613 cz614 => ?_
  refine hs 44 _ rfl _ _ _ _ _ _ _ rfl ?_
  refine zw_cn (hs 45 _ rfl) (a := [.ref az610]) (st := [.ref az610, .ref x]) rfl rfl (Nat.le_of_ble_eq_true rfl) ⟨_, _, _, rfl, (cz614), rfl⟩ (by omega) (by omega) (⟨zi_join_M g (cz614) rfl ?_, fun _ _ h9 => h9⟩)
  show S 100 [some (.ref x)] [.ref az610, .ref x] _ _ _
  refine zw_U (hs 46 _ rfl) (by omega) ((gz613.2 _ _ wz608.at)) rfl (Or.inl ⟨_, rfl⟩) fun hz615 wz616 => ?_
  have wz616 : hd_w G hz609 hz615 x (1015, [.ref az546, .ref az554, .int 0, .int 0, .int 0, .ref az562, .ref az570, .ref az578, .ref az586, .ref az594, .ref az602, .ref az610, .null]) := wz616
  have lwz616 := wz616.1
  refine hs 47 _ rfl _ _ _ _ _ _ _ rfl ?_
  refine zw_W (G := G) (hs 48 _ rfl) (t := 1) (vs := [.null, .int 0, .int 0, .int 0]) (m := 4) rfl rfl rfl (by omega) (by omega) fun hz617 az618 ez619 lz620 gz621 cz622 => ?_
  refine hs 49 _ rfl _ _ _ _ _ _ _ rfl ?_
  refine zw_cmn (hs 50 _ rfl) (a := [.ref az618]) (st := [.ref az618, .ref x]) 1 16 rfl rfl (Nat.le_of_ble_eq_true rfl) ⟨_, _, _, rfl, (cz622), rfl⟩ (by omega) (by omega) (⟨zi_sb_M g (cz622) rfl (by omega) (by omega) (by omega) fun hs19_ ks19_ => ?_, fun _ _ h9 => h9⟩)
  have lk19_ := ks19_.1
  show S 111 [some (.ref x)] [.ref az618, .ref x] _ _ _
  refine zw_U (hs 51 _ rfl) (by omega) ((ks19_.2 _ _ ((gz621.2 _ _ wz616.at)) (by omega))) rfl (Or.inl ⟨_, rfl⟩) fun hz623 wz624 => ?_
  have wz624 : hd_w G hs19_ hz623 x (1015, [.ref az546, .ref az554, .int 0, .int 0, .int 0, .ref az562, .ref az570, .ref az578, .ref az586, .ref az594, .ref az602, .ref az610, .ref az618]) := wz624
  have lwz624 := wz624.1
  have a11_ : az546 = x + 1 := by omega
  have a12_ : az554 = x + 18 := by omega
  have a13_ : az562 = x + 224 := by omega
  have a14_ : az570 = x + 226 := by omega
  have b13_ : 1000 + hz561.length = x + 224 + 1 := by omega
  have b14_ : 1000 + hz569.length = x + 226 + 1 := by omega
  have z1_ := sS_.k (((((((((((((((((((((((((((zk.w (D := fun y => y = x ∨ x + 18 ≤ y) wz552 (Or.inl (Or.inl rfl))).tr (zk.g (D := fun y => y = x ∨ x + 18 ≤ y) gz557)).tr (ks12_.mono fun p_ (y_ : p_ = az554) => (Or.inr (by omega) : p_ = x ∨ x + 18 ≤ p_))).tr (zk.w (D := fun y => y = x ∨ x + 18 ≤ y) wz560 (Or.inl (Or.inl rfl)))).tr (zk.g (D := fun y => y = x ∨ x + 18 ≤ y) gz565)).tr (ks13_.mono fun p_ (y_ : p_ = az562) => (Or.inr (by omega) : p_ = x ∨ x + 18 ≤ p_))).tr (zk.w (D := fun y => y = x ∨ x + 18 ≤ y) wz568 (Or.inl (Or.inl rfl)))).tr (zk.g (D := fun y => y = x ∨ x + 18 ≤ y) gz573)).tr (ks14_.mono fun p_ (y_ : p_ = az570) => (Or.inr (by omega) : p_ = x ∨ x + 18 ≤ p_))).tr (zk.w (D := fun y => y = x ∨ x + 18 ≤ y) wz576 (Or.inl (Or.inl rfl)))).tr (zk.g (D := fun y => y = x ∨ x + 18 ≤ y) gz581)).tr (ks15_.mono fun p_ (y_ : p_ = az578) => (Or.inr (by omega) : p_ = x ∨ x + 18 ≤ p_))).tr (zk.w (D := fun y => y = x ∨ x + 18 ≤ y) wz584 (Or.inl (Or.inl rfl)))).tr (zk.g (D := fun y => y = x ∨ x + 18 ≤ y) gz589)).tr (ks16_.mono fun p_ (y_ : p_ = az586) => (Or.inr (by omega) : p_ = x ∨ x + 18 ≤ p_))).tr (zk.w (D := fun y => y = x ∨ x + 18 ≤ y) wz592 (Or.inl (Or.inl rfl)))).tr (zk.g (D := fun y => y = x ∨ x + 18 ≤ y) gz597)).tr (ks17_.mono fun p_ (y_ : p_ = az594) => (Or.inr (by omega) : p_ = x ∨ x + 18 ≤ p_))).tr (zk.w (D := fun y => y = x ∨ x + 18 ≤ y) wz600 (Or.inl (Or.inl rfl)))).tr (zk.g (D := fun y => y = x ∨ x + 18 ≤ y) gz605)).tr (ks18_.mono fun p_ (y_ : p_ = az602) => (Or.inr (by omega) : p_ = x ∨ x + 18 ≤ p_))).tr (zk.w (D := fun y => y = x ∨ x + 18 ≤ y) wz608 (Or.inl (Or.inl rfl)))).tr (zk.g (D := fun y => y = x ∨ x + 18 ≤ y) gz613)).tr (zk.w (D := fun y => y = x ∨ x + 18 ≤ y) wz616 (Or.inl (Or.inl rfl)))).tr (zk.g (D := fun y => y = x ∨ x + 18 ≤ y) gz621)).tr (ks19_.mono fun p_ (y_ : p_ = az618) => (Or.inr (by omega) : p_ = x ∨ x + 18 ≤ p_))).tr (zk.w (D := fun y => y = x ∨ x + 18 ≤ y) wz624 (Or.inl (Or.inl rfl)))) (fun y h1 h2 (h3 : y = x ∨ x + 18 ≤ y) => by omega)
  have z2_ := sP_.k ((((((((((((((((((((((((zk.w (D := fun y => y = x ∨ x + 224 ≤ y) wz560 (Or.inl (Or.inl rfl))).tr (zk.g (D := fun y => y = x ∨ x + 224 ≤ y) gz565)).tr (ks13_.mono fun p_ (y_ : p_ = az562) => (Or.inr (by omega) : p_ = x ∨ x + 224 ≤ p_))).tr (zk.w (D := fun y => y = x ∨ x + 224 ≤ y) wz568 (Or.inl (Or.inl rfl)))).tr (zk.g (D := fun y => y = x ∨ x + 224 ≤ y) gz573)).tr (ks14_.mono fun p_ (y_ : p_ = az570) => (Or.inr (by omega) : p_ = x ∨ x + 224 ≤ p_))).tr (zk.w (D := fun y => y = x ∨ x + 224 ≤ y) wz576 (Or.inl (Or.inl rfl)))).tr (zk.g (D := fun y => y = x ∨ x + 224 ≤ y) gz581)).tr (ks15_.mono fun p_ (y_ : p_ = az578) => (Or.inr (by omega) : p_ = x ∨ x + 224 ≤ p_))).tr (zk.w (D := fun y => y = x ∨ x + 224 ≤ y) wz584 (Or.inl (Or.inl rfl)))).tr (zk.g (D := fun y => y = x ∨ x + 224 ≤ y) gz589)).tr (ks16_.mono fun p_ (y_ : p_ = az586) => (Or.inr (by omega) : p_ = x ∨ x + 224 ≤ p_))).tr (zk.w (D := fun y => y = x ∨ x + 224 ≤ y) wz592 (Or.inl (Or.inl rfl)))).tr (zk.g (D := fun y => y = x ∨ x + 224 ≤ y) gz597)).tr (ks17_.mono fun p_ (y_ : p_ = az594) => (Or.inr (by omega) : p_ = x ∨ x + 224 ≤ p_))).tr (zk.w (D := fun y => y = x ∨ x + 224 ≤ y) wz600 (Or.inl (Or.inl rfl)))).tr (zk.g (D := fun y => y = x ∨ x + 224 ≤ y) gz605)).tr (ks18_.mono fun p_ (y_ : p_ = az602) => (Or.inr (by omega) : p_ = x ∨ x + 224 ≤ p_))).tr (zk.w (D := fun y => y = x ∨ x + 224 ≤ y) wz608 (Or.inl (Or.inl rfl)))).tr (zk.g (D := fun y => y = x ∨ x + 224 ≤ y) gz613)).tr (zk.w (D := fun y => y = x ∨ x + 224 ≤ y) wz616 (Or.inl (Or.inl rfl)))).tr (zk.g (D := fun y => y = x ∨ x + 224 ≤ y) gz621)).tr (ks19_.mono fun p_ (y_ : p_ = az618) => (Or.inr (by omega) : p_ = x ∨ x + 224 ≤ p_))).tr (zk.w (D := fun y => y = x ∨ x + 224 ≤ y) wz624 (Or.inl (Or.inl rfl)))) (fun y h1 h2 (h3 : y = x ∨ x + 224 ≤ y) => by omega)
  rw [a11_] at z1_
  rw [a12_] at z2_
  rw [b13_] at qb13_ rb13_
  rw [a13_] at qb13_
  rw [b14_] at qb14_ rb14_
  rw [a14_] at qb14_
  have u1_ : zc_w G _ (x + 224) := ⟨0, 0, _, qb13_, rb13_, zi_sb0.1, by decide⟩
  have u2_ : zc_w G _ (x + 226) := ⟨0, 0, _, qb14_, rb14_, zi_sb0.1, by decide⟩
  have z3_ := u1_.k (((((((((((((((((((((zk.w (D := fun y => y = x ∨ x + 226 ≤ y) wz568 (Or.inl (Or.inl rfl))).tr (zk.g (D := fun y => y = x ∨ x + 226 ≤ y) gz573)).tr (ks14_.mono fun p_ (y_ : p_ = az570) => (Or.inr (by omega) : p_ = x ∨ x + 226 ≤ p_))).tr (zk.w (D := fun y => y = x ∨ x + 226 ≤ y) wz576 (Or.inl (Or.inl rfl)))).tr (zk.g (D := fun y => y = x ∨ x + 226 ≤ y) gz581)).tr (ks15_.mono fun p_ (y_ : p_ = az578) => (Or.inr (by omega) : p_ = x ∨ x + 226 ≤ p_))).tr (zk.w (D := fun y => y = x ∨ x + 226 ≤ y) wz584 (Or.inl (Or.inl rfl)))).tr (zk.g (D := fun y => y = x ∨ x + 226 ≤ y) gz589)).tr (ks16_.mono fun p_ (y_ : p_ = az586) => (Or.inr (by omega) : p_ = x ∨ x + 226 ≤ p_))).tr (zk.w (D := fun y => y = x ∨ x + 226 ≤ y) wz592 (Or.inl (Or.inl rfl)))).tr (zk.g (D := fun y => y = x ∨ x + 226 ≤ y) gz597)).tr (ks17_.mono fun p_ (y_ : p_ = az594) => (Or.inr (by omega) : p_ = x ∨ x + 226 ≤ p_))).tr (zk.w (D := fun y => y = x ∨ x + 226 ≤ y) wz600 (Or.inl (Or.inl rfl)))).tr (zk.g (D := fun y => y = x ∨ x + 226 ≤ y) gz605)).tr (ks18_.mono fun p_ (y_ : p_ = az602) => (Or.inr (by omega) : p_ = x ∨ x + 226 ≤ p_))).tr (zk.w (D := fun y => y = x ∨ x + 226 ≤ y) wz608 (Or.inl (Or.inl rfl)))).tr (zk.g (D := fun y => y = x ∨ x + 226 ≤ y) gz613)).tr (zk.w (D := fun y => y = x ∨ x + 226 ≤ y) wz616 (Or.inl (Or.inl rfl)))).tr (zk.g (D := fun y => y = x ∨ x + 226 ≤ y) gz621)).tr (ks19_.mono fun p_ (y_ : p_ = az618) => (Or.inr (by omega) : p_ = x ∨ x + 226 ≤ p_))).tr (zk.w (D := fun y => y = x ∨ x + 226 ≤ y) wz624 (Or.inl (Or.inl rfl)))) (fun (h3 : x + 224 = x ∨ x + 226 ≤ x + 224) => by omega) (fun (h3 : x + 224 + 1 = x ∨ x + 226 ≤ x + 224 + 1) => by omega)
  have z4_ := u2_.k ((((((((((((((((((zk.w (D := fun y => y = x ∨ x + 228 ≤ y) wz576 (Or.inl (Or.inl rfl))).tr (zk.g (D := fun y => y = x ∨ x + 228 ≤ y) gz581)).tr (ks15_.mono fun p_ (y_ : p_ = az578) => (Or.inr (by omega) : p_ = x ∨ x + 228 ≤ p_))).tr (zk.w (D := fun y => y = x ∨ x + 228 ≤ y) wz584 (Or.inl (Or.inl rfl)))).tr (zk.g (D := fun y => y = x ∨ x + 228 ≤ y) gz589)).tr (ks16_.mono fun p_ (y_ : p_ = az586) => (Or.inr (by omega) : p_ = x ∨ x + 228 ≤ p_))).tr (zk.w (D := fun y => y = x ∨ x + 228 ≤ y) wz592 (Or.inl (Or.inl rfl)))).tr (zk.g (D := fun y => y = x ∨ x + 228 ≤ y) gz597)).tr (ks17_.mono fun p_ (y_ : p_ = az594) => (Or.inr (by omega) : p_ = x ∨ x + 228 ≤ p_))).tr (zk.w (D := fun y => y = x ∨ x + 228 ≤ y) wz600 (Or.inl (Or.inl rfl)))).tr (zk.g (D := fun y => y = x ∨ x + 228 ≤ y) gz605)).tr (ks18_.mono fun p_ (y_ : p_ = az602) => (Or.inr (by omega) : p_ = x ∨ x + 228 ≤ p_))).tr (zk.w (D := fun y => y = x ∨ x + 228 ≤ y) wz608 (Or.inl (Or.inl rfl)))).tr (zk.g (D := fun y => y = x ∨ x + 228 ≤ y) gz613)).tr (zk.w (D := fun y => y = x ∨ x + 228 ≤ y) wz616 (Or.inl (Or.inl rfl)))).tr (zk.g (D := fun y => y = x ∨ x + 228 ≤ y) gz621)).tr (ks19_.mono fun p_ (y_ : p_ = az618) => (Or.inr (by omega) : p_ = x ∨ x + 228 ≤ p_))).tr (zk.w (D := fun y => y = x ∨ x + 228 ≤ y) wz624 (Or.inl (Or.inl rfl)))) (fun (h3 : x + 226 = x ∨ x + 228 ≤ x + 226) => by omega) (fun (h3 : x + 226 + 1 = x ∨ x + 228 ≤ x + 226 + 1) => by omega)
  have fx_ := (wz624.at)
  rw [a11_, a12_, a13_, a14_] at fx_
  have kk_ : zk G h hz623 (fun y => y = x) := (((((((((((((((((((((((((((((zk.g (D := fun y => y = x) gz549).tr2 (ks11_ : zk _ _ _ (fun y => y = az546)) (fun p_ y1_ (y2_ : p_ = az546) => absurd y1_ (by omega))).tr (zk.w (D := fun y => y = x) wz552 (by first | exact Or.inl rfl | exact Or.inl (Or.inl rfl)))).tr (zk.g (D := fun y => y = x) gz557)).tr2 (ks12_ : zk _ _ _ (fun y => y = az554)) (fun p_ y1_ (y2_ : p_ = az554) => absurd y1_ (by omega))).tr (zk.w (D := fun y => y = x) wz560 (by first | exact Or.inl rfl | exact Or.inl (Or.inl rfl)))).tr (zk.g (D := fun y => y = x) gz565)).tr2 (ks13_ : zk _ _ _ (fun y => y = az562)) (fun p_ y1_ (y2_ : p_ = az562) => absurd y1_ (by omega))).tr (zk.w (D := fun y => y = x) wz568 (by first | exact Or.inl rfl | exact Or.inl (Or.inl rfl)))).tr (zk.g (D := fun y => y = x) gz573)).tr2 (ks14_ : zk _ _ _ (fun y => y = az570)) (fun p_ y1_ (y2_ : p_ = az570) => absurd y1_ (by omega))).tr (zk.w (D := fun y => y = x) wz576 (by first | exact Or.inl rfl | exact Or.inl (Or.inl rfl)))).tr (zk.g (D := fun y => y = x) gz581)).tr2 (ks15_ : zk _ _ _ (fun y => y = az578)) (fun p_ y1_ (y2_ : p_ = az578) => absurd y1_ (by omega))).tr (zk.w (D := fun y => y = x) wz584 (by first | exact Or.inl rfl | exact Or.inl (Or.inl rfl)))).tr (zk.g (D := fun y => y = x) gz589)).tr2 (ks16_ : zk _ _ _ (fun y => y = az586)) (fun p_ y1_ (y2_ : p_ = az586) => absurd y1_ (by omega))).tr (zk.w (D := fun y => y = x) wz592 (by first | exact Or.inl rfl | exact Or.inl (Or.inl rfl)))).tr (zk.g (D := fun y => y = x) gz597)).tr2 (ks17_ : zk _ _ _ (fun y => y = az594)) (fun p_ y1_ (y2_ : p_ = az594) => absurd y1_ (by omega))).tr (zk.w (D := fun y => y = x) wz600 (by first | exact Or.inl rfl | exact Or.inl (Or.inl rfl)))).tr (zk.g (D := fun y => y = x) gz605)).tr2 (ks18_ : zk _ _ _ (fun y => y = az602)) (fun p_ y1_ (y2_ : p_ = az602) => absurd y1_ (by omega))).tr (zk.w (D := fun y => y = x) wz608 (by first | exact Or.inl rfl | exact Or.inl (Or.inl rfl)))).tr (zk.g (D := fun y => y = x) gz613)).tr (zk.w (D := fun y => y = x) wz616 (by first | exact Or.inl rfl | exact Or.inl (Or.inl rfl)))).tr (zk.g (D := fun y => y = x) gz621)).tr2 (ks19_ : zk _ _ _ (fun y => y = az618)) (fun p_ y1_ (y2_ : p_ = az618) => absurd y1_ (by omega))).tr (zk.w (D := fun y => y = x) wz624 (by first | exact Or.inl rfl | exact Or.inl (Or.inl rfl))))
  have hj_ := ((wz624.ne (by omega)).trans ((ks19_.2 _ _ ((gz621.2 _ _ ((wz616.ne (by omega)).trans cz614))) (by omega))))
  refine hs 52 _ rfl _ _ _ _ _ _ _ rfl ?_
  refine hs 53 _ rfl _ _ _ _ _ _ _ _ _ (fx_) rfl rfl ?_
  refine hs 54 _ rfl _ _ _ _ _ _ _ rfl ?_
  refine zw_U (hs 55 _ rfl) (by omega) (z1_.d) rfl ⟨_, rfl⟩ fun hz625 wz626 => ?_
  have wz626 : hd_w G hz623 hz625 (x + 1) (1014, [.int (Int32.ofInt (12 : Int)), .ref (x + 1 + 1), .int (Int32.ofInt (sp_z.2.2.1.length : Int)), .ref (x + 1 + 2), .ref (x + 1 + 3), .int (Int32.ofInt (sp_z.2.2.2.length : Int)), .ref (x + 1 + 4)]) := wz626
  have lwz626 := wz626.1
  have kw_ : zk G _ _ (fun y => y = x + 1) := zk.w wz626 (Or.inl rfl)
  have hj2_ := kw_.2 _ _ hj_ (by omega)
  refine hs 56 _ rfl _ _ _ _ (by omega) (by omega) (hP _ (fun i => [az578, az586, az594, az602, az610, az618].getD i 0) (kk_.tr2 kw_ fun p_ y1_ (y2_ : p_ = x + 1) => absurd y1_ (by omega)) ⟨fun _ => sp_z, 0, 0, ⟨kw_.2 _ _ fx_ (by omega), z1_.dial wz626, ⟨⟨by decide, by decide⟩, sp_z_ok.2⟩, z2_.k kw_ (fun y h1 h2 (h3 : y = x + 1) => by omega), ⟨z3_.k kw_ (by omega) (by omega), z4_.k kw_ (by omega) (by omega)⟩, ⟨_, _, _, hj2_⟩, ?_, hx_⟩, rfl⟩)
  show x + 228 ≤ az610
  omega
end
section
/-! THE LAW'S CALLS OF THE CLASS, TO BE WALKED BY HAND -/
def gt_yX10_knock_X : ck_TB := ([], [], [], [(192, 15, 4)], [(192, 15, 4, 0)], [], [], [], ([], [], [], []), [], [], [], 0)
def ge_yX10_knock_X : ck_E := (gT, [], (([], [], [], 0, []), ((0, []), (0, [])), [], [], ([], [], [], 0, []), []), 1, [(0, (0, 5, 0, 0, 1, 0, [])), (1, (0, 12, 0, 0, 2, 0, [])), (2, (7, 15, 4, 0, 5, 0, [])), (5, (0, 0, 0, 1, 6, 0, [])), (6, (0, 15, 0, 0, 7, 0, [])), (7, (8, 15, 4, 0, 10, 0, [])), (10, (0, 5, 0, 0, 11, 0, [])), (11, (7, 15, 4, 0, 14, 0, [])), (14, (14, 0, 0, 0, 0, 0, []))], [], [], [], [])
theorem gd_yX10_knock_X : ck_dec prog_1_method_19_code gt_yX10_knock_X ge_yX10_knock_X.2.2.2.2.1 = true := by decide +kernel
theorem gh_yX10_knock_X {l : Launch} {G : am_G} {X : ck_XT} (g : gM l G X) {a : List Value} {h : List am_C} {mc ms : Nat} {Post : am_O → List am_C → Prop} (hay : (am_lay a).length ≤ 1) (H : ∀ (S : ck_SS) (SX : Nat → ck_SX), ck_hs G S SX Post mc ms (ck_cms []) ge_yX10_knock_X → (∀ pc, ck_sR G S pc) → ck_hw S → zw_hx SX Post mc ms → S 0 (am_ent a 1) [] h 0 0) : am_M l G yX10_knock (.code yX10_knock prog_1_method_19_code 1 (some .int)) 1 20 mc ms a h Post :=
  zw_handX (E := ge_yX10_knock_X) (tb := gt_yX10_knock_X) (init := false) (cm := (ck_cms [])) g.1.1 (by decide +kernel) rfl gd_yX10_knock_X ⟨(List.forall_mem_nil _), (List.forall_mem_nil _), (List.forall_mem_nil _), (List.forall_mem_cons.mpr ⟨⟨⟨_, _, _, rfl, Or.inl w357⟩, by decide, _, _, g_fd15_4⟩, (List.forall_mem_nil _)⟩), (List.forall_mem_nil _), (List.forall_mem_nil _), (List.forall_mem_nil _), (List.forall_mem_nil _)⟩ (List.forall_mem_cons.mpr ⟨⟨⟨_, _, _, rfl, Or.inl w357⟩, by decide, _, rfl, Or.inl g_fd15_4⟩, (List.forall_mem_nil _)⟩) (fun h => nomatch h) ⟨_, rfl, rfl⟩ (by decide) (by decide) g_oi g_ar
    (fun s hk _ => (List.forall_mem_nil _)) (fun s hk => (List.forall_mem_nil _))
    (List.forall_mem_nil _) (List.forall_mem_nil _) (List.forall_mem_nil _) (List.forall_mem_nil _)
    (List.forall_mem_nil _) hay H
def gt_yX10_size_X : ck_TB := ([], [], [], [(10, 15, 0), (71, 14, 0)], [], [], [], [], ([], [], [], []), [], [], [], 0)
def ge_yX10_size_X : ck_E := (gT, [], (([], [], [], 0, []), ((0, []), (0, [])), [], [], ([], [], [], 0, []), []), 1, [(0, (0, 5, 0, 0, 1, 0, [])), (1, (7, 15, 0, 0, 4, 0, [])), (4, (7, 14, 0, 0, 7, 0, [])), (7, (14, 0, 0, 0, 0, 0, []))], [], [], [], [])
theorem gd_yX10_size_X : ck_dec prog_1_method_26_code gt_yX10_size_X ge_yX10_size_X.2.2.2.2.1 = true := by decide +kernel
theorem gh_yX10_size_X {l : Launch} {G : am_G} {X : ck_XT} (g : gM l G X) {a : List Value} {h : List am_C} {mc ms : Nat} {Post : am_O → List am_C → Prop} (hay : (am_lay a).length ≤ 1) (H : ∀ (S : ck_SS) (SX : Nat → ck_SX), ck_hs G S SX Post mc ms (ck_cms []) ge_yX10_size_X → (∀ pc, ck_sR G S pc) → ck_hw S → zw_hx SX Post mc ms → S 0 (am_ent a 1) [] h 0 0) : am_M l G yX10_size (.code yX10_size prog_1_method_26_code 1 (some .int)) 1 20 mc ms a h Post :=
  zw_handX (E := ge_yX10_size_X) (tb := gt_yX10_size_X) (init := false) (cm := (ck_cms [])) g.1.1 (by decide +kernel) rfl gd_yX10_size_X ⟨(List.forall_mem_nil _), (List.forall_mem_nil _), (List.forall_mem_nil _), (List.forall_mem_cons.mpr ⟨⟨⟨_, _, _, rfl, Or.inl w353⟩, by decide, _, _, g_fd15_0⟩, (List.forall_mem_cons.mpr ⟨⟨⟨_, _, _, rfl, Or.inr (Or.inl ⟨_, w161⟩)⟩, by decide, _, _, g_fd14_0⟩, (List.forall_mem_nil _)⟩)⟩), (List.forall_mem_nil _), (List.forall_mem_nil _), (List.forall_mem_nil _), (List.forall_mem_nil _)⟩ (List.forall_mem_nil _) (fun h => nomatch h) ⟨_, rfl, rfl⟩ (by decide) (by decide) g_oi g_ar
    (fun s hk _ => (List.forall_mem_nil _)) (fun s hk => (List.forall_mem_nil _))
    (List.forall_mem_nil _) (List.forall_mem_nil _) (List.forall_mem_nil _) (List.forall_mem_nil _)
    (List.forall_mem_nil _) hay H
def gt_yL_dial_X : ck_TB := ([], [], [], [], [(13, 16, 0, 3)], [], [], [], ([(7, 0)], [], [], []), [], [], [], 0)
def ge_yL_dial_X : ck_E := (gT, [], (([], [], [], 0, []), ((0, []), (0, [])), [], [], ([], [], [], 0, []), []), 4, [(0, (0, 5, 2, 0, 1, 0, [])), (1, (0, 5, 0, 0, 2, 0, [])), (2, (0, 3, 1, 0, 3, 0, [])), (3, (16, 0, 0, 0, 6, 0, [])), (6, (0, 19, 0, 0, 7, 0, [])), (7, (8, 16, 0, 3, 10, 0, [])), (10, (3, 0, 0, 0, 0, 16, [])), (13, (0, 8, 3, 0, 14, 0, [])), (14, (0, 0, 0, 1, 15, 0, [])), (15, (14, 0, 0, 0, 0, 0, [])), (16, (0, 0, 0, 0, 17, 0, [])), (17, (14, 0, 0, 0, 0, 0, []))], [(some 15, 2, [])], [], [], [])
theorem gd_yL_dial_X : ck_dec method_2_code gt_yL_dial_X ge_yL_dial_X.2.2.2.2.1 = true := by decide +kernel
theorem gh_yL_dial_X {l : Launch} {G : am_G} {X : ck_XT} (g : gM l G X) {a : List Value} {h : List am_C} {mc ms : Nat} {Post : am_O → List am_C → Prop} (hay : (am_lay a).length ≤ 4) (H : ∀ (S : ck_SS) (SX : Nat → ck_SX), ck_hs G S SX Post mc ms (ck_cms [am_cm l G yX10_dial (.code yX10_dial prog_1_method_2_code 3 (some .int)) 6 123]) ge_yL_dial_X → (∀ pc, ck_sR G S pc) → ck_hw S → zw_hh S SX 3 4 [("java/lang/IllegalArgumentException", 14)] → S 0 (am_ent a 4) [] h 0 0) : am_M l G yL_dial (.codeWith yL_dial method_2_code 4 (some .int) [(0, 10, 13, 19)]) 7 145 mc ms a h Post :=
  zw_handH (E := ge_yL_dial_X) (tb := gt_yL_dial_X) (cm := (ck_cms [am_cm l G yX10_dial (.code yX10_dial prog_1_method_2_code 3 (some .int)) 6 123])) (hdl := [("java/lang/IllegalArgumentException", 14)]) g.1.1 (by decide +kernel) rfl (List.forall_mem_cons.mpr ⟨⟨[], _, _, _, rfl, (List.forall_mem_nil _), by decide, by decide, w1216, w676, by decide, Or.inr ⟨3, rfl, rfl, rfl⟩⟩, (List.forall_mem_nil _)⟩) gd_yL_dial_X ⟨(List.forall_mem_nil _), (List.forall_mem_nil _), (List.forall_mem_nil _), (List.forall_mem_nil _), (List.forall_mem_nil _), (List.forall_mem_nil _), (List.forall_mem_nil _), (List.forall_mem_nil _)⟩ (List.forall_mem_cons.mpr ⟨⟨⟨_, _, _, rfl, Or.inr (Or.inl ⟨_, w1206⟩)⟩, by decide, _, rfl, Or.inl g_fd16_0⟩, (List.forall_mem_nil _)⟩) ⟨_, rfl, rfl⟩ (by decide) (by decide) g_oi g_ar
    (fun s hk _ => (List.forall_mem_nil _)) (fun s hk => (List.forall_mem_nil _))
    (List.forall_mem_cons.mpr ⟨(ck_kV g_y_yX10_dial w1217 w1218 w1219 (T := TX10) (N := 13) rfl (by decide) (by decide) (by decide)), (List.forall_mem_nil _)⟩) (List.forall_mem_nil _) (List.forall_mem_nil _) (List.forall_mem_nil _)
    rfl hay H
def gt_yL_set_X : ck_TB := ([], [], [], [], [(13, 16, 0, 3)], [], [], [], ([(21, 0)], [], [], []), [], [], [], 0)
def ge_yL_set_X : ck_E := (gT, [], (([], [], [], 0, []), ((0, []), (0, [])), [], [], ([], [], [], 0, []), []), 5, [(0, (0, 5, 3, 0, 1, 0, [])), (1, (0, 5, 0, 0, 2, 0, [])), (2, (0, 3, 1, 0, 3, 0, [])), (3, (0, 3, 2, 0, 4, 0, [])), (4, (16, 0, 0, 0, 7, 0, [])), (7, (0, 19, 0, 0, 8, 0, [])), (8, (8, 16, 0, 3, 11, 0, [])), (11, (3, 0, 0, 0, 0, 18, [])), (14, (0, 8, 4, 0, 16, 0, [])), (16, (0, 0, 0, 1, 17, 0, [])), (17, (14, 0, 0, 0, 0, 0, [])), (18, (0, 0, 0, 0, 19, 0, [])), (19, (14, 0, 0, 0, 0, 0, []))], [(some 15, 3, [])], [], [], [])
theorem gd_yL_set_X : ck_dec method_3_code gt_yL_set_X ge_yL_set_X.2.2.2.2.1 = true := by decide +kernel
theorem gh_yL_set_X {l : Launch} {G : am_G} {X : ck_XT} (g : gM l G X) {a : List Value} {h : List am_C} {mc ms : Nat} {Post : am_O → List am_C → Prop} (hay : (am_lay a).length ≤ 5) (H : ∀ (S : ck_SS) (SX : Nat → ck_SX), ck_hs G S SX Post mc ms (ck_cms [am_cm l G yX10_set (.code yX10_set prog_1_method_3_code 4 (some .int)) 7 123]) ge_yL_set_X → (∀ pc, ck_sR G S pc) → ck_hw S → zw_hh S SX 4 5 [("java/lang/IndexOutOfBoundsException", 16)] → S 0 (am_ent a 5) [] h 0 0) : am_M l G yL_set (.codeWith yL_set method_3_code 5 (some .int) [(0, 11, 14, 25)]) 8 146 mc ms a h Post :=
  zw_handH (E := ge_yL_set_X) (tb := gt_yL_set_X) (cm := (ck_cms [am_cm l G yX10_set (.code yX10_set prog_1_method_3_code 4 (some .int)) 7 123])) (hdl := [("java/lang/IndexOutOfBoundsException", 16)]) g.1.1 (by decide +kernel) rfl (List.forall_mem_cons.mpr ⟨⟨[], _, _, _, rfl, (List.forall_mem_nil _), by decide, by decide, w1235, w1046, by decide, Or.inl ⟨rfl, rfl⟩⟩, (List.forall_mem_nil _)⟩) gd_yL_set_X ⟨(List.forall_mem_nil _), (List.forall_mem_nil _), (List.forall_mem_nil _), (List.forall_mem_nil _), (List.forall_mem_nil _), (List.forall_mem_nil _), (List.forall_mem_nil _), (List.forall_mem_nil _)⟩ (List.forall_mem_cons.mpr ⟨⟨⟨_, _, _, rfl, Or.inr (Or.inl ⟨_, w1206⟩)⟩, by decide, _, rfl, Or.inl g_fd16_0⟩, (List.forall_mem_nil _)⟩) ⟨_, rfl, rfl⟩ (by decide) (by decide) g_oi g_ar
    (fun s hk _ => (List.forall_mem_nil _)) (fun s hk => (List.forall_mem_nil _))
    (List.forall_mem_cons.mpr ⟨(ck_kV g_y_yX10_set w1236 w1237 w1238 (T := TX10) (N := 13) rfl (by decide) (by decide) (by decide)), (List.forall_mem_nil _)⟩) (List.forall_mem_nil _) (List.forall_mem_nil _) (List.forall_mem_nil _)
    rfl hay H
def gt_yL_lengthen_X : ck_TB := ([], [], [], [], [(13, 16, 0, 3)], [], [], [], ([(27, 0)], [], [], []), [], [], [], 0)
def ge_yL_lengthen_X : ck_E := (gT, [], (([], [], [], 0, []), ((0, []), (0, [])), [], [], ([], [], [], 0, []), []), 5, [(0, (0, 5, 3, 0, 1, 0, [])), (1, (0, 5, 0, 0, 2, 0, [])), (2, (0, 3, 1, 0, 3, 0, [])), (3, (0, 3, 2, 0, 4, 0, [])), (4, (16, 0, 0, 0, 7, 0, [])), (7, (0, 19, 0, 0, 8, 0, [])), (8, (8, 16, 0, 3, 11, 0, [])), (11, (3, 0, 0, 0, 0, 26, [])), (14, (0, 8, 4, 0, 16, 0, [])), (16, (0, 0, 0, 1, 17, 0, [])), (17, (14, 0, 0, 0, 0, 0, [])), (18, (0, 8, 4, 0, 20, 0, [])), (20, (0, 0, 0, 2, 21, 0, [])), (21, (14, 0, 0, 0, 0, 0, [])), (22, (0, 8, 4, 0, 24, 0, [])), (24, (0, 0, 0, 3, 25, 0, [])), (25, (14, 0, 0, 0, 0, 0, [])), (26, (0, 0, 0, 0, 27, 0, [])), (27, (14, 0, 0, 0, 0, 0, []))], [(some 15, 3, [])], [], [], [])
theorem gd_yL_lengthen_X : ck_dec method_4_code gt_yL_lengthen_X ge_yL_lengthen_X.2.2.2.2.1 = true := by decide +kernel
theorem gh_yL_lengthen_X {l : Launch} {G : am_G} {X : ck_XT} (g : gM l G X) {a : List Value} {h : List am_C} {mc ms : Nat} {Post : am_O → List am_C → Prop} (hay : (am_lay a).length ≤ 5) (H : ∀ (S : ck_SS) (SX : Nat → ck_SX), ck_hs G S SX Post mc ms (ck_cms [am_cm l G yX10_lengthen (.code yX10_lengthen prog_1_method_4_code 4 (some .int)) 7 145]) ge_yL_lengthen_X → (∀ pc, ck_sR G S pc) → ck_hw S → zw_hh S SX 4 5 [("java/lang/IndexOutOfBoundsException", 16), ("java/lang/IllegalArgumentException", 20), ("java/lang/IllegalStateException", 24)] → S 0 (am_ent a 5) [] h 0 0) : am_M l G yL_lengthen (.codeWith yL_lengthen method_4_code 5 (some .int) [(0, 11, 14, 25), (0, 11, 18, 19), (0, 11, 22, 30)]) 8 168 mc ms a h Post :=
  zw_handH (E := ge_yL_lengthen_X) (tb := gt_yL_lengthen_X) (cm := (ck_cms [am_cm l G yX10_lengthen (.code yX10_lengthen prog_1_method_4_code 4 (some .int)) 7 145])) (hdl := [("java/lang/IndexOutOfBoundsException", 16), ("java/lang/IllegalArgumentException", 20), ("java/lang/IllegalStateException", 24)]) g.1.1 (by decide +kernel) rfl (List.forall_mem_cons.mpr ⟨⟨[], _, _, _, rfl, (List.forall_mem_nil _), by decide, by decide, w1235, w1046, by decide, Or.inl ⟨rfl, rfl⟩⟩, (List.forall_mem_cons.mpr ⟨⟨[(0, 11, 14, 25)], _, _, _, rfl, (List.forall_mem_cons.mpr ⟨⟨by decide, _, w1235, w77⟩, (List.forall_mem_nil _)⟩), by decide, by decide, w1216, w676, by decide, Or.inl ⟨rfl, rfl⟩⟩, (List.forall_mem_cons.mpr ⟨⟨[(0, 11, 14, 25), (0, 11, 18, 19)], _, _, _, rfl, (List.forall_mem_cons.mpr ⟨⟨by decide, _, w1235, w78⟩, (List.forall_mem_cons.mpr ⟨⟨by decide, _, w1216, w79⟩, (List.forall_mem_nil _)⟩)⟩), by decide, by decide, w1243, w1257, by decide, Or.inl ⟨rfl, rfl⟩⟩, (List.forall_mem_nil _)⟩)⟩)⟩) gd_yL_lengthen_X ⟨(List.forall_mem_nil _), (List.forall_mem_nil _), (List.forall_mem_nil _), (List.forall_mem_nil _), (List.forall_mem_nil _), (List.forall_mem_nil _), (List.forall_mem_nil _), (List.forall_mem_nil _)⟩ (List.forall_mem_cons.mpr ⟨⟨⟨_, _, _, rfl, Or.inr (Or.inl ⟨_, w1206⟩)⟩, by decide, _, rfl, Or.inl g_fd16_0⟩, (List.forall_mem_nil _)⟩) ⟨_, rfl, rfl⟩ (by decide) (by decide) g_oi g_ar
    (fun s hk _ => (List.forall_mem_nil _)) (fun s hk => (List.forall_mem_nil _))
    (List.forall_mem_cons.mpr ⟨(ck_kV g_y_yX10_lengthen w1244 w1245 w1246 (T := TX10) (N := 13) rfl (by decide) (by decide) (by decide)), (List.forall_mem_nil _)⟩) (List.forall_mem_nil _) (List.forall_mem_nil _) (List.forall_mem_nil _)
    rfl hay H
def gt_yL_plus_X : ck_TB := ([], [], [], [], [(13, 16, 0, 3)], [], [], [], ([(32, 0)], [], [], []), [], [], [], 0)
def ge_yL_plus_X : ck_E := (gT, [], (([], [], [], 0, []), ((0, []), (0, [])), [], [], ([], [], [], 0, []), []), 5, [(0, (0, 5, 3, 0, 1, 0, [])), (1, (0, 5, 0, 0, 2, 0, [])), (2, (0, 3, 1, 0, 3, 0, [])), (3, (0, 3, 2, 0, 4, 0, [])), (4, (16, 0, 0, 0, 7, 0, [])), (7, (0, 19, 0, 0, 8, 0, [])), (8, (8, 16, 0, 3, 11, 0, [])), (11, (3, 0, 0, 0, 0, 22, [])), (14, (0, 8, 4, 0, 16, 0, [])), (16, (0, 0, 0, 1, 17, 0, [])), (17, (14, 0, 0, 0, 0, 0, [])), (18, (0, 8, 4, 0, 20, 0, [])), (20, (0, 0, 0, 2, 21, 0, [])), (21, (14, 0, 0, 0, 0, 0, [])), (22, (0, 0, 0, 0, 23, 0, [])), (23, (14, 0, 0, 0, 0, 0, []))], [(some 15, 3, [])], [], [], [])
theorem gd_yL_plus_X : ck_dec method_5_code gt_yL_plus_X ge_yL_plus_X.2.2.2.2.1 = true := by decide +kernel
theorem gh_yL_plus_X {l : Launch} {G : am_G} {X : ck_XT} (g : gM l G X) {a : List Value} {h : List am_C} {mc ms : Nat} {Post : am_O → List am_C → Prop} (hay : (am_lay a).length ≤ 5) (H : ∀ (S : ck_SS) (SX : Nat → ck_SX), ck_hs G S SX Post mc ms (ck_cms [am_cm l G yX10_plus (.code yX10_plus prog_1_method_5_code 5 (some .int)) 7 145]) ge_yL_plus_X → (∀ pc, ck_sR G S pc) → ck_hw S → zw_hh S SX 4 5 [("java/lang/IndexOutOfBoundsException", 16), ("java/lang/IllegalStateException", 20)] → S 0 (am_ent a 5) [] h 0 0) : am_M l G yL_plus (.codeWith yL_plus method_5_code 5 (some .int) [(0, 11, 14, 25), (0, 11, 18, 30)]) 8 169 mc ms a h Post :=
  zw_handH (E := ge_yL_plus_X) (tb := gt_yL_plus_X) (cm := (ck_cms [am_cm l G yX10_plus (.code yX10_plus prog_1_method_5_code 5 (some .int)) 7 145])) (hdl := [("java/lang/IndexOutOfBoundsException", 16), ("java/lang/IllegalStateException", 20)]) g.1.1 (by decide +kernel) rfl (List.forall_mem_cons.mpr ⟨⟨[], _, _, _, rfl, (List.forall_mem_nil _), by decide, by decide, w1235, w1046, by decide, Or.inl ⟨rfl, rfl⟩⟩, (List.forall_mem_cons.mpr ⟨⟨[(0, 11, 14, 25)], _, _, _, rfl, (List.forall_mem_cons.mpr ⟨⟨by decide, _, w1235, w78⟩, (List.forall_mem_nil _)⟩), by decide, by decide, w1243, w1257, by decide, Or.inl ⟨rfl, rfl⟩⟩, (List.forall_mem_nil _)⟩)⟩) gd_yL_plus_X ⟨(List.forall_mem_nil _), (List.forall_mem_nil _), (List.forall_mem_nil _), (List.forall_mem_nil _), (List.forall_mem_nil _), (List.forall_mem_nil _), (List.forall_mem_nil _), (List.forall_mem_nil _)⟩ (List.forall_mem_cons.mpr ⟨⟨⟨_, _, _, rfl, Or.inr (Or.inl ⟨_, w1206⟩)⟩, by decide, _, rfl, Or.inl g_fd16_0⟩, (List.forall_mem_nil _)⟩) ⟨_, rfl, rfl⟩ (by decide) (by decide) g_oi g_ar
    (fun s hk _ => (List.forall_mem_nil _)) (fun s hk => (List.forall_mem_nil _))
    (List.forall_mem_cons.mpr ⟨(ck_kV g_y_yX10_plus w1275 w1276 w1277 (T := TX10) (N := 13) rfl (by decide) (by decide) (by decide)), (List.forall_mem_nil _)⟩) (List.forall_mem_nil _) (List.forall_mem_nil _) (List.forall_mem_nil _)
    rfl hay H
def gt_yL_times_X : ck_TB := ([], [], [], [], [(13, 16, 0, 3)], [], [], [], ([(35, 0)], [], [], []), [], [], [], 0)
def ge_yL_times_X : ck_E := (gT, [], (([], [], [], 0, []), ((0, []), (0, [])), [], [], ([], [], [], 0, []), []), 5, [(0, (0, 5, 3, 0, 1, 0, [])), (1, (0, 5, 0, 0, 2, 0, [])), (2, (0, 3, 1, 0, 3, 0, [])), (3, (0, 3, 2, 0, 4, 0, [])), (4, (16, 0, 0, 0, 7, 0, [])), (7, (0, 19, 0, 0, 8, 0, [])), (8, (8, 16, 0, 3, 11, 0, [])), (11, (3, 0, 0, 0, 0, 22, [])), (14, (0, 8, 4, 0, 16, 0, [])), (16, (0, 0, 0, 1, 17, 0, [])), (17, (14, 0, 0, 0, 0, 0, [])), (18, (0, 8, 4, 0, 20, 0, [])), (20, (0, 0, 0, 2, 21, 0, [])), (21, (14, 0, 0, 0, 0, 0, [])), (22, (0, 0, 0, 0, 23, 0, [])), (23, (14, 0, 0, 0, 0, 0, []))], [(some 15, 3, [])], [], [], [])
theorem gd_yL_times_X : ck_dec method_6_code gt_yL_times_X ge_yL_times_X.2.2.2.2.1 = true := by decide +kernel
theorem gh_yL_times_X {l : Launch} {G : am_G} {X : ck_XT} (g : gM l G X) {a : List Value} {h : List am_C} {mc ms : Nat} {Post : am_O → List am_C → Prop} (hay : (am_lay a).length ≤ 5) (H : ∀ (S : ck_SS) (SX : Nat → ck_SX), ck_hs G S SX Post mc ms (ck_cms [am_cm l G yX10_times (.code yX10_times prog_1_method_6_code 5 (some .int)) 7 145]) ge_yL_times_X → (∀ pc, ck_sR G S pc) → ck_hw S → zw_hh S SX 4 5 [("java/lang/IndexOutOfBoundsException", 16), ("java/lang/IllegalStateException", 20)] → S 0 (am_ent a 5) [] h 0 0) : am_M l G yL_times (.codeWith yL_times method_6_code 5 (some .int) [(0, 11, 14, 25), (0, 11, 18, 30)]) 8 169 mc ms a h Post :=
  zw_handH (E := ge_yL_times_X) (tb := gt_yL_times_X) (cm := (ck_cms [am_cm l G yX10_times (.code yX10_times prog_1_method_6_code 5 (some .int)) 7 145])) (hdl := [("java/lang/IndexOutOfBoundsException", 16), ("java/lang/IllegalStateException", 20)]) g.1.1 (by decide +kernel) rfl (List.forall_mem_cons.mpr ⟨⟨[], _, _, _, rfl, (List.forall_mem_nil _), by decide, by decide, w1235, w1046, by decide, Or.inl ⟨rfl, rfl⟩⟩, (List.forall_mem_cons.mpr ⟨⟨[(0, 11, 14, 25)], _, _, _, rfl, (List.forall_mem_cons.mpr ⟨⟨by decide, _, w1235, w78⟩, (List.forall_mem_nil _)⟩), by decide, by decide, w1243, w1257, by decide, Or.inl ⟨rfl, rfl⟩⟩, (List.forall_mem_nil _)⟩)⟩) gd_yL_times_X ⟨(List.forall_mem_nil _), (List.forall_mem_nil _), (List.forall_mem_nil _), (List.forall_mem_nil _), (List.forall_mem_nil _), (List.forall_mem_nil _), (List.forall_mem_nil _), (List.forall_mem_nil _)⟩ (List.forall_mem_cons.mpr ⟨⟨⟨_, _, _, rfl, Or.inr (Or.inl ⟨_, w1206⟩)⟩, by decide, _, rfl, Or.inl g_fd16_0⟩, (List.forall_mem_nil _)⟩) ⟨_, rfl, rfl⟩ (by decide) (by decide) g_oi g_ar
    (fun s hk _ => (List.forall_mem_nil _)) (fun s hk => (List.forall_mem_nil _))
    (List.forall_mem_cons.mpr ⟨(ck_kV g_y_yX10_times w1282 w1283 w1284 (T := TX10) (N := 13) rfl (by decide) (by decide) (by decide)), (List.forall_mem_nil _)⟩) (List.forall_mem_nil _) (List.forall_mem_nil _) (List.forall_mem_nil _)
    rfl hay H
def gt_yL_negate_X : ck_TB := ([], [], [], [], [(13, 16, 0, 3)], [], [], [], ([(38, 0)], [], [], []), [], [], [], 0)
def ge_yL_negate_X : ck_E := (gT, [], (([], [], [], 0, []), ((0, []), (0, [])), [], [], ([], [], [], 0, []), []), 4, [(0, (0, 5, 2, 0, 1, 0, [])), (1, (0, 5, 0, 0, 2, 0, [])), (2, (0, 3, 1, 0, 3, 0, [])), (3, (16, 0, 0, 0, 6, 0, [])), (6, (0, 19, 0, 0, 7, 0, [])), (7, (8, 16, 0, 3, 10, 0, [])), (10, (3, 0, 0, 0, 0, 16, [])), (13, (0, 8, 3, 0, 14, 0, [])), (14, (0, 0, 0, 1, 15, 0, [])), (15, (14, 0, 0, 0, 0, 0, [])), (16, (0, 0, 0, 0, 17, 0, [])), (17, (14, 0, 0, 0, 0, 0, []))], [(some 15, 2, [])], [], [], [])
theorem gd_yL_negate_X : ck_dec method_7_code gt_yL_negate_X ge_yL_negate_X.2.2.2.2.1 = true := by decide +kernel
theorem gh_yL_negate_X {l : Launch} {G : am_G} {X : ck_XT} (g : gM l G X) {a : List Value} {h : List am_C} {mc ms : Nat} {Post : am_O → List am_C → Prop} (hay : (am_lay a).length ≤ 4) (H : ∀ (S : ck_SS) (SX : Nat → ck_SX), ck_hs G S SX Post mc ms (ck_cms [am_cm l G yX10_negate (.code yX10_negate prog_1_method_7_code 3 (some .int)) 7 123]) ge_yL_negate_X → (∀ pc, ck_sR G S pc) → ck_hw S → zw_hh S SX 3 4 [("java/lang/IndexOutOfBoundsException", 14)] → S 0 (am_ent a 4) [] h 0 0) : am_M l G yL_negate (.codeWith yL_negate method_7_code 4 (some .int) [(0, 10, 13, 25)]) 8 145 mc ms a h Post :=
  zw_handH (E := ge_yL_negate_X) (tb := gt_yL_negate_X) (cm := (ck_cms [am_cm l G yX10_negate (.code yX10_negate prog_1_method_7_code 3 (some .int)) 7 123])) (hdl := [("java/lang/IndexOutOfBoundsException", 14)]) g.1.1 (by decide +kernel) rfl (List.forall_mem_cons.mpr ⟨⟨[], _, _, _, rfl, (List.forall_mem_nil _), by decide, by decide, w1235, w1046, by decide, Or.inr ⟨3, rfl, rfl, rfl⟩⟩, (List.forall_mem_nil _)⟩) gd_yL_negate_X ⟨(List.forall_mem_nil _), (List.forall_mem_nil _), (List.forall_mem_nil _), (List.forall_mem_nil _), (List.forall_mem_nil _), (List.forall_mem_nil _), (List.forall_mem_nil _), (List.forall_mem_nil _)⟩ (List.forall_mem_cons.mpr ⟨⟨⟨_, _, _, rfl, Or.inr (Or.inl ⟨_, w1206⟩)⟩, by decide, _, rfl, Or.inl g_fd16_0⟩, (List.forall_mem_nil _)⟩) ⟨_, rfl, rfl⟩ (by decide) (by decide) g_oi g_ar
    (fun s hk _ => (List.forall_mem_nil _)) (fun s hk => (List.forall_mem_nil _))
    (List.forall_mem_cons.mpr ⟨(ck_kV g_y_yX10_negate w1289 w1290 w1291 (T := TX10) (N := 13) rfl (by decide) (by decide) (by decide)), (List.forall_mem_nil _)⟩) (List.forall_mem_nil _) (List.forall_mem_nil _) (List.forall_mem_nil _)
    rfl hay H
def gt_yL_reduce_X : ck_TB := ([], [], [], [], [(13, 16, 0, 3)], [], [], [], ([(41, 0)], [], [], []), [], [], [], 0)
def ge_yL_reduce_X : ck_E := (gT, [], (([], [], [], 0, []), ((0, []), (0, [])), [], [], ([], [], [], 0, []), []), 4, [(0, (0, 5, 2, 0, 1, 0, [])), (1, (0, 5, 0, 0, 2, 0, [])), (2, (0, 3, 1, 0, 3, 0, [])), (3, (16, 0, 0, 0, 6, 0, [])), (6, (0, 19, 0, 0, 7, 0, [])), (7, (8, 16, 0, 3, 10, 0, [])), (10, (3, 0, 0, 0, 0, 16, [])), (13, (0, 8, 3, 0, 14, 0, [])), (14, (0, 0, 0, 1, 15, 0, [])), (15, (14, 0, 0, 0, 0, 0, [])), (16, (0, 0, 0, 0, 17, 0, [])), (17, (14, 0, 0, 0, 0, 0, []))], [(some 15, 2, [])], [], [], [])
theorem gd_yL_reduce_X : ck_dec method_8_code gt_yL_reduce_X ge_yL_reduce_X.2.2.2.2.1 = true := by decide +kernel
theorem gh_yL_reduce_X {l : Launch} {G : am_G} {X : ck_XT} (g : gM l G X) {a : List Value} {h : List am_C} {mc ms : Nat} {Post : am_O → List am_C → Prop} (hay : (am_lay a).length ≤ 4) (H : ∀ (S : ck_SS) (SX : Nat → ck_SX), ck_hs G S SX Post mc ms (ck_cms [am_cm l G yX10_reduce (.code yX10_reduce prog_1_method_8_code 2 (some .int)) 8 145]) ge_yL_reduce_X → (∀ pc, ck_sR G S pc) → ck_hw S → zw_hh S SX 3 4 [("java/lang/IndexOutOfBoundsException", 14)] → S 0 (am_ent a 4) [] h 0 0) : am_M l G yL_reduce (.codeWith yL_reduce method_8_code 4 (some .int) [(0, 10, 13, 25)]) 9 166 mc ms a h Post :=
  zw_handH (E := ge_yL_reduce_X) (tb := gt_yL_reduce_X) (cm := (ck_cms [am_cm l G yX10_reduce (.code yX10_reduce prog_1_method_8_code 2 (some .int)) 8 145])) (hdl := [("java/lang/IndexOutOfBoundsException", 14)]) g.1.1 (by decide +kernel) rfl (List.forall_mem_cons.mpr ⟨⟨[], _, _, _, rfl, (List.forall_mem_nil _), by decide, by decide, w1235, w1046, by decide, Or.inr ⟨3, rfl, rfl, rfl⟩⟩, (List.forall_mem_nil _)⟩) gd_yL_reduce_X ⟨(List.forall_mem_nil _), (List.forall_mem_nil _), (List.forall_mem_nil _), (List.forall_mem_nil _), (List.forall_mem_nil _), (List.forall_mem_nil _), (List.forall_mem_nil _), (List.forall_mem_nil _)⟩ (List.forall_mem_cons.mpr ⟨⟨⟨_, _, _, rfl, Or.inr (Or.inl ⟨_, w1206⟩)⟩, by decide, _, rfl, Or.inl g_fd16_0⟩, (List.forall_mem_nil _)⟩) ⟨_, rfl, rfl⟩ (by decide) (by decide) g_oi g_ar
    (fun s hk _ => (List.forall_mem_nil _)) (fun s hk => (List.forall_mem_nil _))
    (List.forall_mem_cons.mpr ⟨(ck_kV g_y_yX10_reduce w1296 w1297 w1298 (T := TX10) (N := 13) rfl (by decide) (by decide) (by decide)), (List.forall_mem_nil _)⟩) (List.forall_mem_nil _) (List.forall_mem_nil _) (List.forall_mem_nil _)
    rfl hay H
def gt_yL_roundPlus_X : ck_TB := ([], [], [], [], [(13, 16, 0, 3)], [], [], [], ([(44, 0)], [], [], []), [], [], [], 0)
def ge_yL_roundPlus_X : ck_E := (gT, [], (([], [], [], 0, []), ((0, []), (0, [])), [], [], ([], [], [], 0, []), []), 5, [(0, (0, 5, 3, 0, 1, 0, [])), (1, (0, 5, 0, 0, 2, 0, [])), (2, (0, 3, 1, 0, 3, 0, [])), (3, (0, 3, 2, 0, 4, 0, [])), (4, (16, 0, 0, 0, 7, 0, [])), (7, (0, 19, 0, 0, 8, 0, [])), (8, (8, 16, 0, 3, 11, 0, [])), (11, (3, 0, 0, 0, 0, 18, [])), (14, (0, 8, 4, 0, 16, 0, [])), (16, (0, 0, 0, 1, 17, 0, [])), (17, (14, 0, 0, 0, 0, 0, [])), (18, (0, 0, 0, 0, 19, 0, [])), (19, (14, 0, 0, 0, 0, 0, []))], [(some 15, 3, [])], [], [], [])
theorem gd_yL_roundPlus_X : ck_dec method_9_code gt_yL_roundPlus_X ge_yL_roundPlus_X.2.2.2.2.1 = true := by decide +kernel
theorem gh_yL_roundPlus_X {l : Launch} {G : am_G} {X : ck_XT} (g : gM l G X) {a : List Value} {h : List am_C} {mc ms : Nat} {Post : am_O → List am_C → Prop} (hay : (am_lay a).length ≤ 5) (H : ∀ (S : ck_SS) (SX : Nat → ck_SX), ck_hs G S SX Post mc ms (ck_cms [am_cm l G yX10_roundPlus (.code yX10_roundPlus prog_1_method_9_code 6 (some .int)) 7 145]) ge_yL_roundPlus_X → (∀ pc, ck_sR G S pc) → ck_hw S → zw_hh S SX 4 5 [("java/lang/IndexOutOfBoundsException", 16)] → S 0 (am_ent a 5) [] h 0 0) : am_M l G yL_roundPlus (.codeWith yL_roundPlus method_9_code 5 (some .int) [(0, 11, 14, 25)]) 8 170 mc ms a h Post :=
  zw_handH (E := ge_yL_roundPlus_X) (tb := gt_yL_roundPlus_X) (cm := (ck_cms [am_cm l G yX10_roundPlus (.code yX10_roundPlus prog_1_method_9_code 6 (some .int)) 7 145])) (hdl := [("java/lang/IndexOutOfBoundsException", 16)]) g.1.1 (by decide +kernel) rfl (List.forall_mem_cons.mpr ⟨⟨[], _, _, _, rfl, (List.forall_mem_nil _), by decide, by decide, w1235, w1046, by decide, Or.inl ⟨rfl, rfl⟩⟩, (List.forall_mem_nil _)⟩) gd_yL_roundPlus_X ⟨(List.forall_mem_nil _), (List.forall_mem_nil _), (List.forall_mem_nil _), (List.forall_mem_nil _), (List.forall_mem_nil _), (List.forall_mem_nil _), (List.forall_mem_nil _), (List.forall_mem_nil _)⟩ (List.forall_mem_cons.mpr ⟨⟨⟨_, _, _, rfl, Or.inr (Or.inl ⟨_, w1206⟩)⟩, by decide, _, rfl, Or.inl g_fd16_0⟩, (List.forall_mem_nil _)⟩) ⟨_, rfl, rfl⟩ (by decide) (by decide) g_oi g_ar
    (fun s hk _ => (List.forall_mem_nil _)) (fun s hk => (List.forall_mem_nil _))
    (List.forall_mem_cons.mpr ⟨(ck_kV g_y_yX10_roundPlus w1307 w1308 w1309 (T := TX10) (N := 13) rfl (by decide) (by decide) (by decide)), (List.forall_mem_nil _)⟩) (List.forall_mem_nil _) (List.forall_mem_nil _) (List.forall_mem_nil _)
    rfl hay H
def gt_yL_roundTimes_X : ck_TB := ([], [], [], [], [(13, 16, 0, 3)], [], [], [], ([(47, 0)], [], [], []), [], [], [], 0)
def ge_yL_roundTimes_X : ck_E := (gT, [], (([], [], [], 0, []), ((0, []), (0, [])), [], [], ([], [], [], 0, []), []), 5, [(0, (0, 5, 3, 0, 1, 0, [])), (1, (0, 5, 0, 0, 2, 0, [])), (2, (0, 3, 1, 0, 3, 0, [])), (3, (0, 3, 2, 0, 4, 0, [])), (4, (16, 0, 0, 0, 7, 0, [])), (7, (0, 19, 0, 0, 8, 0, [])), (8, (8, 16, 0, 3, 11, 0, [])), (11, (3, 0, 0, 0, 0, 18, [])), (14, (0, 8, 4, 0, 16, 0, [])), (16, (0, 0, 0, 1, 17, 0, [])), (17, (14, 0, 0, 0, 0, 0, [])), (18, (0, 0, 0, 0, 19, 0, [])), (19, (14, 0, 0, 0, 0, 0, []))], [(some 15, 3, [])], [], [], [])
theorem gd_yL_roundTimes_X : ck_dec method_10_code gt_yL_roundTimes_X ge_yL_roundTimes_X.2.2.2.2.1 = true := by decide +kernel
theorem gh_yL_roundTimes_X {l : Launch} {G : am_G} {X : ck_XT} (g : gM l G X) {a : List Value} {h : List am_C} {mc ms : Nat} {Post : am_O → List am_C → Prop} (hay : (am_lay a).length ≤ 5) (H : ∀ (S : ck_SS) (SX : Nat → ck_SX), ck_hs G S SX Post mc ms (ck_cms [am_cm l G yX10_roundTimes (.code yX10_roundTimes prog_1_method_10_code 6 (some .int)) 7 145]) ge_yL_roundTimes_X → (∀ pc, ck_sR G S pc) → ck_hw S → zw_hh S SX 4 5 [("java/lang/IndexOutOfBoundsException", 16)] → S 0 (am_ent a 5) [] h 0 0) : am_M l G yL_roundTimes (.codeWith yL_roundTimes method_10_code 5 (some .int) [(0, 11, 14, 25)]) 8 170 mc ms a h Post :=
  zw_handH (E := ge_yL_roundTimes_X) (tb := gt_yL_roundTimes_X) (cm := (ck_cms [am_cm l G yX10_roundTimes (.code yX10_roundTimes prog_1_method_10_code 6 (some .int)) 7 145])) (hdl := [("java/lang/IndexOutOfBoundsException", 16)]) g.1.1 (by decide +kernel) rfl (List.forall_mem_cons.mpr ⟨⟨[], _, _, _, rfl, (List.forall_mem_nil _), by decide, by decide, w1235, w1046, by decide, Or.inl ⟨rfl, rfl⟩⟩, (List.forall_mem_nil _)⟩) gd_yL_roundTimes_X ⟨(List.forall_mem_nil _), (List.forall_mem_nil _), (List.forall_mem_nil _), (List.forall_mem_nil _), (List.forall_mem_nil _), (List.forall_mem_nil _), (List.forall_mem_nil _), (List.forall_mem_nil _)⟩ (List.forall_mem_cons.mpr ⟨⟨⟨_, _, _, rfl, Or.inr (Or.inl ⟨_, w1206⟩)⟩, by decide, _, rfl, Or.inl g_fd16_0⟩, (List.forall_mem_nil _)⟩) ⟨_, rfl, rfl⟩ (by decide) (by decide) g_oi g_ar
    (fun s hk _ => (List.forall_mem_nil _)) (fun s hk => (List.forall_mem_nil _))
    (List.forall_mem_cons.mpr ⟨(ck_kV g_y_yX10_roundTimes w1314 w1315 w1316 (T := TX10) (N := 13) rfl (by decide) (by decide) (by decide)), (List.forall_mem_nil _)⟩) (List.forall_mem_nil _) (List.forall_mem_nil _) (List.forall_mem_nil _)
    rfl hay H
def gt_yL_roundPower_X : ck_TB := ([], [], [], [], [(13, 16, 0, 3)], [], [], [], ([(50, 0)], [], [], []), [], [], [], 0)
def ge_yL_roundPower_X : ck_E := (gT, [], (([], [], [], 0, []), ((0, []), (0, [])), [], [], ([], [], [], 0, []), []), 5, [(0, (0, 5, 3, 0, 1, 0, [])), (1, (0, 5, 0, 0, 2, 0, [])), (2, (0, 3, 1, 0, 3, 0, [])), (3, (0, 3, 2, 0, 4, 0, [])), (4, (16, 0, 0, 0, 7, 0, [])), (7, (0, 19, 0, 0, 8, 0, [])), (8, (8, 16, 0, 3, 11, 0, [])), (11, (3, 0, 0, 0, 0, 18, [])), (14, (0, 8, 4, 0, 16, 0, [])), (16, (0, 0, 0, 1, 17, 0, [])), (17, (14, 0, 0, 0, 0, 0, [])), (18, (0, 0, 0, 0, 19, 0, [])), (19, (14, 0, 0, 0, 0, 0, []))], [(some 15, 3, [])], [], [], [])
theorem gd_yL_roundPower_X : ck_dec method_11_code gt_yL_roundPower_X ge_yL_roundPower_X.2.2.2.2.1 = true := by decide +kernel
theorem gh_yL_roundPower_X {l : Launch} {G : am_G} {X : ck_XT} (g : gM l G X) {a : List Value} {h : List am_C} {mc ms : Nat} {Post : am_O → List am_C → Prop} (hay : (am_lay a).length ≤ 5) (H : ∀ (S : ck_SS) (SX : Nat → ck_SX), ck_hs G S SX Post mc ms (ck_cms [am_cm l G yX10_roundPower (.code yX10_roundPower prog_1_method_11_code 3 (some .int)) 8 145]) ge_yL_roundPower_X → (∀ pc, ck_sR G S pc) → ck_hw S → zw_hh S SX 4 5 [("java/lang/IndexOutOfBoundsException", 16)] → S 0 (am_ent a 5) [] h 0 0) : am_M l G yL_roundPower (.codeWith yL_roundPower method_11_code 5 (some .int) [(0, 11, 14, 25)]) 9 167 mc ms a h Post :=
  zw_handH (E := ge_yL_roundPower_X) (tb := gt_yL_roundPower_X) (cm := (ck_cms [am_cm l G yX10_roundPower (.code yX10_roundPower prog_1_method_11_code 3 (some .int)) 8 145])) (hdl := [("java/lang/IndexOutOfBoundsException", 16)]) g.1.1 (by decide +kernel) rfl (List.forall_mem_cons.mpr ⟨⟨[], _, _, _, rfl, (List.forall_mem_nil _), by decide, by decide, w1235, w1046, by decide, Or.inl ⟨rfl, rfl⟩⟩, (List.forall_mem_nil _)⟩) gd_yL_roundPower_X ⟨(List.forall_mem_nil _), (List.forall_mem_nil _), (List.forall_mem_nil _), (List.forall_mem_nil _), (List.forall_mem_nil _), (List.forall_mem_nil _), (List.forall_mem_nil _), (List.forall_mem_nil _)⟩ (List.forall_mem_cons.mpr ⟨⟨⟨_, _, _, rfl, Or.inr (Or.inl ⟨_, w1206⟩)⟩, by decide, _, rfl, Or.inl g_fd16_0⟩, (List.forall_mem_nil _)⟩) ⟨_, rfl, rfl⟩ (by decide) (by decide) g_oi g_ar
    (fun s hk _ => (List.forall_mem_nil _)) (fun s hk => (List.forall_mem_nil _))
    (List.forall_mem_cons.mpr ⟨(ck_kV g_y_yX10_roundPower w1321 w1322 w1323 (T := TX10) (N := 13) rfl (by decide) (by decide) (by decide)), (List.forall_mem_nil _)⟩) (List.forall_mem_nil _) (List.forall_mem_nil _) (List.forall_mem_nil _)
    rfl hay H
def gt_yL_roundInverse_X : ck_TB := ([], [], [], [], [(13, 16, 0, 3)], [], [], [], ([(53, 0)], [], [], []), [], [], [], 0)
def ge_yL_roundInverse_X : ck_E := (gT, [], (([], [], [], 0, []), ((0, []), (0, [])), [], [], ([], [], [], 0, []), []), 4, [(0, (0, 5, 2, 0, 1, 0, [])), (1, (0, 5, 0, 0, 2, 0, [])), (2, (0, 3, 1, 0, 3, 0, [])), (3, (16, 0, 0, 0, 6, 0, [])), (6, (0, 19, 0, 0, 7, 0, [])), (7, (8, 16, 0, 3, 10, 0, [])), (10, (3, 0, 0, 0, 0, 16, [])), (13, (0, 8, 3, 0, 14, 0, [])), (14, (0, 0, 0, 1, 15, 0, [])), (15, (14, 0, 0, 0, 0, 0, [])), (16, (0, 0, 0, 0, 17, 0, [])), (17, (14, 0, 0, 0, 0, 0, []))], [(some 15, 2, [])], [], [], [])
theorem gd_yL_roundInverse_X : ck_dec method_12_code gt_yL_roundInverse_X ge_yL_roundInverse_X.2.2.2.2.1 = true := by decide +kernel
theorem gh_yL_roundInverse_X {l : Launch} {G : am_G} {X : ck_XT} (g : gM l G X) {a : List Value} {h : List am_C} {mc ms : Nat} {Post : am_O → List am_C → Prop} (hay : (am_lay a).length ≤ 4) (H : ∀ (S : ck_SS) (SX : Nat → ck_SX), ck_hs G S SX Post mc ms (ck_cms [am_cm l G yX10_roundInverse (.code yX10_roundInverse prog_1_method_12_code 2 (some .int)) 8 145]) ge_yL_roundInverse_X → (∀ pc, ck_sR G S pc) → ck_hw S → zw_hh S SX 3 4 [("java/lang/IndexOutOfBoundsException", 14)] → S 0 (am_ent a 4) [] h 0 0) : am_M l G yL_roundInverse (.codeWith yL_roundInverse method_12_code 4 (some .int) [(0, 10, 13, 25)]) 9 166 mc ms a h Post :=
  zw_handH (E := ge_yL_roundInverse_X) (tb := gt_yL_roundInverse_X) (cm := (ck_cms [am_cm l G yX10_roundInverse (.code yX10_roundInverse prog_1_method_12_code 2 (some .int)) 8 145])) (hdl := [("java/lang/IndexOutOfBoundsException", 14)]) g.1.1 (by decide +kernel) rfl (List.forall_mem_cons.mpr ⟨⟨[], _, _, _, rfl, (List.forall_mem_nil _), by decide, by decide, w1235, w1046, by decide, Or.inr ⟨3, rfl, rfl, rfl⟩⟩, (List.forall_mem_nil _)⟩) gd_yL_roundInverse_X ⟨(List.forall_mem_nil _), (List.forall_mem_nil _), (List.forall_mem_nil _), (List.forall_mem_nil _), (List.forall_mem_nil _), (List.forall_mem_nil _), (List.forall_mem_nil _), (List.forall_mem_nil _)⟩ (List.forall_mem_cons.mpr ⟨⟨⟨_, _, _, rfl, Or.inr (Or.inl ⟨_, w1206⟩)⟩, by decide, _, rfl, Or.inl g_fd16_0⟩, (List.forall_mem_nil _)⟩) ⟨_, rfl, rfl⟩ (by decide) (by decide) g_oi g_ar
    (fun s hk _ => (List.forall_mem_nil _)) (fun s hk => (List.forall_mem_nil _))
    (List.forall_mem_cons.mpr ⟨(ck_kV g_y_yX10_roundInverse w1328 w1329 w1330 (T := TX10) (N := 13) rfl (by decide) (by decide) (by decide)), (List.forall_mem_nil _)⟩) (List.forall_mem_nil _) (List.forall_mem_nil _) (List.forall_mem_nil _)
    rfl hay H
def gt_yL_tell_X : ck_TB := ([], [], [], [], [(13, 16, 0, 3)], [], [], [], ([(56, 0)], [], [], []), [], [], [], 0)
def ge_yL_tell_X : ck_E := (gT, [], (([], [], [], 0, []), ((0, []), (0, [])), [], [], ([], [], [], 0, []), []), 5, [(0, (0, 5, 3, 0, 1, 0, [])), (1, (0, 5, 0, 0, 2, 0, [])), (2, (0, 3, 1, 0, 3, 0, [])), (3, (0, 3, 2, 0, 4, 0, [])), (4, (16, 0, 0, 0, 7, 0, [])), (7, (0, 19, 0, 0, 8, 0, [])), (8, (8, 16, 0, 3, 11, 0, [])), (11, (3, 0, 0, 0, 0, 22, [])), (14, (0, 8, 4, 0, 16, 0, [])), (16, (0, 0, 0, 1, 17, 0, [])), (17, (14, 0, 0, 0, 0, 0, [])), (18, (0, 8, 4, 0, 20, 0, [])), (20, (0, 0, 0, 2, 21, 0, [])), (21, (14, 0, 0, 0, 0, 0, [])), (22, (0, 0, 0, 0, 23, 0, [])), (23, (14, 0, 0, 0, 0, 0, []))], [(some 15, 3, [])], [], [], [])
theorem gd_yL_tell_X : ck_dec method_13_code gt_yL_tell_X ge_yL_tell_X.2.2.2.2.1 = true := by decide +kernel
theorem gh_yL_tell_X {l : Launch} {G : am_G} {X : ck_XT} (g : gM l G X) {a : List Value} {h : List am_C} {mc ms : Nat} {Post : am_O → List am_C → Prop} (hay : (am_lay a).length ≤ 5) (H : ∀ (S : ck_SS) (SX : Nat → ck_SX), ck_hs G S SX Post mc ms (ck_cms [am_cm l G yX10_tell (.code yX10_tell prog_1_method_13_code 3 (some .int)) 7 145]) ge_yL_tell_X → (∀ pc, ck_sR G S pc) → ck_hw S → zw_hh S SX 4 5 [("java/lang/IllegalArgumentException", 16), ("java/lang/IllegalStateException", 20)] → S 0 (am_ent a 5) [] h 0 0) : am_M l G yL_tell (.codeWith yL_tell method_13_code 5 (some .int) [(0, 11, 14, 19), (0, 11, 18, 30)]) 8 167 mc ms a h Post :=
  zw_handH (E := ge_yL_tell_X) (tb := gt_yL_tell_X) (cm := (ck_cms [am_cm l G yX10_tell (.code yX10_tell prog_1_method_13_code 3 (some .int)) 7 145])) (hdl := [("java/lang/IllegalArgumentException", 16), ("java/lang/IllegalStateException", 20)]) g.1.1 (by decide +kernel) rfl (List.forall_mem_cons.mpr ⟨⟨[], _, _, _, rfl, (List.forall_mem_nil _), by decide, by decide, w1216, w676, by decide, Or.inl ⟨rfl, rfl⟩⟩, (List.forall_mem_cons.mpr ⟨⟨[(0, 11, 14, 19)], _, _, _, rfl, (List.forall_mem_cons.mpr ⟨⟨by decide, _, w1216, w79⟩, (List.forall_mem_nil _)⟩), by decide, by decide, w1243, w1257, by decide, Or.inl ⟨rfl, rfl⟩⟩, (List.forall_mem_nil _)⟩)⟩) gd_yL_tell_X ⟨(List.forall_mem_nil _), (List.forall_mem_nil _), (List.forall_mem_nil _), (List.forall_mem_nil _), (List.forall_mem_nil _), (List.forall_mem_nil _), (List.forall_mem_nil _), (List.forall_mem_nil _)⟩ (List.forall_mem_cons.mpr ⟨⟨⟨_, _, _, rfl, Or.inr (Or.inl ⟨_, w1206⟩)⟩, by decide, _, rfl, Or.inl g_fd16_0⟩, (List.forall_mem_nil _)⟩) ⟨_, rfl, rfl⟩ (by decide) (by decide) g_oi g_ar
    (fun s hk _ => (List.forall_mem_nil _)) (fun s hk => (List.forall_mem_nil _))
    (List.forall_mem_cons.mpr ⟨(ck_kV g_y_yX10_tell w1335 w1336 w1337 (T := TX10) (N := 13) rfl (by decide) (by decide) (by decide)), (List.forall_mem_nil _)⟩) (List.forall_mem_nil _) (List.forall_mem_nil _) (List.forall_mem_nil _)
    rfl hay H
def gt_yL_tellIf_X : ck_TB := ([], [], [], [], [(13, 16, 0, 3)], [], [], [], ([(59, 0)], [], [], []), [], [], [], 0)
def ge_yL_tellIf_X : ck_E := (gT, [], (([], [], [], 0, []), ((0, []), (0, [])), [], [], ([], [], [], 0, []), []), 5, [(0, (0, 5, 3, 0, 1, 0, [])), (1, (0, 5, 0, 0, 2, 0, [])), (2, (0, 3, 1, 0, 3, 0, [])), (3, (0, 3, 2, 0, 4, 0, [])), (4, (16, 0, 0, 0, 7, 0, [])), (7, (1, 0, 0, 0, 10, 14, [])), (10, (0, 1, 0, 1, 11, 0, [])), (11, (3, 0, 0, 0, 0, 15, [])), (14, (0, 1, 0, 0, 15, 0, [])), (15, (8, 16, 0, 3, 18, 0, [])), (18, (3, 0, 0, 0, 0, 29, [])), (21, (0, 8, 4, 0, 23, 0, [])), (23, (0, 0, 0, 1, 24, 0, [])), (24, (14, 0, 0, 0, 0, 0, [])), (25, (0, 8, 4, 0, 27, 0, [])), (27, (0, 0, 0, 2, 28, 0, [])), (28, (14, 0, 0, 0, 0, 0, [])), (29, (0, 0, 0, 0, 30, 0, [])), (30, (14, 0, 0, 0, 0, 0, []))], [(some 15, 3, [])], [], [], [])
theorem gd_yL_tellIf_X : ck_dec method_14_code gt_yL_tellIf_X ge_yL_tellIf_X.2.2.2.2.1 = true := by decide +kernel
theorem gh_yL_tellIf_X {l : Launch} {G : am_G} {X : ck_XT} (g : gM l G X) {a : List Value} {h : List am_C} {mc ms : Nat} {Post : am_O → List am_C → Prop} (hay : (am_lay a).length ≤ 5) (H : ∀ (S : ck_SS) (SX : Nat → ck_SX), ck_hs G S SX Post mc ms (ck_cms [am_cm l G yX10_tellIf (.code yX10_tellIf prog_1_method_14_code 3 (some .boolean)) 7 145]) ge_yL_tellIf_X → (∀ pc, ck_sR G S pc) → ck_hw S → zw_hh S SX 4 5 [("java/lang/IllegalArgumentException", 23), ("java/lang/IllegalStateException", 27)] → S 0 (am_ent a 5) [] h 0 0) : am_M l G yL_tellIf (.codeWith yL_tellIf method_14_code 5 (some .int) [(0, 18, 21, 19), (0, 18, 25, 30)]) 8 167 mc ms a h Post :=
  zw_handH (E := ge_yL_tellIf_X) (tb := gt_yL_tellIf_X) (cm := (ck_cms [am_cm l G yX10_tellIf (.code yX10_tellIf prog_1_method_14_code 3 (some .boolean)) 7 145])) (hdl := [("java/lang/IllegalArgumentException", 23), ("java/lang/IllegalStateException", 27)]) g.1.1 (by decide +kernel) rfl (List.forall_mem_cons.mpr ⟨⟨[], _, _, _, rfl, (List.forall_mem_nil _), by decide, by decide, w1216, w676, by decide, Or.inl ⟨rfl, rfl⟩⟩, (List.forall_mem_cons.mpr ⟨⟨[(0, 18, 21, 19)], _, _, _, rfl, (List.forall_mem_cons.mpr ⟨⟨by decide, _, w1216, w79⟩, (List.forall_mem_nil _)⟩), by decide, by decide, w1243, w1257, by decide, Or.inl ⟨rfl, rfl⟩⟩, (List.forall_mem_nil _)⟩)⟩) gd_yL_tellIf_X ⟨(List.forall_mem_nil _), (List.forall_mem_nil _), (List.forall_mem_nil _), (List.forall_mem_nil _), (List.forall_mem_nil _), (List.forall_mem_nil _), (List.forall_mem_nil _), (List.forall_mem_nil _)⟩ (List.forall_mem_cons.mpr ⟨⟨⟨_, _, _, rfl, Or.inr (Or.inl ⟨_, w1206⟩)⟩, by decide, _, rfl, Or.inl g_fd16_0⟩, (List.forall_mem_nil _)⟩) ⟨_, rfl, rfl⟩ (by decide) (by decide) g_oi g_ar
    (fun s hk _ => (List.forall_mem_nil _)) (fun s hk => (List.forall_mem_nil _))
    (List.forall_mem_cons.mpr ⟨(ck_kV g_y_yX10_tellIf w1361 w1362 w1363 (T := TX10) (N := 13) rfl (by decide) (by decide) (by decide)), (List.forall_mem_nil _)⟩) (List.forall_mem_nil _) (List.forall_mem_nil _) (List.forall_mem_nil _)
    rfl hay H
def gt_yL_drop_X : ck_TB := ([], [], [], [], [(13, 16, 0, 3)], [], [], [], ([(63, 0)], [], [], []), [], [], [], 0)
def ge_yL_drop_X : ck_E := (gT, [], (([], [], [], 0, []), ((0, []), (0, [])), [], [], ([], [], [], 0, []), []), 4, [(0, (0, 5, 2, 0, 1, 0, [])), (1, (0, 5, 0, 0, 2, 0, [])), (2, (0, 3, 1, 0, 3, 0, [])), (3, (16, 0, 0, 0, 6, 0, [])), (6, (0, 19, 0, 0, 7, 0, [])), (7, (8, 16, 0, 3, 10, 0, [])), (10, (3, 0, 0, 0, 0, 16, [])), (13, (0, 8, 3, 0, 14, 0, [])), (14, (0, 0, 0, 1, 15, 0, [])), (15, (14, 0, 0, 0, 0, 0, [])), (16, (0, 0, 0, 0, 17, 0, [])), (17, (14, 0, 0, 0, 0, 0, []))], [(some 15, 2, [])], [], [], [])
theorem gd_yL_drop_X : ck_dec method_15_code gt_yL_drop_X ge_yL_drop_X.2.2.2.2.1 = true := by decide +kernel
theorem gh_yL_drop_X {l : Launch} {G : am_G} {X : ck_XT} (g : gM l G X) {a : List Value} {h : List am_C} {mc ms : Nat} {Post : am_O → List am_C → Prop} (hay : (am_lay a).length ≤ 4) (H : ∀ (S : ck_SS) (SX : Nat → ck_SX), ck_hs G S SX Post mc ms (ck_cms [am_cm l G yX10_drop (.code yX10_drop prog_1_method_15_code 2 (some .int)) 7 123]) ge_yL_drop_X → (∀ pc, ck_sR G S pc) → ck_hw S → zw_hh S SX 3 4 [("java/lang/IndexOutOfBoundsException", 14)] → S 0 (am_ent a 4) [] h 0 0) : am_M l G yL_drop (.codeWith yL_drop method_15_code 4 (some .int) [(0, 10, 13, 25)]) 8 144 mc ms a h Post :=
  zw_handH (E := ge_yL_drop_X) (tb := gt_yL_drop_X) (cm := (ck_cms [am_cm l G yX10_drop (.code yX10_drop prog_1_method_15_code 2 (some .int)) 7 123])) (hdl := [("java/lang/IndexOutOfBoundsException", 14)]) g.1.1 (by decide +kernel) rfl (List.forall_mem_cons.mpr ⟨⟨[], _, _, _, rfl, (List.forall_mem_nil _), by decide, by decide, w1235, w1046, by decide, Or.inr ⟨3, rfl, rfl, rfl⟩⟩, (List.forall_mem_nil _)⟩) gd_yL_drop_X ⟨(List.forall_mem_nil _), (List.forall_mem_nil _), (List.forall_mem_nil _), (List.forall_mem_nil _), (List.forall_mem_nil _), (List.forall_mem_nil _), (List.forall_mem_nil _), (List.forall_mem_nil _)⟩ (List.forall_mem_cons.mpr ⟨⟨⟨_, _, _, rfl, Or.inr (Or.inl ⟨_, w1206⟩)⟩, by decide, _, rfl, Or.inl g_fd16_0⟩, (List.forall_mem_nil _)⟩) ⟨_, rfl, rfl⟩ (by decide) (by decide) g_oi g_ar
    (fun s hk _ => (List.forall_mem_nil _)) (fun s hk => (List.forall_mem_nil _))
    (List.forall_mem_cons.mpr ⟨(ck_kV g_y_yX10_drop w1369 w1370 w1371 (T := TX10) (N := 13) rfl (by decide) (by decide) (by decide)), (List.forall_mem_nil _)⟩) (List.forall_mem_nil _) (List.forall_mem_nil _) (List.forall_mem_nil _)
    rfl hay H
def gt_yL_base_X : ck_TB := ([], [], [], [], [(13, 16, 0, 3)], [], [], [], ([(66, 0)], [], [], []), [], [], [], 0)
def ge_yL_base_X : ck_E := (gT, [], (([], [], [], 0, []), ((0, []), (0, [])), [], [], ([], [], [], 0, []), []), 4, [(0, (0, 5, 2, 0, 1, 0, [])), (1, (0, 5, 0, 0, 2, 0, [])), (2, (0, 3, 1, 0, 3, 0, [])), (3, (16, 0, 0, 0, 6, 0, [])), (6, (0, 19, 0, 0, 7, 0, [])), (7, (8, 16, 0, 3, 10, 0, [])), (10, (3, 0, 0, 0, 0, 19, [])), (13, (0, 8, 3, 0, 14, 0, [])), (14, (0, 0, 0, 1, 15, 0, [])), (15, (14, 0, 0, 0, 0, 0, [])), (16, (0, 8, 3, 0, 17, 0, [])), (17, (0, 0, 0, 2, 18, 0, [])), (18, (14, 0, 0, 0, 0, 0, [])), (19, (0, 0, 0, 0, 20, 0, [])), (20, (14, 0, 0, 0, 0, 0, []))], [(some 15, 2, [])], [], [], [])
theorem gd_yL_base_X : ck_dec method_16_code gt_yL_base_X ge_yL_base_X.2.2.2.2.1 = true := by decide +kernel
theorem gh_yL_base_X {l : Launch} {G : am_G} {X : ck_XT} (g : gM l G X) {a : List Value} {h : List am_C} {mc ms : Nat} {Post : am_O → List am_C → Prop} (hay : (am_lay a).length ≤ 4) (H : ∀ (S : ck_SS) (SX : Nat → ck_SX), ck_hs G S SX Post mc ms (ck_cms [am_cm l G yX10_base (.code yX10_base prog_1_method_16_code 2 (some .int)) 6 123]) ge_yL_base_X → (∀ pc, ck_sR G S pc) → ck_hw S → zw_hh S SX 3 4 [("java/lang/IllegalArgumentException", 14), ("java/lang/IllegalStateException", 17)] → S 0 (am_ent a 4) [] h 0 0) : am_M l G yL_base (.codeWith yL_base method_16_code 4 (some .int) [(0, 10, 13, 19), (0, 10, 16, 30)]) 7 144 mc ms a h Post :=
  zw_handH (E := ge_yL_base_X) (tb := gt_yL_base_X) (cm := (ck_cms [am_cm l G yX10_base (.code yX10_base prog_1_method_16_code 2 (some .int)) 6 123])) (hdl := [("java/lang/IllegalArgumentException", 14), ("java/lang/IllegalStateException", 17)]) g.1.1 (by decide +kernel) rfl (List.forall_mem_cons.mpr ⟨⟨[], _, _, _, rfl, (List.forall_mem_nil _), by decide, by decide, w1216, w676, by decide, Or.inr ⟨3, rfl, rfl, rfl⟩⟩, (List.forall_mem_cons.mpr ⟨⟨[(0, 10, 13, 19)], _, _, _, rfl, (List.forall_mem_cons.mpr ⟨⟨by decide, _, w1216, w79⟩, (List.forall_mem_nil _)⟩), by decide, by decide, w1243, w1257, by decide, Or.inr ⟨3, rfl, rfl, rfl⟩⟩, (List.forall_mem_nil _)⟩)⟩) gd_yL_base_X ⟨(List.forall_mem_nil _), (List.forall_mem_nil _), (List.forall_mem_nil _), (List.forall_mem_nil _), (List.forall_mem_nil _), (List.forall_mem_nil _), (List.forall_mem_nil _), (List.forall_mem_nil _)⟩ (List.forall_mem_cons.mpr ⟨⟨⟨_, _, _, rfl, Or.inr (Or.inl ⟨_, w1206⟩)⟩, by decide, _, rfl, Or.inl g_fd16_0⟩, (List.forall_mem_nil _)⟩) ⟨_, rfl, rfl⟩ (by decide) (by decide) g_oi g_ar
    (fun s hk _ => (List.forall_mem_nil _)) (fun s hk => (List.forall_mem_nil _))
    (List.forall_mem_cons.mpr ⟨(ck_kV g_y_yX10_base w1385 w1386 w1387 (T := TX10) (N := 13) rfl (by decide) (by decide) (by decide)), (List.forall_mem_nil _)⟩) (List.forall_mem_nil _) (List.forall_mem_nil _) (List.forall_mem_nil _)
    rfl hay H
def gt_yL_unbase_X : ck_TB := ([], [], [], [], [(13, 16, 0, 3)], [], [], [], ([(69, 0)], [], [], []), [], [], [], 0)
def ge_yL_unbase_X : ck_E := (gT, [], (([], [], [], 0, []), ((0, []), (0, [])), [], [], ([], [], [], 0, []), []), 3, [(0, (0, 5, 1, 0, 1, 0, [])), (1, (0, 5, 0, 0, 2, 0, [])), (2, (16, 0, 0, 0, 5, 0, [])), (5, (0, 19, 0, 0, 6, 0, [])), (6, (8, 16, 0, 3, 9, 0, [])), (9, (3, 0, 0, 0, 0, 15, [])), (12, (0, 8, 2, 0, 13, 0, [])), (13, (0, 0, 0, 1, 14, 0, [])), (14, (14, 0, 0, 0, 0, 0, [])), (15, (0, 0, 0, 0, 16, 0, [])), (16, (14, 0, 0, 0, 0, 0, []))], [(some 15, 1, [])], [], [], [])
theorem gd_yL_unbase_X : ck_dec method_17_code gt_yL_unbase_X ge_yL_unbase_X.2.2.2.2.1 = true := by decide +kernel
theorem gh_yL_unbase_X {l : Launch} {G : am_G} {X : ck_XT} (g : gM l G X) {a : List Value} {h : List am_C} {mc ms : Nat} {Post : am_O → List am_C → Prop} (hay : (am_lay a).length ≤ 3) (H : ∀ (S : ck_SS) (SX : Nat → ck_SX), ck_hs G S SX Post mc ms (ck_cms [am_cm l G yX10_unbase (.code yX10_unbase prog_1_method_17_code 1 (some .int)) 6 123]) ge_yL_unbase_X → (∀ pc, ck_sR G S pc) → ck_hw S → zw_hh S SX 2 3 [("java/lang/IllegalStateException", 13)] → S 0 (am_ent a 3) [] h 0 0) : am_M l G yL_unbase (.codeWith yL_unbase method_17_code 3 (some .int) [(0, 9, 12, 30)]) 7 143 mc ms a h Post :=
  zw_handH (E := ge_yL_unbase_X) (tb := gt_yL_unbase_X) (cm := (ck_cms [am_cm l G yX10_unbase (.code yX10_unbase prog_1_method_17_code 1 (some .int)) 6 123])) (hdl := [("java/lang/IllegalStateException", 13)]) g.1.1 (by decide +kernel) rfl (List.forall_mem_cons.mpr ⟨⟨[], _, _, _, rfl, (List.forall_mem_nil _), by decide, by decide, w1243, w1257, by decide, Or.inr ⟨2, rfl, rfl, rfl⟩⟩, (List.forall_mem_nil _)⟩) gd_yL_unbase_X ⟨(List.forall_mem_nil _), (List.forall_mem_nil _), (List.forall_mem_nil _), (List.forall_mem_nil _), (List.forall_mem_nil _), (List.forall_mem_nil _), (List.forall_mem_nil _), (List.forall_mem_nil _)⟩ (List.forall_mem_cons.mpr ⟨⟨⟨_, _, _, rfl, Or.inr (Or.inl ⟨_, w1206⟩)⟩, by decide, _, rfl, Or.inl g_fd16_0⟩, (List.forall_mem_nil _)⟩) ⟨_, rfl, rfl⟩ (by decide) (by decide) g_oi g_ar
    (fun s hk _ => (List.forall_mem_nil _)) (fun s hk => (List.forall_mem_nil _))
    (List.forall_mem_cons.mpr ⟨(ck_kV g_y_yX10_unbase w1402 w1403 w1404 (T := TX10) (N := 13) rfl (by decide) (by decide) (by decide)), (List.forall_mem_nil _)⟩) (List.forall_mem_nil _) (List.forall_mem_nil _) (List.forall_mem_nil _)
    rfl hay H
def gt_yL_undo_X : ck_TB := ([], [], [], [], [(13, 16, 0, 3)], [], [], [], ([(73, 0)], [], [], []), [], [], [], 0)
def ge_yL_undo_X : ck_E := (gT, [], (([], [], [], 0, []), ((0, []), (0, [])), [], [], ([], [], [], 0, []), []), 3, [(0, (0, 5, 1, 0, 1, 0, [])), (1, (0, 5, 0, 0, 2, 0, [])), (2, (16, 0, 0, 0, 5, 0, [])), (5, (0, 19, 0, 0, 6, 0, [])), (6, (8, 16, 0, 3, 9, 0, [])), (9, (3, 0, 0, 0, 0, 15, [])), (12, (0, 8, 2, 0, 13, 0, [])), (13, (0, 0, 0, 1, 14, 0, [])), (14, (14, 0, 0, 0, 0, 0, [])), (15, (0, 0, 0, 0, 16, 0, [])), (16, (14, 0, 0, 0, 0, 0, []))], [(some 15, 1, [])], [], [], [])
theorem gd_yL_undo_X : ck_dec method_18_code gt_yL_undo_X ge_yL_undo_X.2.2.2.2.1 = true := by decide +kernel
theorem gh_yL_undo_X {l : Launch} {G : am_G} {X : ck_XT} (g : gM l G X) {a : List Value} {h : List am_C} {mc ms : Nat} {Post : am_O → List am_C → Prop} (hay : (am_lay a).length ≤ 3) (H : ∀ (S : ck_SS) (SX : Nat → ck_SX), ck_hs G S SX Post mc ms (ck_cms [am_cm l G yX10_undo (.code yX10_undo prog_1_method_18_code 1 (some .int)) 6 123]) ge_yL_undo_X → (∀ pc, ck_sR G S pc) → ck_hw S → zw_hh S SX 2 3 [("java/lang/IllegalStateException", 13)] → S 0 (am_ent a 3) [] h 0 0) : am_M l G yL_undo (.codeWith yL_undo method_18_code 3 (some .int) [(0, 9, 12, 30)]) 7 143 mc ms a h Post :=
  zw_handH (E := ge_yL_undo_X) (tb := gt_yL_undo_X) (cm := (ck_cms [am_cm l G yX10_undo (.code yX10_undo prog_1_method_18_code 1 (some .int)) 6 123])) (hdl := [("java/lang/IllegalStateException", 13)]) g.1.1 (by decide +kernel) rfl (List.forall_mem_cons.mpr ⟨⟨[], _, _, _, rfl, (List.forall_mem_nil _), by decide, by decide, w1243, w1257, by decide, Or.inr ⟨2, rfl, rfl, rfl⟩⟩, (List.forall_mem_nil _)⟩) gd_yL_undo_X ⟨(List.forall_mem_nil _), (List.forall_mem_nil _), (List.forall_mem_nil _), (List.forall_mem_nil _), (List.forall_mem_nil _), (List.forall_mem_nil _), (List.forall_mem_nil _), (List.forall_mem_nil _)⟩ (List.forall_mem_cons.mpr ⟨⟨⟨_, _, _, rfl, Or.inr (Or.inl ⟨_, w1206⟩)⟩, by decide, _, rfl, Or.inl g_fd16_0⟩, (List.forall_mem_nil _)⟩) ⟨_, rfl, rfl⟩ (by decide) (by decide) g_oi g_ar
    (fun s hk _ => (List.forall_mem_nil _)) (fun s hk => (List.forall_mem_nil _))
    (List.forall_mem_cons.mpr ⟨(ck_kV g_y_yX10_undo w1414 w1415 w1416 (T := TX10) (N := 13) rfl (by decide) (by decide) (by decide)), (List.forall_mem_nil _)⟩) (List.forall_mem_nil _) (List.forall_mem_nil _) (List.forall_mem_nil _)
    rfl hay H
end
section
/-! THE LAW'S CALLS OF THE CLASS -/
def zc_Y (G : am_G) (h : List am_C) (x : Nat) (r : Nat → Nat) (T : sp_T) : Prop := zc_X G h x r T.2.2.1 T.2.2.2.1 T.2.2.2.2 T.1 T.2.1
theorem zc_x.k {G : am_G} {h h' : List am_C} {x : Nat} {r : Nat → Nat} {j m k : Int} {c : sp_S} {R : Nat → sp_S} {old cnt : Nat} {D : Nat → Prop} (a : zc_x G h x r j m k c R old cnt) (f : zk G h h' D) (hD : ∀ y, x ≤ y → y < x + 228 → ¬ D y) (h4 : ¬ D (r 4)) : zc_x G h' x r j m k c R old cnt := by
  obtain ⟨a1_, a2_, a3_, a4_, ⟨a5_, a6_⟩, ⟨y1_, y2_, y3_, a7_⟩, a8_, a9_⟩ := a
  exact ⟨f.2 _ _ a1_ (hD _ (by omega) (by omega)), a2_.k f (fun y h1 h2 => hD y (by omega) (by omega)), a3_, a4_.k f (fun y h1 h2 => hD y (by omega) (by omega)), ⟨a5_.k f (hD _ (by omega) (by omega)) (hD _ (by omega) (by omega)), a6_.k f (hD _ (by omega) (by omega)) (hD _ (by omega) (by omega))⟩, ⟨y1_, y2_, y3_, f.2 _ _ a7_ h4⟩, a8_, a9_⟩
theorem zc_X.k {G : am_G} {h h' : List am_C} {x : Nat} {r : Nat → Nat} {j m k : Int} {c : sp_S} {P : List sp_S} {D : Nat → Prop} (a : zc_X G h x r j m k c P) (f : zk G h h' D) (hD : ∀ y, x ≤ y → y < x + 228 → ¬ D y) (h4 : ¬ D (r 4)) : zc_X G h' x r j m k c P := by
  obtain ⟨R_, o_, n_, a1_, a2_⟩ := a
  exact ⟨R_, o_, n_, a1_.k f hD h4, a2_⟩
/-- outside the class and what is told nothing has changed -/
def zc_of (G : am_G) (h h' : List am_C) (x : Nat) (r : Nat → Nat) (o : Nat) : Prop := h.length ≤ h'.length ∧ ∀ (p : Nat) (c : am_C), am_g G h p = some c → (p < x ∨ x + 228 ≤ p) → p ≠ r 4 → p ≠ o → am_g G h' p = some c
theorem zc_of.fr {G : am_G} {h h' : List am_C} {x o : Nat} {r : Nat → Nat} (a : zc_fr G h h' x r) : zc_of G h h' x r o := ⟨Nat.le_of_eq a.1.symm, fun p c e h1 h2 _ => (a.2 p h1 h2).trans e⟩
theorem zc_of.tr {G : am_G} {h h' h2 : List am_C} {x o : Nat} {r : Nat → Nat} (a : zc_of G h h' x r o) (b : zc_of G h' h2 x r o) : zc_of G h h2 x r o := ⟨Nat.le_trans a.1 b.1, fun p c e h1 h2 h3 => b.2 p c (a.2 p c e h1 h2 h3) h1 h2 h3⟩
theorem zc_of.w {G : am_G} {h h' : List am_C} {x o : Nat} {r : Nat → Nat} {c : am_C} (w : hd_w G h h' o c) : zc_of G h h' x r o := ⟨Nat.le_of_eq w.1.symm, fun p c e _ _ h3 => (w.ne h3).trans e⟩
theorem zg.app1 {G : am_G} {h : List am_C} {c : am_C} : zg G h (h ++ [c]) := ⟨by rw [List.length_append]; omega, fun p d hg => hd_old hg⟩
theorem zc_of.g {G : am_G} {h h' : List am_C} {x o : Nat} {r : Nat → Nat} (a : zg G h h') : zc_of G h h' x r o := ⟨a.1, fun p c e _ _ _ => a.2 _ _ e⟩
theorem zc_x.app {G : am_G} {h : List am_C} {x : Nat} {r : Nat → Nat} {j m k : Int} {c : sp_S} {R : Nat → sp_S} {old cnt : Nat} {d : am_C} (a : zc_x G h x r j m k c R old cnt) : zc_x G (h ++ [d]) x r j m k c R old cnt := a.k (D := fun _ => False) (zk.g zg.app1) (fun _ _ _ => id) id
theorem zc_X.out {G : am_G} {h h' : List am_C} {x o : Nat} {r : Nat → Nat} {j m k : Int} {c : sp_S} {P : List sp_S} {d : am_C} (a : zc_X G h x r j m k c P) (w : hd_w G h h' o d) (h1 : o < x ∨ x + 228 ≤ o) (h2 : o ≠ r 4) : zc_X G h' x r j m k c P := a.k (D := fun y => y = o) (zk.w w (Or.inl rfl)) (fun y y1 y2 (y3 : y = o) => by omega) (fun y3 => h2 (Eq.symm y3))
set_option maxHeartbeats 4000000 in
theorem zc_wdial_M {l : Launch} {G : am_G} {X : ck_XT} (g : gM l G X) {x : Nat} {r : Nat → Nat} {jj mm kk : Int} {c : sp_S} {R : Nat → sp_S} {old cnt : Nat} {h : List am_C} (hX : zc_x G h x r jj mm kk c R old cnt){o : Nat} {n0 : Int64} {s0 : Value} (hO : am_g G h o = some (1016, [.long n0, s0])) (ho1 : o < x ∨ x + 228 ≤ o) (ho2 : o ≠ r 4) (ho3 : 1000 ≤ o) {e e2 : Int} (he1 : -2147483648 ≤ e) (he2 : e ≤ 2147483647) {mc ms : Nat} {Post : am_O → List am_C → Prop} (hmc : 1 ≤ mc) (hms : 6 ≤ ms)
    (hP : ∀ (a th : Int) (T' : sp_T) (h' : List am_C), sp_d0 e e2 (c, zc_l R old cnt, jj, mm, kk) a th T' → zc_of G h h' x r o → zc_Y G h' x r T' → (th = 0 → am_g G h' o = some (1016, [.long (Int64.ofInt a), s0])) → Post (.inl (some (.int (Int32.ofInt th)))) h') :
    am_M l G yL_dial (.codeWith yL_dial method_2_code 4 (some .int) [(0, 10, 13, 19)]) 7 145 mc ms [.ref x, .int (Int32.ofInt e), .ref o] h Post := by
  refine gh_yL_dial_X g (Nat.le_of_ble_eq_true rfl) fun S SX hs hr hw hx => ?_
  have rv : ∀ x : Int32, ck_fv 0 (.int x) := fun x => ⟨_, rfl⟩
  have ok_ := hX.2.2.1
  have okd_ := ok_.1
  have okn_ := ok_.2.1.1
  have okr_ := ok_.2.2.1.1
  have okb_ := ok_.2.2.2.1
  have px_ := hX.2.2.2.2.2.2.2
  refine hs 0 _ rfl _ _ _ _ _ _ _ rfl ?_
  refine hs 1 _ rfl _ _ _ _ _ _ _ rfl ?_
  refine hs 2 _ rfl _ _ _ _ _ _ _ rfl ?_
  refine zw_cm (hs 3 _ rfl) (a := [.ref x, .int (Int32.ofInt e)]) (st := [.ref o]) 1 6 rfl rfl (Nat.le_of_ble_eq_true rfl) ⟨_, _, _, rfl, hX.1, rfl⟩ (by omega) (by omega) (zc_dial_M g hX he1 he2 (by omega) (by omega) (fun y_ h9_ fr_ xX_ => ?_) (fun hn_ => ?_))
  · show S 6 [some (.ref x), some (.int (Int32.ofInt e)), some (.ref o), none] [.int (Int32.ofInt c.1), .ref o] _ _ _
    refine hs 4 _ rfl _ _ _ _ _ _ _ (hd_i2l (by omega) (by omega)) ?_
    refine zw_U (hs 5 _ rfl) (by omega) (((fr_.2 _ ho1 ho2).trans hO)) rfl ⟨_, rfl⟩ fun hz627 wz628 => ?_
    have wz628 : hd_w G _ hz627 o (1016, [.long (Int64.ofInt c.1), s0]) := wz628
    have lwz628 := wz628.1
    refine hs 6 _ rfl _ _ _ _ _ ?_
    refine hs 10 _ rfl _ _ _ _ _ _ _ rfl ?_
    exact hs 11 _ rfl _ _ _ _ _ (rv _) (by omega) (by omega) (hP c.1 0 _ _ (Or.inl ⟨y_, rfl, rfl, rfl⟩) ((zc_of.fr fr_).tr (zc_of.w wz628)) (zc_X.out (xX_) wz628 ho1 ho2) fun _ => wz628.at)
  · refine hx (_, _) (List.mem_cons.mpr (Or.inl rfl)) _ _ _ _ rfl ?_
    show S 14 _ [] _ _ _
    refine hs 8 _ rfl _ _ _ _ _ _ _ rfl ?_
    exact hs 9 _ rfl _ _ _ _ _ (rv _) (by omega) (by omega) (hP 0 1 _ _ (Or.inr ⟨hn_, rfl, rfl⟩) (zc_of.g zg.app1) (⟨_, _, _, hX.app, rfl⟩) fun z_ => absurd z_ (by decide))
set_option maxHeartbeats 4000000 in
theorem zc_wset_M {l : Launch} {G : am_G} {X : ck_XT} (g : gM l G X) {x : Nat} {r : Nat → Nat} {jj mm kk : Int} {c : sp_S} {R : Nat → sp_S} {old cnt : Nat} {h : List am_C} (hX : zc_x G h x r jj mm kk c R old cnt){o : Nat} {n0 : Int64} {s0 : Value} (hO : am_g G h o = some (1016, [.long n0, s0])) (ho1 : o < x ∨ x + 228 ≤ o) (ho2 : o ≠ r 4) (ho3 : 1000 ≤ o) {e e2 : Int} (he1 : -2147483648 ≤ e) (he2 : e ≤ 2147483647) (hf1 : -2147483648 ≤ e2) (hf2 : e2 ≤ 2147483647) {mc ms : Nat} {Post : am_O → List am_C → Prop} (hmc : 1 ≤ mc) (hms : 6 ≤ ms)
    (hP : ∀ (a th : Int) (T' : sp_T) (h' : List am_C), sp_d1 e e2 (c, zc_l R old cnt, jj, mm, kk) a th T' → zc_of G h h' x r o → zc_Y G h' x r T' → (th = 0 → am_g G h' o = some (1016, [.long (Int64.ofInt a), s0])) → Post (.inl (some (.int (Int32.ofInt th)))) h') :
    am_M l G yL_set (.codeWith yL_set method_3_code 5 (some .int) [(0, 11, 14, 25)]) 8 146 mc ms [.ref x, .int (Int32.ofInt e), .int (Int32.ofInt e2), .ref o] h Post := by
  refine gh_yL_set_X g (Nat.le_of_ble_eq_true rfl) fun S SX hs hr hw hx => ?_
  have rv : ∀ x : Int32, ck_fv 0 (.int x) := fun x => ⟨_, rfl⟩
  have ok_ := hX.2.2.1
  have okd_ := ok_.1
  have okn_ := ok_.2.1.1
  have okr_ := ok_.2.2.1.1
  have okb_ := ok_.2.2.2.1
  have px_ := hX.2.2.2.2.2.2.2
  refine hs 0 _ rfl _ _ _ _ _ _ _ rfl ?_
  refine hs 1 _ rfl _ _ _ _ _ _ _ rfl ?_
  refine hs 2 _ rfl _ _ _ _ _ _ _ rfl ?_
  refine hs 3 _ rfl _ _ _ _ _ _ _ rfl ?_
  refine zw_cm (hs 4 _ rfl) (a := [.ref x, .int (Int32.ofInt e), .int (Int32.ofInt e2)]) (st := [.ref o]) 1 6 rfl rfl (Nat.le_of_ble_eq_true rfl) ⟨_, _, _, rfl, hX.1, rfl⟩ (by omega) (by omega) (zc_set_M g hX he1 he2 hf1 hf2 (by omega) (by omega) (fun y_ h9_ d_ fr_ xX_ dg_ => ?_) (fun hn_ => ?_))
  · show S 7 [some (.ref x), some (.int (Int32.ofInt e)), some (.int (Int32.ofInt e2)), some (.ref o), none] [.int (Int32.ofInt (d_ : Int)), .ref o] _ _ _
    have in_ : sp_in e2 := by unfold sp_in; omega
    have db_ := dg_.le (n := 36) (by decide) (sp_in.abs.mp in_)
    refine hs 5 _ rfl _ _ _ _ _ _ _ (hd_i2l (by omega) (by omega)) ?_
    refine zw_U (hs 6 _ rfl) (by omega) (((fr_.2 _ ho1 ho2).trans hO)) rfl ⟨_, rfl⟩ fun hz629 wz630 => ?_
    have wz630 : hd_w G _ hz629 o (1016, [.long (Int64.ofInt (d_ : Int)), s0]) := wz630
    have lwz630 := wz630.1
    refine hs 7 _ rfl _ _ _ _ _ ?_
    refine hs 11 _ rfl _ _ _ _ _ _ _ rfl ?_
    exact hs 12 _ rfl _ _ _ _ _ (rv _) (by omega) (by omega) (hP (d_ : Int) 0 _ _ (Or.inl ⟨y_, Or.inl ⟨in_, rfl, rfl, d_, rfl, dg_⟩⟩) ((zc_of.fr fr_).tr (zc_of.w wz630)) (zc_X.out (xX_) wz630 ho1 ho2) fun _ => wz630.at)
  · refine hx (_, _) (List.mem_cons.mpr (Or.inl rfl)) _ _ _ _ rfl ?_
    show S 16 _ [] _ _ _
    refine hs 9 _ rfl _ _ _ _ _ _ _ rfl ?_
    exact hs 10 _ rfl _ _ _ _ _ (rv _) (by omega) (by omega) (hP 0 1 _ _ (Or.inr ⟨hn_, rfl, rfl⟩) (zc_of.g zg.app1) (⟨_, _, _, hX.app, rfl⟩) fun z_ => absurd z_ (by decide))
set_option maxHeartbeats 4000000 in
theorem zc_wlengthen_M {l : Launch} {G : am_G} {X : ck_XT} (g : gM l G X) {x : Nat} {r : Nat → Nat} {jj mm kk : Int} {c : sp_S} {R : Nat → sp_S} {old cnt : Nat} {h : List am_C} (hX : zc_x G h x r jj mm kk c R old cnt){o : Nat} {n0 : Int64} {s0 : Value} (hO : am_g G h o = some (1016, [.long n0, s0])) (ho1 : o < x ∨ x + 228 ≤ o) (ho2 : o ≠ r 4) (ho3 : 1000 ≤ o) {e e2 : Int} (he1 : -2147483648 ≤ e) (he2 : e ≤ 2147483647) (hf1 : -2147483648 ≤ e2) (hf2 : e2 ≤ 2147483647) {mc ms : Nat} {Post : am_O → List am_C → Prop} (hmc : 1 ≤ mc) (hms : 6 ≤ ms)
    (hP : ∀ (a th : Int) (T' : sp_T) (h' : List am_C), sp_d2 e e2 (c, zc_l R old cnt, jj, mm, kk) a th T' → zc_of G h h' x r o → zc_Y G h' x r T' → (th = 0 → am_g G h' o = some (1016, [.long (Int64.ofInt a), s0])) → Post (.inl (some (.int (Int32.ofInt th)))) h') :
    am_M l G yL_lengthen (.codeWith yL_lengthen method_4_code 5 (some .int) [(0, 11, 14, 25), (0, 11, 18, 19), (0, 11, 22, 30)]) 8 168 mc ms [.ref x, .int (Int32.ofInt e), .int (Int32.ofInt e2), .ref o] h Post := by
  refine gh_yL_lengthen_X g (Nat.le_of_ble_eq_true rfl) fun S SX hs hr hw hx => ?_
  have rv : ∀ x : Int32, ck_fv 0 (.int x) := fun x => ⟨_, rfl⟩
  have ok_ := hX.2.2.1
  have okd_ := ok_.1
  have okn_ := ok_.2.1.1
  have okr_ := ok_.2.2.1.1
  have okb_ := ok_.2.2.2.1
  have px_ := hX.2.2.2.2.2.2.2
  refine hs 0 _ rfl _ _ _ _ _ _ _ rfl ?_
  refine hs 1 _ rfl _ _ _ _ _ _ _ rfl ?_
  refine hs 2 _ rfl _ _ _ _ _ _ _ rfl ?_
  refine hs 3 _ rfl _ _ _ _ _ _ _ rfl ?_
  refine zw_cm (hs 4 _ rfl) (a := [.ref x, .int (Int32.ofInt e), .int (Int32.ofInt e2)]) (st := [.ref o]) 1 6 rfl rfl (Nat.le_of_ble_eq_true rfl) ⟨_, _, _, rfl, hX.1, rfl⟩ (by omega) (by omega) (zc_lengthen_M g hX he1 he2 hf1 hf2 (by omega) (by omega) (fun y_ y2_ in_ h9_ d_ fr_ xX_ dg_ => ?_) (fun y_ y2_ in_ h9_ fr_ x9_ => ?_) (fun y_ hn_ => ?_) (fun hn_ => ?_))
  · show S 7 [some (.ref x), some (.int (Int32.ofInt e)), some (.int (Int32.ofInt e2)), some (.ref o), none] [.int (Int32.ofInt (d_ : Int)), .ref o] _ _ _
    have db_ := dg_.le (n := 36) (by decide) (sp_in.abs.mp in_)
    refine hs 5 _ rfl _ _ _ _ _ _ _ (hd_i2l (by omega) (by omega)) ?_
    refine zw_U (hs 6 _ rfl) (by omega) (((fr_.2 _ ho1 ho2).trans hO)) rfl ⟨_, rfl⟩ fun hz631 wz632 => ?_
    have wz632 : hd_w G _ hz631 o (1016, [.long (Int64.ofInt (d_ : Int)), s0]) := wz632
    have lwz632 := wz632.1
    refine hs 7 _ rfl _ _ _ _ _ ?_
    refine hs 17 _ rfl _ _ _ _ _ _ _ rfl ?_
    exact hs 18 _ rfl _ _ _ _ _ (rv _) (by omega) (by omega) (hP (d_ : Int) 0 _ _ (Or.inl ⟨y_, Or.inl ⟨y2_, Or.inl ⟨in_, rfl, rfl, d_, rfl, dg_⟩⟩⟩) ((zc_of.fr fr_).tr (zc_of.w wz632)) (zc_X.out (xX_) wz632 ho1 ho2) fun _ => wz632.at)
  · refine hx (_, _) (List.mem_cons.mpr (Or.inr (List.mem_cons.mpr (Or.inr (List.mem_cons.mpr (Or.inl rfl)))))) _ _ _ _ rfl ?_
    show S 24 _ [] _ _ _
    refine hs 15 _ rfl _ _ _ _ _ _ _ rfl ?_
    exact hs 16 _ rfl _ _ _ _ _ (rv _) (by omega) (by omega) (hP 0 3 _ _ (Or.inl ⟨y_, Or.inl ⟨y2_, Or.inr ⟨in_, rfl, rfl⟩⟩⟩) ((zc_of.fr fr_).tr (zc_of.g zg.app1)) (⟨_, _, _, x9_.app, rfl⟩) fun z_ => absurd z_ (by decide))
  · refine hx (_, _) (List.mem_cons.mpr (Or.inr (List.mem_cons.mpr (Or.inl rfl)))) _ _ _ _ rfl ?_
    show S 20 _ [] _ _ _
    refine hs 12 _ rfl _ _ _ _ _ _ _ rfl ?_
    exact hs 13 _ rfl _ _ _ _ _ (rv _) (by omega) (by omega) (hP 0 2 _ _ (Or.inl ⟨y_, Or.inr ⟨hn_, rfl, rfl⟩⟩) (zc_of.g zg.app1) (⟨_, _, _, hX.app, rfl⟩) fun z_ => absurd z_ (by decide))
  · refine hx (_, _) (List.mem_cons.mpr (Or.inl rfl)) _ _ _ _ rfl ?_
    show S 16 _ [] _ _ _
    refine hs 9 _ rfl _ _ _ _ _ _ _ rfl ?_
    exact hs 10 _ rfl _ _ _ _ _ (rv _) (by omega) (by omega) (hP 0 1 _ _ (Or.inr ⟨hn_, rfl, rfl⟩) (zc_of.g zg.app1) (⟨_, _, _, hX.app, rfl⟩) fun z_ => absurd z_ (by decide))
set_option maxHeartbeats 4000000 in
theorem zc_wplus_M {l : Launch} {G : am_G} {X : ck_XT} (g : gM l G X) {x : Nat} {r : Nat → Nat} {jj mm kk : Int} {c : sp_S} {R : Nat → sp_S} {old cnt : Nat} {h : List am_C} (hX : zc_x G h x r jj mm kk c R old cnt){o : Nat} {n0 : Int64} {s0 : Value} (hO : am_g G h o = some (1016, [.long n0, s0])) (ho1 : o < x ∨ x + 228 ≤ o) (ho2 : o ≠ r 4) (ho3 : 1000 ≤ o) {e e2 : Int} (he1 : -2147483648 ≤ e) (he2 : e ≤ 2147483647) (hf1 : -2147483648 ≤ e2) (hf2 : e2 ≤ 2147483647) {mc ms : Nat} {Post : am_O → List am_C → Prop} (hmc : 1 ≤ mc) (hms : 6 ≤ ms)
    (hP : ∀ (a th : Int) (T' : sp_T) (h' : List am_C), sp_d3 e e2 (c, zc_l R old cnt, jj, mm, kk) a th T' → zc_of G h h' x r o → zc_Y G h' x r T' → (th = 0 → am_g G h' o = some (1016, [.long (Int64.ofInt a), s0])) → Post (.inl (some (.int (Int32.ofInt th)))) h') :
    am_M l G yL_plus (.codeWith yL_plus method_5_code 5 (some .int) [(0, 11, 14, 25), (0, 11, 18, 30)]) 8 169 mc ms [.ref x, .int (Int32.ofInt e), .int (Int32.ofInt e2), .ref o] h Post := by
  refine gh_yL_plus_X g (Nat.le_of_ble_eq_true rfl) fun S SX hs hr hw hx => ?_
  have rv : ∀ x : Int32, ck_fv 0 (.int x) := fun x => ⟨_, rfl⟩
  have ok_ := hX.2.2.1
  have okd_ := ok_.1
  have okn_ := ok_.2.1.1
  have okr_ := ok_.2.2.1.1
  have okb_ := ok_.2.2.2.1
  have px_ := hX.2.2.2.2.2.2.2
  refine hs 0 _ rfl _ _ _ _ _ _ _ rfl ?_
  refine hs 1 _ rfl _ _ _ _ _ _ _ rfl ?_
  refine hs 2 _ rfl _ _ _ _ _ _ _ rfl ?_
  refine hs 3 _ rfl _ _ _ _ _ _ _ rfl ?_
  refine zw_cm (hs 4 _ rfl) (a := [.ref x, .int (Int32.ofInt e), .int (Int32.ofInt e2)]) (st := [.ref o]) 1 6 rfl rfl (Nat.le_of_ble_eq_true rfl) ⟨_, _, _, rfl, hX.1, rfl⟩ (by omega) (by omega) (zc_plus_M g hX he1 he2 hf1 hf2 (by omega) (by omega) (fun y_ in_ h9_ d_ fr_ xX_ dg_ => ?_) (fun y_ in_ h9_ fr_ x9_ => ?_) (fun hn_ => ?_))
  · show S 7 [some (.ref x), some (.int (Int32.ofInt e)), some (.int (Int32.ofInt e2)), some (.ref o), none] [.int (Int32.ofInt (d_ : Int)), .ref o] _ _ _
    have db_ := dg_.le (n := 36) (by decide) (sp_in.abs.mp in_)
    refine hs 5 _ rfl _ _ _ _ _ _ _ (hd_i2l (by omega) (by omega)) ?_
    refine zw_U (hs 6 _ rfl) (by omega) (((fr_.2 _ ho1 ho2).trans hO)) rfl ⟨_, rfl⟩ fun hz633 wz634 => ?_
    have wz634 : hd_w G _ hz633 o (1016, [.long (Int64.ofInt (d_ : Int)), s0]) := wz634
    have lwz634 := wz634.1
    refine hs 7 _ rfl _ _ _ _ _ ?_
    refine hs 14 _ rfl _ _ _ _ _ _ _ rfl ?_
    exact hs 15 _ rfl _ _ _ _ _ (rv _) (by omega) (by omega) (hP (d_ : Int) 0 _ _ (Or.inl ⟨⟨⟨y_.1, y_.2.1⟩, y_.2.2.1, y_.2.2.2⟩, Or.inl ⟨in_, rfl, rfl, d_, rfl, dg_⟩⟩) ((zc_of.fr fr_).tr (zc_of.w wz634)) (zc_X.out (xX_) wz634 ho1 ho2) fun _ => wz634.at)
  · refine hx (_, _) (List.mem_cons.mpr (Or.inr (List.mem_cons.mpr (Or.inl rfl)))) _ _ _ _ rfl ?_
    show S 20 _ [] _ _ _
    refine hs 12 _ rfl _ _ _ _ _ _ _ rfl ?_
    exact hs 13 _ rfl _ _ _ _ _ (rv _) (by omega) (by omega) (hP 0 2 _ _ (Or.inl ⟨⟨⟨y_.1, y_.2.1⟩, y_.2.2.1, y_.2.2.2⟩, Or.inr ⟨in_, rfl, rfl⟩⟩) ((zc_of.fr fr_).tr (zc_of.g zg.app1)) (⟨_, _, _, x9_.app, rfl⟩) fun z_ => absurd z_ (by decide))
  · refine hx (_, _) (List.mem_cons.mpr (Or.inl rfl)) _ _ _ _ rfl ?_
    show S 16 _ [] _ _ _
    refine hs 9 _ rfl _ _ _ _ _ _ _ rfl ?_
    exact hs 10 _ rfl _ _ _ _ _ (rv _) (by omega) (by omega) (hP 0 1 _ _ (Or.inr ⟨fun z_ => hn_ ⟨z_.1.1, z_.1.2, z_.2.1, z_.2.2⟩, rfl, rfl⟩) (zc_of.g zg.app1) (⟨_, _, _, hX.app, rfl⟩) fun z_ => absurd z_ (by decide))
set_option maxHeartbeats 4000000 in
theorem zc_wtimes_M {l : Launch} {G : am_G} {X : ck_XT} (g : gM l G X) {x : Nat} {r : Nat → Nat} {jj mm kk : Int} {c : sp_S} {R : Nat → sp_S} {old cnt : Nat} {h : List am_C} (hX : zc_x G h x r jj mm kk c R old cnt){o : Nat} {n0 : Int64} {s0 : Value} (hO : am_g G h o = some (1016, [.long n0, s0])) (ho1 : o < x ∨ x + 228 ≤ o) (ho2 : o ≠ r 4) (ho3 : 1000 ≤ o) {e e2 : Int} (he1 : -2147483648 ≤ e) (he2 : e ≤ 2147483647) (hf1 : -2147483648 ≤ e2) (hf2 : e2 ≤ 2147483647) {mc ms : Nat} {Post : am_O → List am_C → Prop} (hmc : 1 ≤ mc) (hms : 6 ≤ ms)
    (hP : ∀ (a th : Int) (T' : sp_T) (h' : List am_C), sp_d4 e e2 (c, zc_l R old cnt, jj, mm, kk) a th T' → zc_of G h h' x r o → zc_Y G h' x r T' → (th = 0 → am_g G h' o = some (1016, [.long (Int64.ofInt a), s0])) → Post (.inl (some (.int (Int32.ofInt th)))) h') :
    am_M l G yL_times (.codeWith yL_times method_6_code 5 (some .int) [(0, 11, 14, 25), (0, 11, 18, 30)]) 8 169 mc ms [.ref x, .int (Int32.ofInt e), .int (Int32.ofInt e2), .ref o] h Post := by
  refine gh_yL_times_X g (Nat.le_of_ble_eq_true rfl) fun S SX hs hr hw hx => ?_
  have rv : ∀ x : Int32, ck_fv 0 (.int x) := fun x => ⟨_, rfl⟩
  have ok_ := hX.2.2.1
  have okd_ := ok_.1
  have okn_ := ok_.2.1.1
  have okr_ := ok_.2.2.1.1
  have okb_ := ok_.2.2.2.1
  have px_ := hX.2.2.2.2.2.2.2
  refine hs 0 _ rfl _ _ _ _ _ _ _ rfl ?_
  refine hs 1 _ rfl _ _ _ _ _ _ _ rfl ?_
  refine hs 2 _ rfl _ _ _ _ _ _ _ rfl ?_
  refine hs 3 _ rfl _ _ _ _ _ _ _ rfl ?_
  refine zw_cm (hs 4 _ rfl) (a := [.ref x, .int (Int32.ofInt e), .int (Int32.ofInt e2)]) (st := [.ref o]) 1 6 rfl rfl (Nat.le_of_ble_eq_true rfl) ⟨_, _, _, rfl, hX.1, rfl⟩ (by omega) (by omega) (zc_times_M g hX he1 he2 hf1 hf2 (by omega) (by omega) (fun y_ in_ h9_ d_ fr_ xX_ dg_ => ?_) (fun y_ in_ h9_ fr_ x9_ => ?_) (fun hn_ => ?_))
  · show S 7 [some (.ref x), some (.int (Int32.ofInt e)), some (.int (Int32.ofInt e2)), some (.ref o), none] [.int (Int32.ofInt (d_ : Int)), .ref o] _ _ _
    have db_ := dg_.le (n := 36) (by decide) (sp_in.abs.mp in_)
    refine hs 5 _ rfl _ _ _ _ _ _ _ (hd_i2l (by omega) (by omega)) ?_
    refine zw_U (hs 6 _ rfl) (by omega) (((fr_.2 _ ho1 ho2).trans hO)) rfl ⟨_, rfl⟩ fun hz635 wz636 => ?_
    have wz636 : hd_w G _ hz635 o (1016, [.long (Int64.ofInt (d_ : Int)), s0]) := wz636
    have lwz636 := wz636.1
    refine hs 7 _ rfl _ _ _ _ _ ?_
    refine hs 14 _ rfl _ _ _ _ _ _ _ rfl ?_
    exact hs 15 _ rfl _ _ _ _ _ (rv _) (by omega) (by omega) (hP (d_ : Int) 0 _ _ (Or.inl ⟨⟨⟨y_.1, y_.2.1⟩, y_.2.2.1, y_.2.2.2⟩, Or.inl ⟨in_, rfl, rfl, d_, rfl, dg_⟩⟩) ((zc_of.fr fr_).tr (zc_of.w wz636)) (zc_X.out (xX_) wz636 ho1 ho2) fun _ => wz636.at)
  · refine hx (_, _) (List.mem_cons.mpr (Or.inr (List.mem_cons.mpr (Or.inl rfl)))) _ _ _ _ rfl ?_
    show S 20 _ [] _ _ _
    refine hs 12 _ rfl _ _ _ _ _ _ _ rfl ?_
    exact hs 13 _ rfl _ _ _ _ _ (rv _) (by omega) (by omega) (hP 0 2 _ _ (Or.inl ⟨⟨⟨y_.1, y_.2.1⟩, y_.2.2.1, y_.2.2.2⟩, Or.inr ⟨in_, rfl, rfl⟩⟩) ((zc_of.fr fr_).tr (zc_of.g zg.app1)) (⟨_, _, _, x9_.app, rfl⟩) fun z_ => absurd z_ (by decide))
  · refine hx (_, _) (List.mem_cons.mpr (Or.inl rfl)) _ _ _ _ rfl ?_
    show S 16 _ [] _ _ _
    refine hs 9 _ rfl _ _ _ _ _ _ _ rfl ?_
    exact hs 10 _ rfl _ _ _ _ _ (rv _) (by omega) (by omega) (hP 0 1 _ _ (Or.inr ⟨fun z_ => hn_ ⟨z_.1.1, z_.1.2, z_.2.1, z_.2.2⟩, rfl, rfl⟩) (zc_of.g zg.app1) (⟨_, _, _, hX.app, rfl⟩) fun z_ => absurd z_ (by decide))
set_option maxHeartbeats 4000000 in
theorem zc_wnegate_M {l : Launch} {G : am_G} {X : ck_XT} (g : gM l G X) {x : Nat} {r : Nat → Nat} {jj mm kk : Int} {c : sp_S} {R : Nat → sp_S} {old cnt : Nat} {h : List am_C} (hX : zc_x G h x r jj mm kk c R old cnt){o : Nat} {n0 : Int64} {s0 : Value} (hO : am_g G h o = some (1016, [.long n0, s0])) (ho1 : o < x ∨ x + 228 ≤ o) (ho2 : o ≠ r 4) (ho3 : 1000 ≤ o) {e e2 : Int} (he1 : -2147483648 ≤ e) (he2 : e ≤ 2147483647) {mc ms : Nat} {Post : am_O → List am_C → Prop} (hmc : 1 ≤ mc) (hms : 6 ≤ ms)
    (hP : ∀ (a th : Int) (T' : sp_T) (h' : List am_C), sp_d5 e e2 (c, zc_l R old cnt, jj, mm, kk) a th T' → zc_of G h h' x r o → zc_Y G h' x r T' → (th = 0 → am_g G h' o = some (1016, [.long (Int64.ofInt a), s0])) → Post (.inl (some (.int (Int32.ofInt th)))) h') :
    am_M l G yL_negate (.codeWith yL_negate method_7_code 4 (some .int) [(0, 10, 13, 25)]) 8 145 mc ms [.ref x, .int (Int32.ofInt e), .ref o] h Post := by
  refine gh_yL_negate_X g (Nat.le_of_ble_eq_true rfl) fun S SX hs hr hw hx => ?_
  have rv : ∀ x : Int32, ck_fv 0 (.int x) := fun x => ⟨_, rfl⟩
  have ok_ := hX.2.2.1
  have okd_ := ok_.1
  have okn_ := ok_.2.1.1
  have okr_ := ok_.2.2.1.1
  have okb_ := ok_.2.2.2.1
  have px_ := hX.2.2.2.2.2.2.2
  refine hs 0 _ rfl _ _ _ _ _ _ _ rfl ?_
  refine hs 1 _ rfl _ _ _ _ _ _ _ rfl ?_
  refine hs 2 _ rfl _ _ _ _ _ _ _ rfl ?_
  refine zw_cm (hs 3 _ rfl) (a := [.ref x, .int (Int32.ofInt e)]) (st := [.ref o]) 1 6 rfl rfl (Nat.le_of_ble_eq_true rfl) ⟨_, _, _, rfl, hX.1, rfl⟩ (by omega) (by omega) (zc_negate_M g hX he1 he2 (by omega) (by omega) (fun y_ h9_ fr_ xX_ => ?_) (fun hn_ => ?_))
  · show S 6 [some (.ref x), some (.int (Int32.ofInt e)), some (.ref o), none] [.int (Int32.ofInt (-(c.2.1.getD e.toNat 0).sign)), .ref o] _ _ _
    have sg_ : -1 ≤ (c.2.1.getD e.toNat 0).sign ∧ (c.2.1.getD e.toNat 0).sign ≤ 1 := by
      rcases Int.lt_trichotomy (c.2.1.getD e.toNat 0) 0 with z_ | z_ | z_
      · rw [Int.sign_eq_neg_one_of_neg z_]; decide
      · rw [z_]; decide
      · rw [Int.sign_eq_one_of_pos z_]; decide
    refine hs 4 _ rfl _ _ _ _ _ _ _ (hd_i2l (by omega) (by omega)) ?_
    refine zw_U (hs 5 _ rfl) (by omega) (((fr_.2 _ ho1 ho2).trans hO)) rfl ⟨_, rfl⟩ fun hz637 wz638 => ?_
    have wz638 : hd_w G _ hz637 o (1016, [.long (Int64.ofInt (-(c.2.1.getD e.toNat 0).sign)), s0]) := wz638
    have lwz638 := wz638.1
    refine hs 6 _ rfl _ _ _ _ _ ?_
    refine hs 10 _ rfl _ _ _ _ _ _ _ rfl ?_
    exact hs 11 _ rfl _ _ _ _ _ (rv _) (by omega) (by omega) (hP (-(c.2.1.getD e.toNat 0).sign) 0 _ _ (Or.inl ⟨y_, rfl, rfl, rfl⟩) ((zc_of.fr fr_).tr (zc_of.w wz638)) (zc_X.out (xX_) wz638 ho1 ho2) fun _ => wz638.at)
  · refine hx (_, _) (List.mem_cons.mpr (Or.inl rfl)) _ _ _ _ rfl ?_
    show S 14 _ [] _ _ _
    refine hs 8 _ rfl _ _ _ _ _ _ _ rfl ?_
    exact hs 9 _ rfl _ _ _ _ _ (rv _) (by omega) (by omega) (hP 0 1 _ _ (Or.inr ⟨hn_, rfl, rfl⟩) (zc_of.g zg.app1) (⟨_, _, _, hX.app, rfl⟩) fun z_ => absurd z_ (by decide))
set_option maxHeartbeats 4000000 in
theorem zc_wreduce_M {l : Launch} {G : am_G} {X : ck_XT} (g : gM l G X) {x : Nat} {r : Nat → Nat} {jj mm kk : Int} {c : sp_S} {R : Nat → sp_S} {old cnt : Nat} {h : List am_C} (hX : zc_x G h x r jj mm kk c R old cnt){o : Nat} {n0 : Int64} {s0 : Value} (hO : am_g G h o = some (1016, [.long n0, s0])) (ho1 : o < x ∨ x + 228 ≤ o) (ho2 : o ≠ r 4) (ho3 : 1000 ≤ o) {e e2 : Int} (he1 : -2147483648 ≤ e) (he2 : e ≤ 2147483647) {mc ms : Nat} {Post : am_O → List am_C → Prop} (hmc : 1 ≤ mc) (hms : 6 ≤ ms)
    (hP : ∀ (a th : Int) (T' : sp_T) (h' : List am_C), sp_d6 e e2 (c, zc_l R old cnt, jj, mm, kk) a th T' → zc_of G h h' x r o → zc_Y G h' x r T' → (th = 0 → am_g G h' o = some (1016, [.long (Int64.ofInt a), s0])) → Post (.inl (some (.int (Int32.ofInt th)))) h') :
    am_M l G yL_reduce (.codeWith yL_reduce method_8_code 4 (some .int) [(0, 10, 13, 25)]) 9 166 mc ms [.ref x, .int (Int32.ofInt e), .ref o] h Post := by
  refine gh_yL_reduce_X g (Nat.le_of_ble_eq_true rfl) fun S SX hs hr hw hx => ?_
  have rv : ∀ x : Int32, ck_fv 0 (.int x) := fun x => ⟨_, rfl⟩
  have ok_ := hX.2.2.1
  have okd_ := ok_.1
  have okn_ := ok_.2.1.1
  have okr_ := ok_.2.2.1.1
  have okb_ := ok_.2.2.2.1
  have px_ := hX.2.2.2.2.2.2.2
  refine hs 0 _ rfl _ _ _ _ _ _ _ rfl ?_
  refine hs 1 _ rfl _ _ _ _ _ _ _ rfl ?_
  refine hs 2 _ rfl _ _ _ _ _ _ _ rfl ?_
  refine zw_cm (hs 3 _ rfl) (a := [.ref x, .int (Int32.ofInt e)]) (st := [.ref o]) 1 6 rfl rfl (Nat.le_of_ble_eq_true rfl) ⟨_, _, _, rfl, hX.1, rfl⟩ (by omega) (by omega) (zc_reduce_M g hX he1 he2 (by omega) (by omega) (fun y_ cj_ h9_ fr_ x9_ => ?_) (fun y_ cp_ h9_ fr_ xX_ => ?_) (fun hn_ => ?_))
  · show S 6 [some (.ref x), some (.int (Int32.ofInt e)), some (.ref o), none] [.int (Int32.ofInt (-9 : Int)), .ref o] _ _ _
    refine hs 4 _ rfl _ _ _ _ _ _ _ (hd_i2l (by omega) (by omega)) ?_
    refine zw_U (hs 5 _ rfl) (by omega) (((fr_.2 _ ho1 ho2).trans hO)) rfl ⟨_, rfl⟩ fun hz639 wz640 => ?_
    have wz640 : hd_w G _ hz639 o (1016, [.long (Int64.ofInt (-9 : Int)), s0]) := wz640
    have lwz640 := wz640.1
    refine hs 6 _ rfl _ _ _ _ _ ?_
    refine hs 10 _ rfl _ _ _ _ _ _ _ rfl ?_
    exact hs 11 _ rfl _ _ _ _ _ (rv _) (by omega) (by omega) (hP (-9 : Int) 0 _ _ (Or.inl ⟨y_, rfl, Or.inl ⟨cj_, rfl, rfl⟩⟩) ((zc_of.fr fr_).tr (zc_of.w wz640)) (zc_X.out (⟨_, _, _, x9_, rfl⟩) wz640 ho1 ho2) fun _ => wz640.at)
  · show S 6 [some (.ref x), some (.int (Int32.ofInt e)), some (.ref o), none] [.int (Int32.ofInt (c.2.1.getD e.toNat 0 % c.1)), .ref o] _ _ _
    have hm9_ : c.1 ≠ 0 := by omega
    have q1_ := Int.emod_nonneg (c.2.1.getD e.toNat 0) hm9_
    have q2_ := Int.emod_lt_of_pos (c.2.1.getD e.toNat 0) (show 0 < c.1 by omega)
    refine hs 4 _ rfl _ _ _ _ _ _ _ (hd_i2l (by omega) (by omega)) ?_
    refine zw_U (hs 5 _ rfl) (by omega) (((fr_.2 _ ho1 ho2).trans hO)) rfl ⟨_, rfl⟩ fun hz641 wz642 => ?_
    have wz642 : hd_w G _ hz641 o (1016, [.long (Int64.ofInt (c.2.1.getD e.toNat 0 % c.1)), s0]) := wz642
    have lwz642 := wz642.1
    refine hs 6 _ rfl _ _ _ _ _ ?_
    refine hs 10 _ rfl _ _ _ _ _ _ _ rfl ?_
    exact hs 11 _ rfl _ _ _ _ _ (rv _) (by omega) (by omega) (hP (c.2.1.getD e.toNat 0 % c.1) 0 _ _ (Or.inl ⟨y_, rfl, Or.inr ⟨cp_, rfl, Or.inr ⟨q1_, rfl⟩⟩⟩) ((zc_of.fr fr_).tr (zc_of.w wz642)) (zc_X.out (xX_) wz642 ho1 ho2) fun _ => wz642.at)
  · refine hx (_, _) (List.mem_cons.mpr (Or.inl rfl)) _ _ _ _ rfl ?_
    show S 14 _ [] _ _ _
    refine hs 8 _ rfl _ _ _ _ _ _ _ rfl ?_
    exact hs 9 _ rfl _ _ _ _ _ (rv _) (by omega) (by omega) (hP 0 1 _ _ (Or.inr ⟨hn_, rfl, rfl⟩) (zc_of.g zg.app1) (⟨_, _, _, hX.app, rfl⟩) fun z_ => absurd z_ (by decide))
set_option maxHeartbeats 4000000 in
theorem zc_wroundPlus_M {l : Launch} {G : am_G} {X : ck_XT} (g : gM l G X) {x : Nat} {r : Nat → Nat} {jj mm kk : Int} {c : sp_S} {R : Nat → sp_S} {old cnt : Nat} {h : List am_C} (hX : zc_x G h x r jj mm kk c R old cnt){o : Nat} {n0 : Int64} {s0 : Value} (hO : am_g G h o = some (1016, [.long n0, s0])) (ho1 : o < x ∨ x + 228 ≤ o) (ho2 : o ≠ r 4) (ho3 : 1000 ≤ o) {e e2 : Int} (he1 : -2147483648 ≤ e) (he2 : e ≤ 2147483647) (hf1 : -2147483648 ≤ e2) (hf2 : e2 ≤ 2147483647) {mc ms : Nat} {Post : am_O → List am_C → Prop} (hmc : 1 ≤ mc) (hms : 6 ≤ ms)
    (hP : ∀ (a th : Int) (T' : sp_T) (h' : List am_C), sp_d7 e e2 (c, zc_l R old cnt, jj, mm, kk) a th T' → zc_of G h h' x r o → zc_Y G h' x r T' → (th = 0 → am_g G h' o = some (1016, [.long (Int64.ofInt a), s0])) → Post (.inl (some (.int (Int32.ofInt th)))) h') :
    am_M l G yL_roundPlus (.codeWith yL_roundPlus method_9_code 5 (some .int) [(0, 11, 14, 25)]) 8 170 mc ms [.ref x, .int (Int32.ofInt e), .int (Int32.ofInt e2), .ref o] h Post := by
  refine gh_yL_roundPlus_X g (Nat.le_of_ble_eq_true rfl) fun S SX hs hr hw hx => ?_
  have rv : ∀ x : Int32, ck_fv 0 (.int x) := fun x => ⟨_, rfl⟩
  have ok_ := hX.2.2.1
  have okd_ := ok_.1
  have okn_ := ok_.2.1.1
  have okr_ := ok_.2.2.1.1
  have okb_ := ok_.2.2.2.1
  have px_ := hX.2.2.2.2.2.2.2
  refine hs 0 _ rfl _ _ _ _ _ _ _ rfl ?_
  refine hs 1 _ rfl _ _ _ _ _ _ _ rfl ?_
  refine hs 2 _ rfl _ _ _ _ _ _ _ rfl ?_
  refine hs 3 _ rfl _ _ _ _ _ _ _ rfl ?_
  refine zw_cm (hs 4 _ rfl) (a := [.ref x, .int (Int32.ofInt e), .int (Int32.ofInt e2)]) (st := [.ref o]) 1 6 rfl rfl (Nat.le_of_ble_eq_true rfl) ⟨_, _, _, rfl, hX.1, rfl⟩ (by omega) (by omega) (zc_roundPlus_M g hX he1 he2 hf1 hf2 (by omega) (by omega) (fun y_ cj_ h9_ fr_ x9_ => ?_) (fun y_ cp_ h9_ fr_ xX_ => ?_) (fun hn_ => ?_))
  · show S 7 [some (.ref x), some (.int (Int32.ofInt e)), some (.int (Int32.ofInt e2)), some (.ref o), none] [.int (Int32.ofInt (-9 : Int)), .ref o] _ _ _
    refine hs 5 _ rfl _ _ _ _ _ _ _ (hd_i2l (by omega) (by omega)) ?_
    refine zw_U (hs 6 _ rfl) (by omega) (((fr_.2 _ ho1 ho2).trans hO)) rfl ⟨_, rfl⟩ fun hz643 wz644 => ?_
    have wz644 : hd_w G _ hz643 o (1016, [.long (Int64.ofInt (-9 : Int)), s0]) := wz644
    have lwz644 := wz644.1
    refine hs 7 _ rfl _ _ _ _ _ ?_
    refine hs 11 _ rfl _ _ _ _ _ _ _ rfl ?_
    exact hs 12 _ rfl _ _ _ _ _ (rv _) (by omega) (by omega) (hP (-9 : Int) 0 _ _ (Or.inl ⟨⟨⟨y_.1, y_.2.1⟩, y_.2.2.1, y_.2.2.2⟩, rfl, Or.inl ⟨cj_, rfl, rfl⟩⟩) ((zc_of.fr fr_).tr (zc_of.w wz644)) (zc_X.out (⟨_, _, _, x9_, rfl⟩) wz644 ho1 ho2) fun _ => wz644.at)
  · show S 7 [some (.ref x), some (.int (Int32.ofInt e)), some (.int (Int32.ofInt e2)), some (.ref o), none] [.int (Int32.ofInt (((c.2.1.getD e.toNat 0 % c.1) + (c.2.1.getD e2.toNat 0 % c.1)) % c.1)), .ref o] _ _ _
    have hm9_ : c.1 ≠ 0 := by omega
    have q1_ := Int.emod_nonneg ((c.2.1.getD e.toNat 0 % c.1) + (c.2.1.getD e2.toNat 0 % c.1)) hm9_
    have q2_ := Int.emod_lt_of_pos ((c.2.1.getD e.toNat 0 % c.1) + (c.2.1.getD e2.toNat 0 % c.1)) (show 0 < c.1 by omega)
    refine hs 5 _ rfl _ _ _ _ _ _ _ (hd_i2l (by omega) (by omega)) ?_
    refine zw_U (hs 6 _ rfl) (by omega) (((fr_.2 _ ho1 ho2).trans hO)) rfl ⟨_, rfl⟩ fun hz645 wz646 => ?_
    have wz646 : hd_w G _ hz645 o (1016, [.long (Int64.ofInt (((c.2.1.getD e.toNat 0 % c.1) + (c.2.1.getD e2.toNat 0 % c.1)) % c.1)), s0]) := wz646
    have lwz646 := wz646.1
    refine hs 7 _ rfl _ _ _ _ _ ?_
    refine hs 11 _ rfl _ _ _ _ _ _ _ rfl ?_
    exact hs 12 _ rfl _ _ _ _ _ (rv _) (by omega) (by omega) (hP (((c.2.1.getD e.toNat 0 % c.1) + (c.2.1.getD e2.toNat 0 % c.1)) % c.1) 0 _ _ (Or.inl ⟨⟨⟨y_.1, y_.2.1⟩, y_.2.2.1, y_.2.2.2⟩, rfl, Or.inr ⟨cp_, rfl, Or.inr ⟨q1_, rfl⟩⟩⟩) ((zc_of.fr fr_).tr (zc_of.w wz646)) (zc_X.out (xX_) wz646 ho1 ho2) fun _ => wz646.at)
  · refine hx (_, _) (List.mem_cons.mpr (Or.inl rfl)) _ _ _ _ rfl ?_
    show S 16 _ [] _ _ _
    refine hs 9 _ rfl _ _ _ _ _ _ _ rfl ?_
    exact hs 10 _ rfl _ _ _ _ _ (rv _) (by omega) (by omega) (hP 0 1 _ _ (Or.inr ⟨fun z_ => hn_ ⟨z_.1.1, z_.1.2, z_.2.1, z_.2.2⟩, rfl, rfl⟩) (zc_of.g zg.app1) (⟨_, _, _, hX.app, rfl⟩) fun z_ => absurd z_ (by decide))
set_option maxHeartbeats 4000000 in
theorem zc_wroundTimes_M {l : Launch} {G : am_G} {X : ck_XT} (g : gM l G X) {x : Nat} {r : Nat → Nat} {jj mm kk : Int} {c : sp_S} {R : Nat → sp_S} {old cnt : Nat} {h : List am_C} (hX : zc_x G h x r jj mm kk c R old cnt){o : Nat} {n0 : Int64} {s0 : Value} (hO : am_g G h o = some (1016, [.long n0, s0])) (ho1 : o < x ∨ x + 228 ≤ o) (ho2 : o ≠ r 4) (ho3 : 1000 ≤ o) {e e2 : Int} (he1 : -2147483648 ≤ e) (he2 : e ≤ 2147483647) (hf1 : -2147483648 ≤ e2) (hf2 : e2 ≤ 2147483647) {mc ms : Nat} {Post : am_O → List am_C → Prop} (hmc : 1 ≤ mc) (hms : 6 ≤ ms)
    (hP : ∀ (a th : Int) (T' : sp_T) (h' : List am_C), sp_d8 e e2 (c, zc_l R old cnt, jj, mm, kk) a th T' → zc_of G h h' x r o → zc_Y G h' x r T' → (th = 0 → am_g G h' o = some (1016, [.long (Int64.ofInt a), s0])) → Post (.inl (some (.int (Int32.ofInt th)))) h') :
    am_M l G yL_roundTimes (.codeWith yL_roundTimes method_10_code 5 (some .int) [(0, 11, 14, 25)]) 8 170 mc ms [.ref x, .int (Int32.ofInt e), .int (Int32.ofInt e2), .ref o] h Post := by
  refine gh_yL_roundTimes_X g (Nat.le_of_ble_eq_true rfl) fun S SX hs hr hw hx => ?_
  have rv : ∀ x : Int32, ck_fv 0 (.int x) := fun x => ⟨_, rfl⟩
  have ok_ := hX.2.2.1
  have okd_ := ok_.1
  have okn_ := ok_.2.1.1
  have okr_ := ok_.2.2.1.1
  have okb_ := ok_.2.2.2.1
  have px_ := hX.2.2.2.2.2.2.2
  refine hs 0 _ rfl _ _ _ _ _ _ _ rfl ?_
  refine hs 1 _ rfl _ _ _ _ _ _ _ rfl ?_
  refine hs 2 _ rfl _ _ _ _ _ _ _ rfl ?_
  refine hs 3 _ rfl _ _ _ _ _ _ _ rfl ?_
  refine zw_cm (hs 4 _ rfl) (a := [.ref x, .int (Int32.ofInt e), .int (Int32.ofInt e2)]) (st := [.ref o]) 1 6 rfl rfl (Nat.le_of_ble_eq_true rfl) ⟨_, _, _, rfl, hX.1, rfl⟩ (by omega) (by omega) (zc_roundTimes_M g hX he1 he2 hf1 hf2 (by omega) (by omega) (fun y_ cj_ h9_ fr_ x9_ => ?_) (fun y_ cp_ h9_ fr_ xX_ => ?_) (fun hn_ => ?_))
  · show S 7 [some (.ref x), some (.int (Int32.ofInt e)), some (.int (Int32.ofInt e2)), some (.ref o), none] [.int (Int32.ofInt (-9 : Int)), .ref o] _ _ _
    refine hs 5 _ rfl _ _ _ _ _ _ _ (hd_i2l (by omega) (by omega)) ?_
    refine zw_U (hs 6 _ rfl) (by omega) (((fr_.2 _ ho1 ho2).trans hO)) rfl ⟨_, rfl⟩ fun hz647 wz648 => ?_
    have wz648 : hd_w G _ hz647 o (1016, [.long (Int64.ofInt (-9 : Int)), s0]) := wz648
    have lwz648 := wz648.1
    refine hs 7 _ rfl _ _ _ _ _ ?_
    refine hs 11 _ rfl _ _ _ _ _ _ _ rfl ?_
    exact hs 12 _ rfl _ _ _ _ _ (rv _) (by omega) (by omega) (hP (-9 : Int) 0 _ _ (Or.inl ⟨⟨⟨y_.1, y_.2.1⟩, y_.2.2.1, y_.2.2.2⟩, rfl, Or.inl ⟨cj_, rfl, rfl⟩⟩) ((zc_of.fr fr_).tr (zc_of.w wz648)) (zc_X.out (⟨_, _, _, x9_, rfl⟩) wz648 ho1 ho2) fun _ => wz648.at)
  · show S 7 [some (.ref x), some (.int (Int32.ofInt e)), some (.int (Int32.ofInt e2)), some (.ref o), none] [.int (Int32.ofInt (((c.2.1.getD e.toNat 0 % c.1) * (c.2.1.getD e2.toNat 0 % c.1)) % c.1)), .ref o] _ _ _
    have hm9_ : c.1 ≠ 0 := by omega
    have q1_ := Int.emod_nonneg ((c.2.1.getD e.toNat 0 % c.1) * (c.2.1.getD e2.toNat 0 % c.1)) hm9_
    have q2_ := Int.emod_lt_of_pos ((c.2.1.getD e.toNat 0 % c.1) * (c.2.1.getD e2.toNat 0 % c.1)) (show 0 < c.1 by omega)
    refine hs 5 _ rfl _ _ _ _ _ _ _ (hd_i2l (by omega) (by omega)) ?_
    refine zw_U (hs 6 _ rfl) (by omega) (((fr_.2 _ ho1 ho2).trans hO)) rfl ⟨_, rfl⟩ fun hz649 wz650 => ?_
    have wz650 : hd_w G _ hz649 o (1016, [.long (Int64.ofInt (((c.2.1.getD e.toNat 0 % c.1) * (c.2.1.getD e2.toNat 0 % c.1)) % c.1)), s0]) := wz650
    have lwz650 := wz650.1
    refine hs 7 _ rfl _ _ _ _ _ ?_
    refine hs 11 _ rfl _ _ _ _ _ _ _ rfl ?_
    exact hs 12 _ rfl _ _ _ _ _ (rv _) (by omega) (by omega) (hP (((c.2.1.getD e.toNat 0 % c.1) * (c.2.1.getD e2.toNat 0 % c.1)) % c.1) 0 _ _ (Or.inl ⟨⟨⟨y_.1, y_.2.1⟩, y_.2.2.1, y_.2.2.2⟩, rfl, Or.inr ⟨cp_, rfl, Or.inr ⟨q1_, rfl⟩⟩⟩) ((zc_of.fr fr_).tr (zc_of.w wz650)) (zc_X.out (xX_) wz650 ho1 ho2) fun _ => wz650.at)
  · refine hx (_, _) (List.mem_cons.mpr (Or.inl rfl)) _ _ _ _ rfl ?_
    show S 16 _ [] _ _ _
    refine hs 9 _ rfl _ _ _ _ _ _ _ rfl ?_
    exact hs 10 _ rfl _ _ _ _ _ (rv _) (by omega) (by omega) (hP 0 1 _ _ (Or.inr ⟨fun z_ => hn_ ⟨z_.1.1, z_.1.2, z_.2.1, z_.2.2⟩, rfl, rfl⟩) (zc_of.g zg.app1) (⟨_, _, _, hX.app, rfl⟩) fun z_ => absurd z_ (by decide))
set_option maxHeartbeats 4000000 in
theorem zc_wroundPower_M {l : Launch} {G : am_G} {X : ck_XT} (g : gM l G X) {x : Nat} {r : Nat → Nat} {jj mm kk : Int} {c : sp_S} {R : Nat → sp_S} {old cnt : Nat} {h : List am_C} (hX : zc_x G h x r jj mm kk c R old cnt){o : Nat} {n0 : Int64} {s0 : Value} (hO : am_g G h o = some (1016, [.long n0, s0])) (ho1 : o < x ∨ x + 228 ≤ o) (ho2 : o ≠ r 4) (ho3 : 1000 ≤ o) {e e2 : Int} (he1 : -2147483648 ≤ e) (he2 : e ≤ 2147483647) (hf1 : -2147483648 ≤ e2) (hf2 : e2 ≤ 2147483647) {mc ms : Nat} {Post : am_O → List am_C → Prop} (hmc : 1 ≤ mc) (hms : 6 ≤ ms)
    (hP : ∀ (a th : Int) (T' : sp_T) (h' : List am_C), sp_d9 e e2 (c, zc_l R old cnt, jj, mm, kk) a th T' → zc_of G h h' x r o → zc_Y G h' x r T' → (th = 0 → am_g G h' o = some (1016, [.long (Int64.ofInt a), s0])) → Post (.inl (some (.int (Int32.ofInt th)))) h') :
    am_M l G yL_roundPower (.codeWith yL_roundPower method_11_code 5 (some .int) [(0, 11, 14, 25)]) 9 167 mc ms [.ref x, .int (Int32.ofInt e), .int (Int32.ofInt e2), .ref o] h Post := by
  refine gh_yL_roundPower_X g (Nat.le_of_ble_eq_true rfl) fun S SX hs hr hw hx => ?_
  have rv : ∀ x : Int32, ck_fv 0 (.int x) := fun x => ⟨_, rfl⟩
  have ok_ := hX.2.2.1
  have okd_ := ok_.1
  have okn_ := ok_.2.1.1
  have okr_ := ok_.2.2.1.1
  have okb_ := ok_.2.2.2.1
  have px_ := hX.2.2.2.2.2.2.2
  refine hs 0 _ rfl _ _ _ _ _ _ _ rfl ?_
  refine hs 1 _ rfl _ _ _ _ _ _ _ rfl ?_
  refine hs 2 _ rfl _ _ _ _ _ _ _ rfl ?_
  refine hs 3 _ rfl _ _ _ _ _ _ _ rfl ?_
  refine zw_cm (hs 4 _ rfl) (a := [.ref x, .int (Int32.ofInt e), .int (Int32.ofInt e2)]) (st := [.ref o]) 1 6 rfl rfl (Nat.le_of_ble_eq_true rfl) ⟨_, _, _, rfl, hX.1, rfl⟩ (by omega) (by omega) (zc_roundPower_M g hX he1 he2 hf1 hf2 (by omega) (by omega) (fun y_ cj_ h9_ fr_ x9_ => ?_) (fun y_ cp_ v1_ h9_ fr_ x9_ => ?_) (fun y_ cp_ v_ v1_ v2_ v3_ h9_ fr_ xX_ => ?_) (fun hn_ => ?_))
  · show S 7 [some (.ref x), some (.int (Int32.ofInt e)), some (.int (Int32.ofInt e2)), some (.ref o), none] [.int (Int32.ofInt (-9 : Int)), .ref o] _ _ _
    refine hs 5 _ rfl _ _ _ _ _ _ _ (hd_i2l (by omega) (by omega)) ?_
    refine zw_U (hs 6 _ rfl) (by omega) (((fr_.2 _ ho1 ho2).trans hO)) rfl ⟨_, rfl⟩ fun hz651 wz652 => ?_
    have wz652 : hd_w G _ hz651 o (1016, [.long (Int64.ofInt (-9 : Int)), s0]) := wz652
    have lwz652 := wz652.1
    refine hs 7 _ rfl _ _ _ _ _ ?_
    refine hs 11 _ rfl _ _ _ _ _ _ _ rfl ?_
    exact hs 12 _ rfl _ _ _ _ _ (rv _) (by omega) (by omega) (hP (-9 : Int) 0 _ _ (Or.inl ⟨⟨⟨y_.1, y_.2.1⟩, y_.2.2.1, y_.2.2.2⟩, rfl, Or.inl ⟨cj_, rfl, rfl⟩⟩) ((zc_of.fr fr_).tr (zc_of.w wz652)) (zc_X.out (⟨_, _, _, x9_, rfl⟩) wz652 ho1 ho2) fun _ => wz652.at)
  · show S 7 [some (.ref x), some (.int (Int32.ofInt e)), some (.int (Int32.ofInt e2)), some (.ref o), none] [.int (Int32.ofInt (-8 : Int)), .ref o] _ _ _
    refine hs 5 _ rfl _ _ _ _ _ _ _ (hd_i2l (by omega) (by omega)) ?_
    refine zw_U (hs 6 _ rfl) (by omega) (((fr_.2 _ ho1 ho2).trans hO)) rfl ⟨_, rfl⟩ fun hz653 wz654 => ?_
    have wz654 : hd_w G _ hz653 o (1016, [.long (Int64.ofInt (-8 : Int)), s0]) := wz654
    have lwz654 := wz654.1
    refine hs 7 _ rfl _ _ _ _ _ ?_
    refine hs 11 _ rfl _ _ _ _ _ _ _ rfl ?_
    exact hs 12 _ rfl _ _ _ _ _ (rv _) (by omega) (by omega) (hP (-8 : Int) 0 _ _ (Or.inl ⟨⟨⟨y_.1, y_.2.1⟩, y_.2.2.1, y_.2.2.2⟩, rfl, Or.inr ⟨cp_, v1_, Or.inl ⟨rfl, rfl⟩⟩⟩) ((zc_of.fr fr_).tr (zc_of.w wz654)) (zc_X.out (⟨_, _, _, x9_, rfl⟩) wz654 ho1 ho2) fun _ => wz654.at)
  · show S 7 [some (.ref x), some (.int (Int32.ofInt e)), some (.int (Int32.ofInt e2)), some (.ref o), none] [.int (Int32.ofInt v_), .ref o] _ _ _
    refine hs 5 _ rfl _ _ _ _ _ _ _ (hd_i2l (by omega) (by omega)) ?_
    refine zw_U (hs 6 _ rfl) (by omega) (((fr_.2 _ ho1 ho2).trans hO)) rfl ⟨_, rfl⟩ fun hz655 wz656 => ?_
    have wz656 : hd_w G _ hz655 o (1016, [.long (Int64.ofInt v_), s0]) := wz656
    have lwz656 := wz656.1
    refine hs 7 _ rfl _ _ _ _ _ ?_
    refine hs 11 _ rfl _ _ _ _ _ _ _ rfl ?_
    exact hs 12 _ rfl _ _ _ _ _ (rv _) (by omega) (by omega) (hP v_ 0 _ _ (Or.inl ⟨⟨⟨y_.1, y_.2.1⟩, y_.2.2.1, y_.2.2.2⟩, rfl, Or.inr ⟨cp_, v1_, Or.inr ⟨v2_, rfl⟩⟩⟩) ((zc_of.fr fr_).tr (zc_of.w wz656)) (zc_X.out (xX_) wz656 ho1 ho2) fun _ => wz656.at)
  · refine hx (_, _) (List.mem_cons.mpr (Or.inl rfl)) _ _ _ _ rfl ?_
    show S 16 _ [] _ _ _
    refine hs 9 _ rfl _ _ _ _ _ _ _ rfl ?_
    exact hs 10 _ rfl _ _ _ _ _ (rv _) (by omega) (by omega) (hP 0 1 _ _ (Or.inr ⟨fun z_ => hn_ ⟨z_.1.1, z_.1.2, z_.2.1, z_.2.2⟩, rfl, rfl⟩) (zc_of.g zg.app1) (⟨_, _, _, hX.app, rfl⟩) fun z_ => absurd z_ (by decide))
set_option maxHeartbeats 4000000 in
theorem zc_wroundInverse_M {l : Launch} {G : am_G} {X : ck_XT} (g : gM l G X) {x : Nat} {r : Nat → Nat} {jj mm kk : Int} {c : sp_S} {R : Nat → sp_S} {old cnt : Nat} {h : List am_C} (hX : zc_x G h x r jj mm kk c R old cnt){o : Nat} {n0 : Int64} {s0 : Value} (hO : am_g G h o = some (1016, [.long n0, s0])) (ho1 : o < x ∨ x + 228 ≤ o) (ho2 : o ≠ r 4) (ho3 : 1000 ≤ o) {e e2 : Int} (he1 : -2147483648 ≤ e) (he2 : e ≤ 2147483647) {mc ms : Nat} {Post : am_O → List am_C → Prop} (hmc : 1 ≤ mc) (hms : 6 ≤ ms)
    (hP : ∀ (a th : Int) (T' : sp_T) (h' : List am_C), sp_d10 e e2 (c, zc_l R old cnt, jj, mm, kk) a th T' → zc_of G h h' x r o → zc_Y G h' x r T' → (th = 0 → am_g G h' o = some (1016, [.long (Int64.ofInt a), s0])) → Post (.inl (some (.int (Int32.ofInt th)))) h') :
    am_M l G yL_roundInverse (.codeWith yL_roundInverse method_12_code 4 (some .int) [(0, 10, 13, 25)]) 9 166 mc ms [.ref x, .int (Int32.ofInt e), .ref o] h Post := by
  refine gh_yL_roundInverse_X g (Nat.le_of_ble_eq_true rfl) fun S SX hs hr hw hx => ?_
  have rv : ∀ x : Int32, ck_fv 0 (.int x) := fun x => ⟨_, rfl⟩
  have ok_ := hX.2.2.1
  have okd_ := ok_.1
  have okn_ := ok_.2.1.1
  have okr_ := ok_.2.2.1.1
  have okb_ := ok_.2.2.2.1
  have px_ := hX.2.2.2.2.2.2.2
  refine hs 0 _ rfl _ _ _ _ _ _ _ rfl ?_
  refine hs 1 _ rfl _ _ _ _ _ _ _ rfl ?_
  refine hs 2 _ rfl _ _ _ _ _ _ _ rfl ?_
  refine zw_cm (hs 3 _ rfl) (a := [.ref x, .int (Int32.ofInt e)]) (st := [.ref o]) 1 6 rfl rfl (Nat.le_of_ble_eq_true rfl) ⟨_, _, _, rfl, hX.1, rfl⟩ (by omega) (by omega) (zc_roundInverse_M g hX he1 he2 (by omega) (by omega) (fun y_ cj_ h9_ fr_ x9_ => ?_) (fun y_ cp_ v1_ h9_ fr_ x9_ => ?_) (fun y_ cp_ v_ v1_ v2_ v3_ h9_ fr_ xX_ => ?_) (fun hn_ => ?_))
  · show S 6 [some (.ref x), some (.int (Int32.ofInt e)), some (.ref o), none] [.int (Int32.ofInt (-9 : Int)), .ref o] _ _ _
    refine hs 4 _ rfl _ _ _ _ _ _ _ (hd_i2l (by omega) (by omega)) ?_
    refine zw_U (hs 5 _ rfl) (by omega) (((fr_.2 _ ho1 ho2).trans hO)) rfl ⟨_, rfl⟩ fun hz657 wz658 => ?_
    have wz658 : hd_w G _ hz657 o (1016, [.long (Int64.ofInt (-9 : Int)), s0]) := wz658
    have lwz658 := wz658.1
    refine hs 6 _ rfl _ _ _ _ _ ?_
    refine hs 10 _ rfl _ _ _ _ _ _ _ rfl ?_
    exact hs 11 _ rfl _ _ _ _ _ (rv _) (by omega) (by omega) (hP (-9 : Int) 0 _ _ (Or.inl ⟨y_, rfl, Or.inl ⟨cj_, rfl, rfl⟩⟩) ((zc_of.fr fr_).tr (zc_of.w wz658)) (zc_X.out (⟨_, _, _, x9_, rfl⟩) wz658 ho1 ho2) fun _ => wz658.at)
  · show S 6 [some (.ref x), some (.int (Int32.ofInt e)), some (.ref o), none] [.int (Int32.ofInt (-8 : Int)), .ref o] _ _ _
    refine hs 4 _ rfl _ _ _ _ _ _ _ (hd_i2l (by omega) (by omega)) ?_
    refine zw_U (hs 5 _ rfl) (by omega) (((fr_.2 _ ho1 ho2).trans hO)) rfl ⟨_, rfl⟩ fun hz659 wz660 => ?_
    have wz660 : hd_w G _ hz659 o (1016, [.long (Int64.ofInt (-8 : Int)), s0]) := wz660
    have lwz660 := wz660.1
    refine hs 6 _ rfl _ _ _ _ _ ?_
    refine hs 10 _ rfl _ _ _ _ _ _ _ rfl ?_
    exact hs 11 _ rfl _ _ _ _ _ (rv _) (by omega) (by omega) (hP (-8 : Int) 0 _ _ (Or.inl ⟨y_, rfl, Or.inr ⟨cp_, v1_, Or.inl ⟨rfl, rfl⟩⟩⟩) ((zc_of.fr fr_).tr (zc_of.w wz660)) (zc_X.out (⟨_, _, _, x9_, rfl⟩) wz660 ho1 ho2) fun _ => wz660.at)
  · show S 6 [some (.ref x), some (.int (Int32.ofInt e)), some (.ref o), none] [.int (Int32.ofInt v_), .ref o] _ _ _
    refine hs 4 _ rfl _ _ _ _ _ _ _ (hd_i2l (by omega) (by omega)) ?_
    refine zw_U (hs 5 _ rfl) (by omega) (((fr_.2 _ ho1 ho2).trans hO)) rfl ⟨_, rfl⟩ fun hz661 wz662 => ?_
    have wz662 : hd_w G _ hz661 o (1016, [.long (Int64.ofInt v_), s0]) := wz662
    have lwz662 := wz662.1
    refine hs 6 _ rfl _ _ _ _ _ ?_
    refine hs 10 _ rfl _ _ _ _ _ _ _ rfl ?_
    exact hs 11 _ rfl _ _ _ _ _ (rv _) (by omega) (by omega) (hP v_ 0 _ _ (Or.inl ⟨y_, rfl, Or.inr ⟨cp_, v1_, Or.inr ⟨v2_, rfl⟩⟩⟩) ((zc_of.fr fr_).tr (zc_of.w wz662)) (zc_X.out (xX_) wz662 ho1 ho2) fun _ => wz662.at)
  · refine hx (_, _) (List.mem_cons.mpr (Or.inl rfl)) _ _ _ _ rfl ?_
    show S 14 _ [] _ _ _
    refine hs 8 _ rfl _ _ _ _ _ _ _ rfl ?_
    exact hs 9 _ rfl _ _ _ _ _ (rv _) (by omega) (by omega) (hP 0 1 _ _ (Or.inr ⟨hn_, rfl, rfl⟩) (zc_of.g zg.app1) (⟨_, _, _, hX.app, rfl⟩) fun z_ => absurd z_ (by decide))
set_option maxHeartbeats 4000000 in
theorem zc_wtell_M {l : Launch} {G : am_G} {X : ck_XT} (g : gM l G X) {x : Nat} {r : Nat → Nat} {jj mm kk : Int} {c : sp_S} {R : Nat → sp_S} {old cnt : Nat} {h : List am_C} (hX : zc_x G h x r jj mm kk c R old cnt){o : Nat} {n0 : Int64} {s0 : Value} (hO : am_g G h o = some (1016, [.long n0, s0])) (ho1 : o < x ∨ x + 228 ≤ o) (ho2 : o ≠ r 4) (ho3 : 1000 ≤ o) {e e2 : Int} (he1 : -2147483648 ≤ e) (he2 : e ≤ 2147483647) (hf1 : -2147483648 ≤ e2) (hf2 : e2 ≤ 2147483647) {mc ms : Nat} {Post : am_O → List am_C → Prop} (hmc : 1 ≤ mc) (hms : 6 ≤ ms)
    (hP : ∀ (a th : Int) (T' : sp_T) (h' : List am_C), sp_d11 e e2 (c, zc_l R old cnt, jj, mm, kk) a th T' → zc_of G h h' x r o → zc_Y G h' x r T' → (th = 0 → am_g G h' o = some (1016, [.long (Int64.ofInt a), s0])) → Post (.inl (some (.int (Int32.ofInt th)))) h') :
    am_M l G yL_tell (.codeWith yL_tell method_13_code 5 (some .int) [(0, 11, 14, 19), (0, 11, 18, 30)]) 8 167 mc ms [.ref x, .int (Int32.ofInt e), .int (Int32.ofInt e2), .ref o] h Post := by
  refine gh_yL_tell_X g (Nat.le_of_ble_eq_true rfl) fun S SX hs hr hw hx => ?_
  have rv : ∀ x : Int32, ck_fv 0 (.int x) := fun x => ⟨_, rfl⟩
  have ok_ := hX.2.2.1
  have okd_ := ok_.1
  have okn_ := ok_.2.1.1
  have okr_ := ok_.2.2.1.1
  have okb_ := ok_.2.2.2.1
  have px_ := hX.2.2.2.2.2.2.2
  refine hs 0 _ rfl _ _ _ _ _ _ _ rfl ?_
  refine hs 1 _ rfl _ _ _ _ _ _ _ rfl ?_
  refine hs 2 _ rfl _ _ _ _ _ _ _ rfl ?_
  refine hs 3 _ rfl _ _ _ _ _ _ _ rfl ?_
  refine zw_cm (hs 4 _ rfl) (a := [.ref x, .int (Int32.ofInt e), .int (Int32.ofInt e2)]) (st := [.ref o]) 1 6 rfl rfl (Nat.le_of_ble_eq_true rfl) ⟨_, _, _, rfl, hX.1, rfl⟩ (by omega) (by omega) (zc_tell_M g hX he1 he2 hf1 hf2 (by omega) (by omega) (fun y_ y2_ h9_ fr_ xX_ => ?_) (fun hn_ => ?_) (fun y_ hn_ => ?_))
  · show S 7 [some (.ref x), some (.int (Int32.ofInt e)), some (.int (Int32.ofInt e2)), some (.ref o), none] [.int (Int32.ofInt (c.2.2.1.length : Int)), .ref o] _ _ _
    refine hs 5 _ rfl _ _ _ _ _ _ _ (hd_i2l (by omega) (by omega)) ?_
    refine zw_U (hs 6 _ rfl) (by omega) (((fr_.2 _ ho1 ho2).trans hO)) rfl ⟨_, rfl⟩ fun hz663 wz664 => ?_
    have wz664 : hd_w G _ hz663 o (1016, [.long (Int64.ofInt (c.2.2.1.length : Int)), s0]) := wz664
    have lwz664 := wz664.1
    refine hs 7 _ rfl _ _ _ _ _ ?_
    refine hs 14 _ rfl _ _ _ _ _ _ _ rfl ?_
    exact hs 15 _ rfl _ _ _ _ _ (rv _) (by omega) (by omega) (hP (c.2.2.1.length : Int) 0 _ _ (Or.inl ⟨y_, Or.inl ⟨y2_, rfl, rfl, rfl⟩⟩) ((zc_of.fr fr_).tr (zc_of.w wz664)) (zc_X.out (xX_) wz664 ho1 ho2) fun _ => wz664.at)
  · refine hx (_, _) (List.mem_cons.mpr (Or.inl rfl)) _ _ _ _ rfl ?_
    show S 16 _ [] _ _ _
    refine hs 9 _ rfl _ _ _ _ _ _ _ rfl ?_
    exact hs 10 _ rfl _ _ _ _ _ (rv _) (by omega) (by omega) (hP 0 1 _ _ (Or.inr ⟨hn_, rfl, rfl⟩) (zc_of.g zg.app1) (⟨_, _, _, hX.app, rfl⟩) fun z_ => absurd z_ (by decide))
  · refine hx (_, _) (List.mem_cons.mpr (Or.inr (List.mem_cons.mpr (Or.inl rfl)))) _ _ _ _ rfl ?_
    show S 20 _ [] _ _ _
    refine hs 12 _ rfl _ _ _ _ _ _ _ rfl ?_
    exact hs 13 _ rfl _ _ _ _ _ (rv _) (by omega) (by omega) (hP 0 2 _ _ (Or.inl ⟨y_, Or.inr ⟨hn_, rfl, rfl⟩⟩) (zc_of.g zg.app1) (⟨_, _, _, hX.app, rfl⟩) fun z_ => absurd z_ (by decide))
set_option maxHeartbeats 4000000 in
theorem zc_wtellIf_M {l : Launch} {G : am_G} {X : ck_XT} (g : gM l G X) {x : Nat} {r : Nat → Nat} {jj mm kk : Int} {c : sp_S} {R : Nat → sp_S} {old cnt : Nat} {h : List am_C} (hX : zc_x G h x r jj mm kk c R old cnt){o : Nat} {n0 : Int64} {s0 : Value} (hO : am_g G h o = some (1016, [.long n0, s0])) (ho1 : o < x ∨ x + 228 ≤ o) (ho2 : o ≠ r 4) (ho3 : 1000 ≤ o) {e e2 : Int} (he1 : -2147483648 ≤ e) (he2 : e ≤ 2147483647) (hf1 : -2147483648 ≤ e2) (hf2 : e2 ≤ 2147483647) {mc ms : Nat} {Post : am_O → List am_C → Prop} (hmc : 1 ≤ mc) (hms : 6 ≤ ms)
    (hP : ∀ (a th : Int) (T' : sp_T) (h' : List am_C), sp_d12 e e2 (c, zc_l R old cnt, jj, mm, kk) a th T' → zc_of G h h' x r o → zc_Y G h' x r T' → (th = 0 → am_g G h' o = some (1016, [.long (Int64.ofInt a), s0])) → Post (.inl (some (.int (Int32.ofInt th)))) h') :
    am_M l G yL_tellIf (.codeWith yL_tellIf method_14_code 5 (some .int) [(0, 18, 21, 19), (0, 18, 25, 30)]) 8 167 mc ms [.ref x, .int (Int32.ofInt e), .int (Int32.ofInt e2), .ref o] h Post := by
  refine gh_yL_tellIf_X g (Nat.le_of_ble_eq_true rfl) fun S SX hs hr hw hx => ?_
  have rv : ∀ x : Int32, ck_fv 0 (.int x) := fun x => ⟨_, rfl⟩
  have ok_ := hX.2.2.1
  have okd_ := ok_.1
  have okn_ := ok_.2.1.1
  have okr_ := ok_.2.2.1.1
  have okb_ := ok_.2.2.2.1
  have px_ := hX.2.2.2.2.2.2.2
  refine hs 0 _ rfl _ _ _ _ _ _ _ rfl ?_
  refine hs 1 _ rfl _ _ _ _ _ _ _ rfl ?_
  refine hs 2 _ rfl _ _ _ _ _ _ _ rfl ?_
  refine hs 3 _ rfl _ _ _ _ _ _ _ rfl ?_
  refine zw_cm (hs 4 _ rfl) (a := [.ref x, .int (Int32.ofInt e), .int (Int32.ofInt e2)]) (st := [.ref o]) 1 6 rfl rfl (Nat.le_of_ble_eq_true rfl) ⟨_, _, _, rfl, hX.1, rfl⟩ (by omega) (by omega) (zc_tellIf_M g hX he1 he2 hf1 hf2 (by omega) (by omega) (fun y_ y2_ ft_ h9_ fr_ xX_ => ?_) (fun y_ y2_ ft_ h9_ fr_ x9_ => ?_) (fun hn_ => ?_) (fun y_ hn_ => ?_))
  · show S 7 [some (.ref x), some (.int (Int32.ofInt e)), some (.int (Int32.ofInt e2)), some (.ref o), none] [.int (Int32.ofInt (1 : Int)), .ref o] _ _ _
    refine hs 5 _ rfl _ _ _ _ _ _ (fun zq => absurd (hd_c1z (c := 0) (by omega) (by omega) zq) (by omega : ¬ ((1 : Int) = 0))) (fun _ => ?_)
    refine hs 6 _ rfl _ _ _ _ _ _ _ rfl ?_
    refine hs 7 _ rfl _ _ _ _ _ ?_
    refine zw_U (hs 9 _ rfl) (by omega) (((fr_.2 _ ho1 ho2).trans hO)) rfl ⟨_, rfl⟩ fun hz665 wz666 => ?_
    have wz666 : hd_w G _ hz665 o (1016, [.long (Int64.ofInt (1 : Int)), s0]) := wz666
    have lwz666 := wz666.1
    refine hs 10 _ rfl _ _ _ _ _ ?_
    refine hs 17 _ rfl _ _ _ _ _ _ _ rfl ?_
    exact hs 18 _ rfl _ _ _ _ _ (rv _) (by omega) (by omega) (hP (1 : Int) 0 _ _ (Or.inl ⟨y_, Or.inl ⟨y2_, rfl, Or.inl ⟨ft_, rfl, rfl⟩⟩⟩) ((zc_of.fr fr_).tr (zc_of.w wz666)) (zc_X.out (xX_) wz666 ho1 ho2) fun _ => wz666.at)
  · show S 7 [some (.ref x), some (.int (Int32.ofInt e)), some (.int (Int32.ofInt e2)), some (.ref o), none] [.int (Int32.ofInt (0 : Int)), .ref o] _ _ _
    refine hs 5 _ rfl _ _ _ _ _ _ (fun _ => ?_) (fun zq => absurd (hd_c1t (c := 0) (by omega) (by omega) (by omega : (0 : Int) = 0)) zq)
    refine hs 8 _ rfl _ _ _ _ _ _ _ rfl ?_
    refine zw_U (hs 9 _ rfl) (by omega) (((fr_.2 _ ho1 ho2).trans hO)) rfl ⟨_, rfl⟩ fun hz667 wz668 => ?_
    have wz668 : hd_w G _ hz667 o (1016, [.long (Int64.ofInt (0 : Int)), s0]) := wz668
    have lwz668 := wz668.1
    refine hs 10 _ rfl _ _ _ _ _ ?_
    refine hs 17 _ rfl _ _ _ _ _ _ _ rfl ?_
    exact hs 18 _ rfl _ _ _ _ _ (rv _) (by omega) (by omega) (hP (0 : Int) 0 _ _ (Or.inl ⟨y_, Or.inl ⟨y2_, rfl, Or.inr ⟨ft_, rfl, rfl⟩⟩⟩) ((zc_of.fr fr_).tr (zc_of.w wz668)) (zc_X.out (⟨_, _, _, x9_, rfl⟩) wz668 ho1 ho2) fun _ => wz668.at)
  · refine hx (_, _) (List.mem_cons.mpr (Or.inl rfl)) _ _ _ _ rfl ?_
    show S 23 _ [] _ _ _
    refine hs 12 _ rfl _ _ _ _ _ _ _ rfl ?_
    exact hs 13 _ rfl _ _ _ _ _ (rv _) (by omega) (by omega) (hP 0 1 _ _ (Or.inr ⟨hn_, rfl, rfl⟩) (zc_of.g zg.app1) (⟨_, _, _, hX.app, rfl⟩) fun z_ => absurd z_ (by decide))
  · refine hx (_, _) (List.mem_cons.mpr (Or.inr (List.mem_cons.mpr (Or.inl rfl)))) _ _ _ _ rfl ?_
    show S 27 _ [] _ _ _
    refine hs 15 _ rfl _ _ _ _ _ _ _ rfl ?_
    exact hs 16 _ rfl _ _ _ _ _ (rv _) (by omega) (by omega) (hP 0 2 _ _ (Or.inl ⟨y_, Or.inr ⟨hn_, rfl, rfl⟩⟩) (zc_of.g zg.app1) (⟨_, _, _, hX.app, rfl⟩) fun z_ => absurd z_ (by decide))
set_option maxHeartbeats 4000000 in
theorem zc_wdrop_M {l : Launch} {G : am_G} {X : ck_XT} (g : gM l G X) {x : Nat} {r : Nat → Nat} {jj mm kk : Int} {c : sp_S} {R : Nat → sp_S} {old cnt : Nat} {h : List am_C} (hX : zc_x G h x r jj mm kk c R old cnt){o : Nat} {n0 : Int64} {s0 : Value} (hO : am_g G h o = some (1016, [.long n0, s0])) (ho1 : o < x ∨ x + 228 ≤ o) (ho2 : o ≠ r 4) (ho3 : 1000 ≤ o) {e e2 : Int} (he1 : -2147483648 ≤ e) (he2 : e ≤ 2147483647) {mc ms : Nat} {Post : am_O → List am_C → Prop} (hmc : 1 ≤ mc) (hms : 6 ≤ ms)
    (hP : ∀ (a th : Int) (T' : sp_T) (h' : List am_C), sp_d13 e e2 (c, zc_l R old cnt, jj, mm, kk) a th T' → zc_of G h h' x r o → zc_Y G h' x r T' → (th = 0 → am_g G h' o = some (1016, [.long (Int64.ofInt a), s0])) → Post (.inl (some (.int (Int32.ofInt th)))) h') :
    am_M l G yL_drop (.codeWith yL_drop method_15_code 4 (some .int) [(0, 10, 13, 25)]) 8 144 mc ms [.ref x, .int (Int32.ofInt e), .ref o] h Post := by
  refine gh_yL_drop_X g (Nat.le_of_ble_eq_true rfl) fun S SX hs hr hw hx => ?_
  have rv : ∀ x : Int32, ck_fv 0 (.int x) := fun x => ⟨_, rfl⟩
  have ok_ := hX.2.2.1
  have okd_ := ok_.1
  have okn_ := ok_.2.1.1
  have okr_ := ok_.2.2.1.1
  have okb_ := ok_.2.2.2.1
  have px_ := hX.2.2.2.2.2.2.2
  refine hs 0 _ rfl _ _ _ _ _ _ _ rfl ?_
  refine hs 1 _ rfl _ _ _ _ _ _ _ rfl ?_
  refine hs 2 _ rfl _ _ _ _ _ _ _ rfl ?_
  refine zw_cm (hs 3 _ rfl) (a := [.ref x, .int (Int32.ofInt e)]) (st := [.ref o]) 1 6 rfl rfl (Nat.le_of_ble_eq_true rfl) ⟨_, _, _, rfl, hX.1, rfl⟩ (by omega) (by omega) (zc_drop_M g hX he1 he2 (by omega) (by omega) (fun y_ h9_ fr_ xX_ => ?_) (fun hn_ => ?_))
  · show S 6 [some (.ref x), some (.int (Int32.ofInt e)), some (.ref o), none] [.int (Int32.ofInt ((c.2.2.1.eraseIdx e.toNat).length : Int)), .ref o] _ _ _
    have el_ : (c.2.2.1.eraseIdx e.toNat).length ≤ c.2.2.1.length := List.length_eraseIdx_le _ _
    refine hs 4 _ rfl _ _ _ _ _ _ _ (hd_i2l (by omega) (by omega)) ?_
    refine zw_U (hs 5 _ rfl) (by omega) (((fr_.2 _ ho1 ho2).trans hO)) rfl ⟨_, rfl⟩ fun hz669 wz670 => ?_
    have wz670 : hd_w G _ hz669 o (1016, [.long (Int64.ofInt ((c.2.2.1.eraseIdx e.toNat).length : Int)), s0]) := wz670
    have lwz670 := wz670.1
    refine hs 6 _ rfl _ _ _ _ _ ?_
    refine hs 10 _ rfl _ _ _ _ _ _ _ rfl ?_
    exact hs 11 _ rfl _ _ _ _ _ (rv _) (by omega) (by omega) (hP ((c.2.2.1.eraseIdx e.toNat).length : Int) 0 _ _ (Or.inl ⟨y_, rfl, rfl, rfl⟩) ((zc_of.fr fr_).tr (zc_of.w wz670)) (zc_X.out (xX_) wz670 ho1 ho2) fun _ => wz670.at)
  · refine hx (_, _) (List.mem_cons.mpr (Or.inl rfl)) _ _ _ _ rfl ?_
    show S 14 _ [] _ _ _
    refine hs 8 _ rfl _ _ _ _ _ _ _ rfl ?_
    exact hs 9 _ rfl _ _ _ _ _ (rv _) (by omega) (by omega) (hP 0 1 _ _ (Or.inr ⟨hn_, rfl, rfl⟩) (zc_of.g zg.app1) (⟨_, _, _, hX.app, rfl⟩) fun z_ => absurd z_ (by decide))
set_option maxHeartbeats 4000000 in
theorem zc_wbase_M {l : Launch} {G : am_G} {X : ck_XT} (g : gM l G X) {x : Nat} {r : Nat → Nat} {jj mm kk : Int} {c : sp_S} {R : Nat → sp_S} {old cnt : Nat} {h : List am_C} (hX : zc_x G h x r jj mm kk c R old cnt){o : Nat} {n0 : Int64} {s0 : Value} (hO : am_g G h o = some (1016, [.long n0, s0])) (ho1 : o < x ∨ x + 228 ≤ o) (ho2 : o ≠ r 4) (ho3 : 1000 ≤ o) {e e2 : Int} (he1 : -2147483648 ≤ e) (he2 : e ≤ 2147483647) {mc ms : Nat} {Post : am_O → List am_C → Prop} (hmc : 1 ≤ mc) (hms : 6 ≤ ms)
    (hP : ∀ (a th : Int) (T' : sp_T) (h' : List am_C), sp_d14 e e2 (c, zc_l R old cnt, jj, mm, kk) a th T' → zc_of G h h' x r o → zc_Y G h' x r T' → (th = 0 → am_g G h' o = some (1016, [.long (Int64.ofInt a), s0])) → Post (.inl (some (.int (Int32.ofInt th)))) h') :
    am_M l G yL_base (.codeWith yL_base method_16_code 4 (some .int) [(0, 10, 13, 19), (0, 10, 16, 30)]) 7 144 mc ms [.ref x, .int (Int32.ofInt e), .ref o] h Post := by
  refine gh_yL_base_X g (Nat.le_of_ble_eq_true rfl) fun S SX hs hr hw hx => ?_
  have rv : ∀ x : Int32, ck_fv 0 (.int x) := fun x => ⟨_, rfl⟩
  have ok_ := hX.2.2.1
  have okd_ := ok_.1
  have okn_ := ok_.2.1.1
  have okr_ := ok_.2.2.1.1
  have okb_ := ok_.2.2.2.1
  have px_ := hX.2.2.2.2.2.2.2
  refine hs 0 _ rfl _ _ _ _ _ _ _ rfl ?_
  refine hs 1 _ rfl _ _ _ _ _ _ _ rfl ?_
  refine hs 2 _ rfl _ _ _ _ _ _ _ rfl ?_
  refine zw_cm (hs 3 _ rfl) (a := [.ref x, .int (Int32.ofInt e)]) (st := [.ref o]) 1 6 rfl rfl (Nat.le_of_ble_eq_true rfl) ⟨_, _, _, rfl, hX.1, rfl⟩ (by omega) (by omega) (zc_base_M g hX he1 he2 (by omega) (by omega) (fun y_ y2_ h9_ fr_ xX_ => ?_) (fun hn_ => ?_) (fun y_ hn_ => ?_))
  · show S 6 [some (.ref x), some (.int (Int32.ofInt e)), some (.ref o), none] [.int (Int32.ofInt (c.2.2.2.length : Int)), .ref o] _ _ _
    refine hs 4 _ rfl _ _ _ _ _ _ _ (hd_i2l (by omega) (by omega)) ?_
    refine zw_U (hs 5 _ rfl) (by omega) (((fr_.2 _ ho1 ho2).trans hO)) rfl ⟨_, rfl⟩ fun hz671 wz672 => ?_
    have wz672 : hd_w G _ hz671 o (1016, [.long (Int64.ofInt (c.2.2.2.length : Int)), s0]) := wz672
    have lwz672 := wz672.1
    refine hs 6 _ rfl _ _ _ _ _ ?_
    refine hs 13 _ rfl _ _ _ _ _ _ _ rfl ?_
    exact hs 14 _ rfl _ _ _ _ _ (rv _) (by omega) (by omega) (hP (c.2.2.2.length : Int) 0 _ _ (Or.inl ⟨y_, Or.inl ⟨y2_, rfl, rfl, rfl⟩⟩) ((zc_of.fr fr_).tr (zc_of.w wz672)) (zc_X.out (xX_) wz672 ho1 ho2) fun _ => wz672.at)
  · refine hx (_, _) (List.mem_cons.mpr (Or.inl rfl)) _ _ _ _ rfl ?_
    show S 14 _ [] _ _ _
    refine hs 8 _ rfl _ _ _ _ _ _ _ rfl ?_
    exact hs 9 _ rfl _ _ _ _ _ (rv _) (by omega) (by omega) (hP 0 1 _ _ (Or.inr ⟨hn_, rfl, rfl⟩) (zc_of.g zg.app1) (⟨_, _, _, hX.app, rfl⟩) fun z_ => absurd z_ (by decide))
  · refine hx (_, _) (List.mem_cons.mpr (Or.inr (List.mem_cons.mpr (Or.inl rfl)))) _ _ _ _ rfl ?_
    show S 17 _ [] _ _ _
    refine hs 11 _ rfl _ _ _ _ _ _ _ rfl ?_
    exact hs 12 _ rfl _ _ _ _ _ (rv _) (by omega) (by omega) (hP 0 2 _ _ (Or.inl ⟨y_, Or.inr ⟨hn_, rfl, rfl⟩⟩) (zc_of.g zg.app1) (⟨_, _, _, hX.app, rfl⟩) fun z_ => absurd z_ (by decide))
set_option maxHeartbeats 4000000 in
theorem zc_wunbase_M {l : Launch} {G : am_G} {X : ck_XT} (g : gM l G X) {x : Nat} {r : Nat → Nat} {jj mm kk : Int} {c : sp_S} {R : Nat → sp_S} {old cnt : Nat} {h : List am_C} (hX : zc_x G h x r jj mm kk c R old cnt){o : Nat} {n0 : Int64} {s0 : Value} (hO : am_g G h o = some (1016, [.long n0, s0])) (ho1 : o < x ∨ x + 228 ≤ o) (ho2 : o ≠ r 4) (ho3 : 1000 ≤ o) {e e2 : Int}  {mc ms : Nat} {Post : am_O → List am_C → Prop} (hmc : 1 ≤ mc) (hms : 6 ≤ ms)
    (hP : ∀ (a th : Int) (T' : sp_T) (h' : List am_C), sp_d15 e e2 (c, zc_l R old cnt, jj, mm, kk) a th T' → zc_of G h h' x r o → zc_Y G h' x r T' → (th = 0 → am_g G h' o = some (1016, [.long (Int64.ofInt a), s0])) → Post (.inl (some (.int (Int32.ofInt th)))) h') :
    am_M l G yL_unbase (.codeWith yL_unbase method_17_code 3 (some .int) [(0, 9, 12, 30)]) 7 143 mc ms [.ref x, .ref o] h Post := by
  refine gh_yL_unbase_X g (Nat.le_of_ble_eq_true rfl) fun S SX hs hr hw hx => ?_
  have rv : ∀ x : Int32, ck_fv 0 (.int x) := fun x => ⟨_, rfl⟩
  have ok_ := hX.2.2.1
  have okd_ := ok_.1
  have okn_ := ok_.2.1.1
  have okr_ := ok_.2.2.1.1
  have okb_ := ok_.2.2.2.1
  have px_ := hX.2.2.2.2.2.2.2
  refine hs 0 _ rfl _ _ _ _ _ _ _ rfl ?_
  refine hs 1 _ rfl _ _ _ _ _ _ _ rfl ?_
  refine zw_cm (hs 2 _ rfl) (a := [.ref x]) (st := [.ref o]) 1 6 rfl rfl (Nat.le_of_ble_eq_true rfl) ⟨_, _, _, rfl, hX.1, rfl⟩ (by omega) (by omega) (zc_unbase_M g hX  (by omega) (by omega) (fun B_ b_ y_ h9_ fr_ xX_ => ?_) (fun hn_ => ?_))
  · show S 5 [some (.ref x), some (.ref o), none] [.int (Int32.ofInt b_), .ref o] _ _ _
    have bb_ := ok_.2.2.2.2 b_ (by rw [y_]; exact List.mem_append_right _ (List.mem_singleton.mpr rfl))
    refine hs 3 _ rfl _ _ _ _ _ _ _ (hd_i2l (by omega) (by omega)) ?_
    refine zw_U (hs 4 _ rfl) (by omega) (((fr_.2 _ ho1 ho2).trans hO)) rfl ⟨_, rfl⟩ fun hz673 wz674 => ?_
    have wz674 : hd_w G _ hz673 o (1016, [.long (Int64.ofInt b_), s0]) := wz674
    have lwz674 := wz674.1
    refine hs 5 _ rfl _ _ _ _ _ ?_
    refine hs 9 _ rfl _ _ _ _ _ _ _ rfl ?_
    exact hs 10 _ rfl _ _ _ _ _ (rv _) (by omega) (by omega) (hP b_ 0 _ _ (Or.inl ⟨B_, b_, y_, rfl, rfl, rfl⟩) ((zc_of.fr fr_).tr (zc_of.w wz674)) (zc_X.out (xX_) wz674 ho1 ho2) fun _ => wz674.at)
  · refine hx (_, _) (List.mem_cons.mpr (Or.inl rfl)) _ _ _ _ rfl ?_
    show S 13 _ [] _ _ _
    refine hs 7 _ rfl _ _ _ _ _ _ _ rfl ?_
    exact hs 8 _ rfl _ _ _ _ _ (rv _) (by omega) (by omega) (hP 0 1 _ _ (Or.inr ⟨hn_, rfl, rfl⟩) (zc_of.g zg.app1) (⟨_, _, _, hX.app, rfl⟩) fun z_ => absurd z_ (by decide))
set_option maxHeartbeats 4000000 in
theorem zc_wundo_M {l : Launch} {G : am_G} {X : ck_XT} (g : gM l G X) {x : Nat} {r : Nat → Nat} {jj mm kk : Int} {c : sp_S} {R : Nat → sp_S} {old cnt : Nat} {h : List am_C} (hX : zc_x G h x r jj mm kk c R old cnt){o : Nat} {n0 : Int64} {s0 : Value} (hO : am_g G h o = some (1016, [.long n0, s0])) (ho1 : o < x ∨ x + 228 ≤ o) (ho2 : o ≠ r 4) (ho3 : 1000 ≤ o) {e e2 : Int}  {mc ms : Nat} {Post : am_O → List am_C → Prop} (hmc : 1 ≤ mc) (hms : 6 ≤ ms)
    (hP : ∀ (a th : Int) (T' : sp_T) (h' : List am_C), sp_d16 e e2 (c, zc_l R old cnt, jj, mm, kk) a th T' → zc_of G h h' x r o → zc_Y G h' x r T' → (th = 0 → am_g G h' o = some (1016, [.long (Int64.ofInt a), s0])) → Post (.inl (some (.int (Int32.ofInt th)))) h') :
    am_M l G yL_undo (.codeWith yL_undo method_18_code 3 (some .int) [(0, 9, 12, 30)]) 7 143 mc ms [.ref x, .ref o] h Post := by
  refine gh_yL_undo_X g (Nat.le_of_ble_eq_true rfl) fun S SX hs hr hw hx => ?_
  have rv : ∀ x : Int32, ck_fv 0 (.int x) := fun x => ⟨_, rfl⟩
  have ok_ := hX.2.2.1
  have okd_ := ok_.1
  have okn_ := ok_.2.1.1
  have okr_ := ok_.2.2.1.1
  have okb_ := ok_.2.2.2.1
  have px_ := hX.2.2.2.2.2.2.2
  refine hs 0 _ rfl _ _ _ _ _ _ _ rfl ?_
  refine hs 1 _ rfl _ _ _ _ _ _ _ rfl ?_
  refine zw_cm (hs 2 _ rfl) (a := [.ref x]) (st := [.ref o]) 1 6 rfl rfl (Nat.le_of_ble_eq_true rfl) ⟨_, _, _, rfl, hX.1, rfl⟩ (by omega) (by omega) (zc_undo_M g hX  (by omega) (by omega) (fun P_ s_ y_ h9_ fr_ xX_ => ?_) (fun hn_ => ?_))
  · show S 5 [some (.ref x), some (.ref o), none] [.int (Int32.ofInt (P_.length : Int)), .ref o] _ _ _
    have pl_ : P_.length + 1 ≤ 12 := by
      have z_ := congrArg List.length y_
      rw [zc_l_len, List.length_append, List.length_singleton] at z_
      have := hX.2.2.2.1.2.2.2.2
      omega
    refine hs 3 _ rfl _ _ _ _ _ _ _ (hd_i2l (by omega) (by omega)) ?_
    refine zw_U (hs 4 _ rfl) (by omega) (((fr_.2 _ ho1 ho2).trans hO)) rfl ⟨_, rfl⟩ fun hz675 wz676 => ?_
    have wz676 : hd_w G _ hz675 o (1016, [.long (Int64.ofInt (P_.length : Int)), s0]) := wz676
    have lwz676 := wz676.1
    refine hs 5 _ rfl _ _ _ _ _ ?_
    refine hs 9 _ rfl _ _ _ _ _ _ _ rfl ?_
    exact hs 10 _ rfl _ _ _ _ _ (rv _) (by omega) (by omega) (hP (P_.length : Int) 0 _ _ (Or.inl ⟨P_, s_, y_, rfl, rfl, rfl⟩) ((zc_of.fr fr_).tr (zc_of.w wz676)) (zc_X.out (xX_) wz676 ho1 ho2) fun _ => wz676.at)
  · refine hx (_, _) (List.mem_cons.mpr (Or.inl rfl)) _ _ _ _ rfl ?_
    show S 13 _ [] _ _ _
    refine hs 7 _ rfl _ _ _ _ _ _ _ rfl ?_
    exact hs 8 _ rfl _ _ _ _ _ (rv _) (by omega) (by omega) (hP 0 1 _ _ (Or.inr ⟨hn_, rfl, rfl⟩) (zc_of.g zg.app1) (⟨_, _, _, hX.app, rfl⟩) fun z_ => absurd z_ (by decide))
set_option maxHeartbeats 4000000 in
theorem zc_knock_M {l : Launch} {G : am_G} {X : ck_XT} (g : gM l G X) {x : Nat} {r : Nat → Nat} {jj mm kk : Int} {c : sp_S} {R : Nat → sp_S} {old cnt : Nat} {h : List am_C} (hX : zc_x G h x r jj mm kk c R old cnt){e e2 : Int} {mc ms : Nat} {Post : am_O → List am_C → Prop}
    (hP : ∀ (a th : Int) (T' : sp_T) (h' : List am_C), sp_d17 e e2 (c, zc_l R old cnt, jj, mm, kk) a th T' → zc_fr G h h' x r → zc_Y G h' x r T' → Post (.inl (some (.int (Int32.ofInt a)))) h') :
    am_M l G yX10_knock (.code yX10_knock prog_1_method_19_code 1 (some .int)) 1 20 mc ms [.ref x] h Post := by
  refine gh_yX10_knock_X g (Nat.le_of_ble_eq_true rfl) fun S SX hs hr hw hx => ?_
  have rv : ∀ x : Int32, ck_fv 0 (.int x) := fun x => ⟨_, rfl⟩
  have px_ := hX.2.2.2.2.2.2.2
  refine hs 0 _ rfl _ _ _ _ _ _ _ rfl ?_
  refine hs 1 _ rfl _ _ _ _ _ _ _ rfl ?_
  refine hs 2 _ rfl _ _ _ _ _ _ _ _ _ (hX.1) rfl rfl ?_
  refine hs 3 _ rfl _ _ _ _ _ _ _ rfl ?_
  refine hs 4 _ rfl _ _ _ _ _ _ _ hd_add ?_
  refine zw_U (hs 5 _ rfl) (by omega) (hX.1) rfl ⟨_, rfl⟩ fun hz677 wz678 => ?_
  have wz678 : hd_w G h hz677 x (1015, [.ref (x + 1), .ref (x + 18), .int (Int32.ofInt jj), .int (Int32.ofInt mm), .int (Int32.ofInt (kk + (1 : Int))), .ref (x + 224), .ref (x + 226), .ref (r 0), .ref (r 1), .ref (r 2), .ref (r 3), .ref (r 4), .ref (r 5)]) := wz678
  have lwz678 := wz678.1
  refine hs 6 _ rfl _ _ _ _ _ _ _ rfl ?_
  refine hs 7 _ rfl _ _ _ _ _ _ _ _ _ (wz678.at) rfl rfl ?_
  exact hs 8 _ rfl _ _ _ _ _ (rv _) (Nat.zero_le _) (Nat.zero_le _) (hP _ _ _ _ ⟨rfl, rfl, rfl⟩ (zc_fr.of (zw_f.w (lo := x) (n := 228) wz678 (by omega) (by omega)) (by omega) (by omega)) ⟨_, _, _, hX.own wz678, rfl⟩)
set_option maxHeartbeats 4000000 in
theorem zc_size9_M {l : Launch} {G : am_G} {X : ck_XT} (g : gM l G X) {x : Nat} {r : Nat → Nat} {jj mm kk : Int} {c : sp_S} {R : Nat → sp_S} {old cnt : Nat} {h : List am_C} (hX : zc_x G h x r jj mm kk c R old cnt){mc ms : Nat} {Post : am_O → List am_C → Prop}
    (hP : Post (.inl (some (.int (Int32.ofInt c.1)))) h) :
    am_M l G yX10_size (.code yX10_size prog_1_method_26_code 1 (some .int)) 1 20 mc ms [.ref x] h Post := by
  refine gh_yX10_size_X g (Nat.le_of_ble_eq_true rfl) fun S SX hs hr hw hx => ?_
  have rv : ∀ x : Int32, ck_fv 0 (.int x) := fun x => ⟨_, rfl⟩
  refine hs 0 _ rfl _ _ _ _ _ _ _ rfl ?_
  refine hs 1 _ rfl _ _ _ _ _ _ _ _ _ (hX.1) rfl rfl ?_
  refine hs 2 _ rfl _ _ _ _ _ _ _ _ _ (hX.2.1.d) rfl rfl ?_
  exact hs 3 _ rfl _ _ _ _ _ (rv _) (Nat.zero_le _) (Nat.zero_le _) hP
end
section
/-! TWO PICTURES OF ONE HEAP, TIED CELL BY CELL -/
def zb_c (G : am_G) (c d : am_C) : Prop := d.1 % 100 = c.1 % 100 ∧ d.2.length = c.2.length ∧ ∀ (j : Nat) (v w : Value), c.2[j]? = some v → d.2[j]? = some w → am_rv G w = am_rv G v
def zb_eq (G : am_G) (h h2 : List am_C) : Prop := h2.length = h.length ∧ ∀ (i : Nat) (c d : am_C), h[i]? = some c → h2[i]? = some d → zb_c G c d
theorem zb_c.rf {G : am_G} {c : am_C} : zb_c G c c := ⟨rfl, rfl, fun j v w h1 h2 => by
  rw [h1] at h2
  cases h2
  rfl⟩
theorem zb_eq.rf {G : am_G} {h : List am_C} : zb_eq G h h := ⟨rfl, fun i c d h1 h2 => by
  rw [h1] at h2
  cases h2
  exact zb_c.rf⟩
theorem zb_c.val {G : am_G} {c d : am_C} (e : zb_c G c d) {j : Nat} {w : Value} (hw : d.2[j]? = some w) : ∃ v : Value, c.2[j]? = some v ∧ am_rv G w = am_rv G v := by
  have l_ : j < c.2.length := by
    have l0_ := (List.getElem?_eq_some_iff.mp hw).1
    have l1_ := e.2.1
    omega
  exact ⟨c.2[j], List.getElem?_eq_getElem l_, e.2.2 j _ _ (List.getElem?_eq_getElem l_) hw⟩
theorem zb_c.ro {G : am_G} {c d : am_C} (e : zb_c G c d) {cell : Cell} (r : am_ro G c cell) : am_ro G d cell := by
  obtain ⟨r1_, r2_, r3_, r4_⟩ := r
  refine ⟨r1_, r2_, fun hd_ => ?_, fun hd_ hd2_ => ?_⟩
  · rw [e.1] at hd_
    obtain ⟨q_, a1_, a2_, a3_, a4_⟩ := r3_ hd_
    refine ⟨q_, by rw [e.1]; exact a1_, by rw [e.2.1]; exact a2_, by rw [e.1]; exact a3_, fun j w hw => ?_⟩
    obtain ⟨v_, v1_, v2_⟩ := e.val hw
    rw [e.1, v2_]
    exact a4_ j v_ v1_
  · rw [e.1] at hd_ hd2_
    obtain ⟨a1_, a2_, a3_⟩ := r4_ hd_ hd2_
    refine ⟨by rw [e.1]; exact a1_, by rw [e.2.1]; exact a2_, fun j w hw => ?_⟩
    obtain ⟨v_, v1_, v2_⟩ := e.val hw
    rw [v2_]
    exact a3_ j v_ v1_
theorem zb_eq.at {G : am_G} {h h2 : List am_C} (e : zb_eq G h h2) {i : Nat} {d : am_C} (hd : h2[i]? = some d) : ∃ c : am_C, h[i]? = some c ∧ zb_c G c d := by
  have l_ : i < h.length := by
    have l0_ := (List.getElem?_eq_some_iff.mp hd).1
    have l1_ := e.1
    omega
  exact ⟨h[i], List.getElem?_eq_getElem l_, e.2 i _ _ (List.getElem?_eq_getElem l_) hd⟩
/-- the other picture shows the same heap -/
theorem zb_eq.H {G : am_G} {h h2 : List am_C} (e : zb_eq G h h2) {H : Heap} (hH : am_H G h H) : am_H G h2 H := by
  refine ⟨by rw [e.1]; exact hH.1, fun i d hd => ?_⟩
  obtain ⟨c_, c1_, c2_⟩ := e.at hd
  obtain ⟨cell_, b1_, b2_, b3_⟩ := hH.2 i c_ c1_
  exact ⟨cell_, b1_, c2_.ro b2_, b3_⟩
theorem zb_eq.g {G : am_G} {h h2 : List am_C} (e : zb_eq G h h2) {p : Nat} {d : am_C} (hd : am_g G h2 p = some d) : ∃ c : am_C, am_g G h p = some c ∧ zb_c G c d := by
  unfold am_g at hd ⊢
  by_cases c_ : p < 1000
  · rw [if_pos c_] at hd ⊢
    exact ⟨d, hd, zb_c.rf⟩
  · rw [if_neg c_] at hd ⊢
    exact e.at hd
/-- an exact contract of one picture, told of the other -/
theorem zb_sw {l : Launch} {G : am_G} {y : MethodName} {cw : Cond} {fr lo mc ms : Nat} {a : List Value} {h h2 : List am_C} {P : am_O → List am_C → Prop} (e : zb_eq G h h2) (h1 : am_M l G y cw fr lo mc ms a h2 P) : am_M l G y cw fr lo mc ms a h P :=
  fun p en he hf hc s m args below hs ha hP hK => h1 p en he hf hc s m args below hs ha ⟨hP.1, e.H hP.2.1, hP.2.2⟩ hK
/-- the typed contract and the exact one, of one call -/
theorem zb_join {l : Launch} {G : am_G} {y : MethodName} {cw : Cond} {fr lo mc ms : Nat} {a : List Value} {h h2 : List am_C} {P1 P2 : am_O → List am_C → Prop} (e : zb_eq G h h2) (t1 : am_M l G y cw fr lo mc ms a h P1) (t2 : am_M l G y cw fr lo mc ms a h2 P2) : am_M l G y cw fr lo mc ms a h (fun o k => P1 o k ∧ ∃ (o2 : am_O) (k2 : List am_C), P2 o2 k2 ∧ zb_o G o o2 ∧ zb_er G k k2) := zb_and t1 (zb_sw e t2)
/-- of two pictures one: the second where the kind is one of S and agrees -/
def zb_pk (S : Nat → Bool) (c d : am_C) : am_C := if S c.1 = true ∧ d.1 % 100 = c.1 % 100 then d else c
def zb_mg (S : Nat → Bool) (k k2 : List am_C) : List am_C := List.zipWith (zb_pk S) k k2
theorem zb_mg.len {S : Nat → Bool} {k k2 : List am_C} (e : k2.length = k.length) : (zb_mg S k k2).length = k.length := by
  unfold zb_mg
  rw [List.length_zipWith, e]
  exact Nat.min_self _
theorem zb_mg.at {S : Nat → Bool} {k k2 : List am_C} {i : Nat} {c d : am_C} (h1 : k[i]? = some c) (h2 : k2[i]? = some d) : (zb_mg S k k2)[i]? = some (zb_pk S c d) := by
  unfold zb_mg
  rw [List.getElem?_zipWith, h1, h2]
theorem zb_mg.eq {G : am_G} {S : Nat → Bool} {k k2 : List am_C} (e : zb_er G k k2) (hS : ∀ t, S t = true → t % 100 < 62) : zb_eq G k (zb_mg S k k2) := by
  have l_ := e.len
  refine ⟨zb_mg.len l_, fun i c d h1 h2 => ?_⟩
  have l2_ : i < k2.length := by
    have l0_ := (List.getElem?_eq_some_iff.mp h1).1
    omega
  rw [zb_mg.at h1 (List.getElem?_eq_getElem l2_)] at h2
  cases h2
  unfold zb_pk
  split
  · next hc =>
    have g1_ : am_g G k (1000 + i) = some (c.1, c.2) := by
      unfold am_g
      rw [if_neg (by omega), Nat.add_sub_cancel_left]
      exact h1
    have g2_ : am_g G k2 (1000 + i) = some (k2[i].1, k2[i].2) := by
      unfold am_g
      rw [if_neg (by omega), Nat.add_sub_cancel_left]
      exact List.getElem?_eq_getElem l2_
    obtain ⟨z1_, z2_⟩ := e.cell (by omega) g1_ g2_ hc.2 (hS _ hc.1)
    exact ⟨hc.2, z1_, z2_⟩
  · exact zb_c.rf
theorem zb_mg.in {G : am_G} {S : Nat → Bool} {k k2 : List am_C} {p : Nat} {c d : am_C} (h2 : am_g G k2 p = some d) (h1 : am_g G k p = some c) (hS : 1000 ≤ p → S c.1 = true ∧ d.1 % 100 = c.1 % 100) : am_g G (zb_mg S k k2) p = some d := by
  unfold am_g at h1 h2 ⊢
  by_cases c_ : p < 1000
  · rw [if_pos c_] at h2 ⊢
    exact h2
  · rw [if_neg c_] at h1 h2 ⊢
    rw [zb_mg.at h1 h2]
    unfold zb_pk
    rw [if_pos (hS (by omega))]
/-- behind a call that only asks: what has stayed is shown as before -/
def zb_as (h h2 k : List am_C) : List am_C := k.mapIdx fun i c => if h[i]? = some c then (h2[i]?).getD c else c
theorem zb_as.eq {G : am_G} {h h2 k : List am_C} (e : zb_eq G h h2) : zb_eq G k (zb_as h h2 k) := by
  refine ⟨by unfold zb_as; rw [List.length_mapIdx], fun i c d h1 hd => ?_⟩
  unfold zb_as at hd
  rw [List.getElem?_mapIdx, h1] at hd
  have hd_ : (if h[i]? = some c then (h2[i]?).getD c else c) = d := Option.some.inj hd
  split at hd_
  · next hc =>
    have l2_ : i < h2.length := by
      have l0_ := (List.getElem?_eq_some_iff.mp hc).1
      have l1_ := e.1
      omega
    rw [List.getElem?_eq_getElem l2_] at hd_
    have hd2_ : h2[i] = d := hd_
    exact e.2 i c d hc (by rw [List.getElem?_eq_getElem l2_, hd2_])
  · rw [← hd_]
    exact zb_c.rf
theorem zb_as.in {G : am_G} {h h2 k : List am_C} {p : Nat} {c d : am_C} (h2d : am_g G h2 p = some d) (hc : am_g G h p = some c) (hk : am_g G k p = some c) : am_g G (zb_as h h2 k) p = some d := by
  unfold am_g at h2d hc hk ⊢
  by_cases c_ : p < 1000
  · rw [if_pos c_] at h2d ⊢
    exact h2d
  · rw [if_neg c_] at h2d hc hk ⊢
    unfold zb_as
    rw [List.getElem?_mapIdx, hk]
    show some (if h[p - 1000]? = some c then (h2[p - 1000]?).getD c else c) = some d
    rw [if_pos hc, h2d]
    rfl
/-- tied where the kinds agree -/
def zb_ti (G : am_G) (h h2 : List am_C) : Prop := h2.length = h.length ∧ ∀ (p : Nat) (c d : am_C), 1000 ≤ p → am_g G h p = some c → am_g G h2 p = some d → d.1 % 100 = c.1 % 100 → c.1 % 100 < 62 → zb_c G c d
theorem zb_eq.ti {G : am_G} {h h2 : List am_C} (e : zb_eq G h h2) : zb_ti G h h2 := ⟨e.1, fun p c d hp h1 hd _ _ => by
  unfold am_g at h1 hd
  rw [if_neg (by omega)] at h1 hd
  exact e.2 _ c d h1 hd⟩
theorem zb_er.ti {G : am_G} {h h2 : List am_C} (e : zb_er G h h2) : zb_ti G h h2 := ⟨e.len, fun p c d hp h1 hd ht h62 => ⟨ht, e.cell hp (show am_g G h p = some (c.1, c.2) from h1) (show am_g G h2 p = some (d.1, d.2) from hd) ht h62⟩⟩
theorem zb_ti.g {G : am_G} {h h2 : List am_C} (e : zb_ti G h h2) {p : Nat} {c d : am_C} (h1 : am_g G h p = some c) (hd : am_g G h2 p = some d) (ht : d.1 % 100 = c.1 % 100) (h62 : c.1 % 100 < 62) : zb_c G c d := by
  by_cases c_ : p < 1000
  · unfold am_g at h1 hd
    rw [if_pos c_] at h1 hd
    rw [h1] at hd
    cases hd
    exact zb_c.rf
  · exact e.2 p c d (by omega) h1 hd ht h62
/-- a third picture that shows the second's cells where the kinds agree and are of S -/
def zb_sh (G : am_G) (S : Nat → Bool) (h h2 mm : List am_C) : Prop := ∀ (p : Nat) (c d : am_C), am_g G h p = some c → am_g G h2 p = some d → d.1 % 100 = c.1 % 100 → S c.1 = true → am_g G mm p = some d
theorem zb_mg.sh {G : am_G} {S : Nat → Bool} {k k2 : List am_C} : zb_sh G S k k2 (zb_mg S k k2) := fun _ _ _ h1 h2 ht hS => zb_mg.in h2 h1 fun _ => ⟨hS, ht⟩
/-- the heap of a picture -/
def zb_l (G : am_G) (h : List am_C) : Prop := ∃ H : Heap, am_H G h H ∧ am_kt G H
theorem zb_er.l {G : am_G} {h h2 : List am_C} (e : zb_er G h h2) : zb_l G h := by
  obtain ⟨H_, a_, -, b_⟩ := e
  exact ⟨H_, a_, b_⟩
/-- a constant isn't a cell made since -/
theorem zb_l.ne {G : am_G} {h : List am_C} (e : zb_l G h) {q n : Nat} {c : am_C} (hq : q < 1000) (hc : am_g G h q = some c) (h62 : c.1 % 100 < 62) (hn : 1000 ≤ n) : am_ad G q ≠ am_ad G n := by
  obtain ⟨H_, -, k_⟩ := e
  unfold am_g at hc
  rw [if_pos hq] at hc
  have l_ := ((k_ q c hc).2 h62).1
  have g_ := am_ad_ge (G := G) hn
  have q_ : am_ad G q = G.2.2.1 q := by
    unfold am_ad
    rw [if_pos hq]
  omega
end
section
/-! WHAT THE TYPES TELL OF THE CLASS'S CELLS; WHAT ONLY ASKS LEAVES THEM -/
theorem zt_ty {X : ck_XT} {T : ck_TT} {K : Int32} {g : ck_g} (hT : ck_HT X T K g) {q t j : Nat} {vs : List Value} {v : Value} {d : ck_D} {y : ck_Y} (hg : g q = some (t, vs)) (hv : vs[j]? = some v) (hd : ck_lk T t = some d) (hy : ck_yt d j = some y) : ck_ty K g y v := by
  obtain ⟨-, c_⟩ := (hT.2 q t vs hg).1 d hd
  obtain ⟨y2_, z1_, z2_⟩ := c_ j v hv
  rw [hy] at z1_
  cases z1_
  exact z2_
theorem zt_adi {G : am_G} {q n : Nat} (hq : 1000 ≤ q) (hn : 1000 ≤ n) (e : am_ad G q = am_ad G n) : q = n := by
  unfold am_ad at e
  rw [if_neg (by omega), if_neg (by omega)] at e
  omega
/-- a reference of the exact picture: the kind of its cell in the typed one -/
theorem zt_ref {X : ck_XT} {T : ck_TT} {K : Int32} {G : am_G} {h h2 : List am_C} (e : zb_ti G h h2) (hT : ck_HT X T K (am_g G h)) {p t t2 j q2 t' : Nat} {vs vs2 : List Value} {d : ck_D} {u w : Int} (hg : am_g G h p = some (t, vs)) (hg2 : am_g G h2 p = some (t2, vs2)) (ht2 : t2 % 100 = t % 100) (h62 : t % 100 < 62) (hv : vs2[j]? = some (.ref q2)) (hq : 1000 ≤ q2) (hd : ck_lk T t = some d) (hy : ck_yt d j = some (3, t', u, w)) (hw : ck_wr T t' = true) : ∃ ws : List Value, am_g G h q2 = some (t', ws) := by
  have c2_ := e.g hg hg2 ht2 h62
  obtain ⟨v_, v1_, v2_⟩ := c2_.val hv
  have y_ : 1000 ≤ t' ∧ ∃ (q : Nat) (vs : List Value), v_ = .ref q ∧ am_g G h q = some (t', vs) := zt_ty hT hg v1_ hd hy
  obtain ⟨-, q_, ws_, r1_, r2_⟩ := y_
  rw [r1_] at v2_
  have a_ := zt_adi hq ((hT.2 q_ t' ws_ r2_).2.2 hw) (Value.ref.inj v2_)
  exact ⟨ws_, by rw [a_]; exact r2_⟩
/-- a cell that both pictures show with one kind of S -/
def zt_k (G : am_G) (S : Nat → Bool) (h h2 : List am_C) (p : Nat) : Prop := ∃ c d : am_C, am_g G h p = some c ∧ am_g G h2 p = some d ∧ d.1 % 100 = c.1 % 100 ∧ S c.1 = true
theorem zt_mk {G : am_G} {S : Nat → Bool} {h h2 : List am_C} {p t t2 : Nat} {vs ws : List Value} (h1 : am_g G h p = some (t, vs)) (h2e : am_g G h2 p = some (t2, ws)) (ht : t2 % 100 = t % 100) (hS : S t = true) : zt_k G S h h2 p := ⟨_, _, h1, h2e, ht, hS⟩
theorem zt_inM {S : Nat → Bool} {M : List (Nat × Nat)} (hM : (M.all fun m => !(S m.1)) = true) {t : Nat} (ht : S t = true) (j : Nat) : ck_inM M t j = false := by
  unfold ck_inM
  rw [List.any_eq_false]
  intro m_ hm_ hh_
  have a_ := List.all_eq_true.mp hM m_ hm_
  have b_ := ck_beq (Bool.and_eq_true_iff.mp hh_).1
  rw [b_, ht] at a_
  cases a_
/-- what has a kind that isn't written stays -/
theorem zt_st {S : Nat → Bool} {M : List (Nat × Nat)} (hM : (M.all fun m => !(S m.1)) = true) {g g' : ck_g} (kp : ck_Kp M [] g g') {p : Nat} {c : am_C} (hc : g p = some c) (hS : S c.1 = true) : g' p = some c := by
  rcases kp p c.1 c.2 hc with ⟨a_, -⟩ | ⟨vs_, a1_, a2_, a3_⟩
  · cases a_
  · rw [a1_]
    have e_ : vs_ = c.2 := List.ext_getElem? fun j => a3_ j (zt_inM hM hS j)
    rw [e_]
theorem zb_as.sh {G : am_G} {S : Nat → Bool} {h h2 k : List am_C} {M : List (Nat × Nat)} (hM : (M.all fun m => !(S m.1)) = true) (kp : ck_Kp M [] (am_g G h) (am_g G k)) : zb_sh G S h h2 (zb_as h h2 k) := fun _ _ _ h1 h2 _ hS => zb_as.in h2 h1 (zt_st hM kp h1 hS)
theorem zt_k.as {G : am_G} {S : Nat → Bool} {h h2 mm : List am_C} (f : zb_sh G S h h2 mm) {p : Nat} (z : zt_k G S h h2 p) : am_g G mm p = am_g G h2 p := by
  obtain ⟨c_, d_, c1_, d1_, t1_, s1_⟩ := z
  rw [d1_]
  exact f p c_ d_ c1_ d1_ t1_ s1_
theorem zb_as.cs {G : am_G} {h h2 k : List am_C} {p : Nat} {c d : am_C} (hk : am_g G k p = some c) (h2d : am_g G h2 p = some d) : am_g G (zb_as h h2 k) p = some d ∨ am_g G (zb_as h h2 k) p = some c := by
  by_cases hc : am_g G h p = some c
  · exact Or.inl (zb_as.in h2d hc hk)
  · right
    unfold am_g at hk hc ⊢
    by_cases c_ : p < 1000
    · rw [if_pos c_] at hk hc
      exact absurd hk hc
    · rw [if_neg c_] at hk hc ⊢
      unfold zb_as
      rw [List.getElem?_mapIdx, hk]
      show some (if h[p - 1000]? = some c then (h2[p - 1000]?).getD c else c) = some c
      rw [if_neg hc]
def zt_C (t : Nat) : Bool := [1015, 1014, 1012, 1053, 1054, 1150, 1250, 1350, 1407, 1450].any fun k => Nat.beq k t
section ZTC
variable {K : Int32} {G : am_G} {h h2 : List am_C} {X : ck_XT}
theorem zt_s (e : zb_ti G h h2) (hT : ck_HT X gT K (am_g G h)) {s : Nat} {c : sp_S} (hs : zc_s G h2 s c) (h0 : 1000 ≤ s) {vs : List Value} (hk : am_g G h s = some (1014, vs)) : ∀ p, s ≤ p → p < s + 17 → zt_k G zt_C h h2 p := by
  obtain ⟨rs_, zs_, bs_, a1_, a2_, a3_, a4_, a5_, -, a7_⟩ := hs
  obtain ⟨w1_, k1_⟩ := zt_ref e hT (j := 1) (q2 := s + 1) (t' := 1053) hk a1_ rfl (by decide) rfl (by omega) (rfl : ck_lk gT 1014 = some (0, 7, 7, [(1, 0, -9, 400), (3, 1053, 0, 0), (1, 0, 0, 6), (3, 1150, 0, 0), (3, 1250, 0, 0), (1, 0, 0, 5), (3, 1350, 0, 0)])) rfl (by decide +kernel)
  obtain ⟨w2_, k2_⟩ := zt_ref e hT (j := 3) (q2 := s + 2) (t' := 1150) hk a1_ rfl (by decide) rfl (by omega) (rfl : ck_lk gT 1014 = some (0, 7, 7, [(1, 0, -9, 400), (3, 1053, 0, 0), (1, 0, 0, 6), (3, 1150, 0, 0), (3, 1250, 0, 0), (1, 0, 0, 5), (3, 1350, 0, 0)])) rfl (by decide +kernel)
  obtain ⟨w3_, k3_⟩ := zt_ref e hT (j := 4) (q2 := s + 3) (t' := 1250) hk a1_ rfl (by decide) rfl (by omega) (rfl : ck_lk gT 1014 = some (0, 7, 7, [(1, 0, -9, 400), (3, 1053, 0, 0), (1, 0, 0, 6), (3, 1150, 0, 0), (3, 1250, 0, 0), (1, 0, 0, 5), (3, 1350, 0, 0)])) rfl (by decide +kernel)
  obtain ⟨w4_, k4_⟩ := zt_ref e hT (j := 6) (q2 := s + 4) (t' := 1350) hk a1_ rfl (by decide) rfl (by omega) (rfl : ck_lk gT 1014 = some (0, 7, 7, [(1, 0, -9, 400), (3, 1053, 0, 0), (1, 0, 0, 6), (3, 1150, 0, 0), (3, 1250, 0, 0), (1, 0, 0, 5), (3, 1350, 0, 0)])) rfl (by decide +kernel)
  have n_ : ∀ i, i < 6 → zt_k G zt_C h h2 (s + 5 + 2 * i) ∧ zt_k G zt_C h h2 (s + 5 + 2 * i + 1) := fun i hi => by
    obtain ⟨n_, sg_, ls_, b1_, b2_, -⟩ := a7_ i hi
    obtain ⟨w5_, k5_⟩ := zt_ref e hT (j := i) (q2 := s + 5 + 2 * i) (t' := 1407) k1_ a2_ rfl (by decide) (zc_rl_get hi) (by omega) (rfl : ck_lk gT 1053 = some (1, 6, 6, [(3, 1407, 0, 0)])) rfl (by decide +kernel)
    obtain ⟨w6_, k6_⟩ := zt_ref e hT (j := 0) (q2 := s + 5 + 2 * i + 1) (t' := 1450) k5_ b1_ rfl (by decide) rfl (by omega) (rfl : ck_lk gT 1407 = some (0, 3, 3, [(3, 1450, 0, 0), (1, 0, 0, 10), (1, 0, -2147483648, 2147483647)])) rfl (by decide +kernel)
    exact ⟨zt_mk k5_ b1_ rfl rfl, zt_mk k6_ b2_ rfl rfl⟩
  intro p hp1 hp2
  by_cases c0_ : p < s + 5
  · rcases (by omega : p = s ∨ p = s + 1 ∨ p = s + 2 ∨ p = s + 3 ∨ p = s + 4) with y_ | y_ | y_ | y_ | y_ <;> subst y_
    · exact zt_mk hk a1_ rfl rfl
    · exact zt_mk k1_ a2_ rfl rfl
    · exact zt_mk k2_ a3_ rfl rfl
    · exact zt_mk k3_ a4_ rfl rfl
    · exact zt_mk k4_ a5_ rfl rfl
  · obtain ⟨i_, hi_, y_⟩ : ∃ i, i < 6 ∧ (p = s + 5 + 2 * i ∨ p = s + 5 + 2 * i + 1) := ⟨(p - (s + 5)) / 2, by omega, by omega⟩
    rcases y_ with y_ | y_
    · rw [y_]
      exact (n_ i_ hi_).1
    · rw [y_]
      exact (n_ i_ hi_).2
theorem zt_p (e : zb_ti G h h2) (hT : ck_HT X gT K (am_g G h)) {q : Nat} {R : Nat → sp_S} {old cnt : Nat} (hp : zc_p G h2 q R old cnt) (h0 : 1000 ≤ q) {vs : List Value} (hk : am_g G h q = some (1012, vs)) : ∀ p, q ≤ p → p < q + 206 → zt_k G zt_C h h2 p := by
  obtain ⟨a1_, a2_, a3_, -⟩ := hp
  obtain ⟨w1_, k1_⟩ := zt_ref e hT (j := 0) (q2 := q + 1) (t' := 1054) hk a1_ rfl (by decide) rfl (by omega) (rfl : ck_lk gT 1012 = some (0, 3, 3, [(3, 1054, 0, 0), (1, 0, 0, 11), (1, 0, 0, 12)])) rfl (by decide +kernel)
  intro p hp1 hp2
  by_cases c0_ : p < q + 2
  · rcases (by omega : p = q ∨ p = q + 1) with y_ | y_ <;> subst y_
    · exact zt_mk hk a1_ rfl rfl
    · exact zt_mk k1_ a2_ rfl rfl
  · obtain ⟨i_, hi_, y1_, y2_⟩ : ∃ i, i < 12 ∧ q + 2 + 17 * i ≤ p ∧ p < q + 2 + 17 * i + 17 := ⟨(p - (q + 2)) / 17, by omega, by omega, by omega⟩
    obtain ⟨w5_, k5_⟩ := zt_ref e hT (j := i_) (q2 := q + 2 + 17 * i_) (t' := 1014) k1_ a2_ rfl (by decide) (zc_rl_get hi_) (by omega) (rfl : ck_lk gT 1054 = some (1, 12, 12, [(3, 1014, 0, 0)])) rfl (by decide +kernel)
    exact zt_s e hT (a3_ i_ hi_).1 (by omega) k5_ p y1_ y2_
end ZTC
end
section
/-! THE CLASS BEHIND A CALL THAT ONLY ASKS -/
theorem zt_rv {X : ck_XT} {T : ck_TT} {K : Int32} {G : am_G} {h h2 : List am_C} (e : zb_ti G h h2) (hT : ck_HT X T K (am_g G h)) {p t t2 j q2 t' : Nat} {vs vs2 : List Value} {d : ck_D} {u w : Int} (hg : am_g G h p = some (t, vs)) (hg2 : am_g G h2 p = some (t2, vs2)) (ht2 : t2 % 100 = t % 100) (h62 : t % 100 < 62) (hv : vs2[j]? = some (.ref q2)) (hq : 1000 ≤ q2) (hd : ck_lk T t = some d) (hy : ck_yt d j = some (3, t', u, w)) (hw : ck_wr T t' = true) : vs[j]? = some (.ref q2) := by
  have c2_ := e.g hg hg2 ht2 h62
  obtain ⟨v_, v1_, v2_⟩ := c2_.val hv
  have y_ : 1000 ≤ t' ∧ ∃ (q : Nat) (vs : List Value), v_ = .ref q ∧ am_g G h q = some (t', vs) := zt_ty hT hg v1_ hd hy
  obtain ⟨-, q_, ws_, r1_, r2_⟩ := y_
  rw [r1_] at v2_
  have a_ := zt_adi hq ((hT.2 q_ t' ws_ r2_).2.2 hw) (Value.ref.inj v2_)
  rw [a_, ← r1_]
  exact v1_
theorem zt_l3 {vs : List Value} (h : vs.length = 3) : ∃ a b c : Value, vs = [a, b, c] := match vs, h with
  | [a, b, c], _ => ⟨a, b, c, rfl⟩
theorem zt_ints {lo hi : Int} : ∀ {vs : List Value}, (∀ (j : Nat) (v : Value), vs[j]? = some v → ∃ x : Int32, v = .int x ∧ lo ≤ x.toInt ∧ x.toInt ≤ hi) → ∃ ls : List Int, vs = hd_r ls ∧ ls.length = vs.length ∧ ∀ x ∈ ls, lo ≤ x ∧ x ≤ hi
  | [], _ => ⟨[], rfl, rfl, fun x hx => by cases hx⟩
  | v :: u, H => by
    obtain ⟨x_, x1_, x2_, x3_⟩ := H 0 v rfl
    obtain ⟨ls_, l1_, l2_, l3_⟩ := zt_ints (vs := u) fun j w hw => H (j + 1) w hw
    refine ⟨x_.toInt :: ls_, ?_, by rw [List.length_cons, List.length_cons, l2_], fun y hy => ?_⟩
    · rw [x1_, l1_]
      show Value.int x_ :: hd_r ls_ = Value.int (Int32.ofInt x_.toInt) :: hd_r ls_
      rw [Int32.ofInt_toInt]
    · rcases List.mem_cons.mp hy with y_ | y_
      · rw [y_]
        exact ⟨x2_, x3_⟩
      · exact l3_ y y_
theorem zt_kp {M : List (Nat × Nat)} {g g' : ck_g} (kp : ck_Kp M [] g g') {p t : Nat} {vs : List Value} (hc : g p = some (t, vs)) : ∃ vs' : List Value, g' p = some (t, vs') ∧ ∀ j : Nat, ck_inM M t j = false → vs'[j]? = vs[j]? := by
  rcases kp p t vs hc with ⟨a_, -⟩ | ⟨vs_, a1_, -, a3_⟩
  · cases a_
  · exact ⟨vs_, a1_, a3_⟩
section ZTA
variable {K : Int32} {G : am_G} {h h2 kk : List am_C} {X : ck_XT} {M : List (Nat × Nat)}
theorem zt_w (e : zb_ti G h h2) (hT : ck_HT X gT K (am_g G h)) (hTk : ck_HT X gT K (am_g G kk)) (kp : ck_Kp M [] (am_g G h) (am_g G kk)) (hM0 : ck_inM M 1007 0 = false) {q : Nat} (hw : zc_w G h2 q) (h0 : 1000 ≤ q) {vs : List Value} (hk : am_g G h q = some (1007, vs)) : zc_w G (zb_as h h2 kk) q := by
  obtain ⟨n_, sg_, ls_, a1_, a2_, a3_, a4_⟩ := hw
  have r0_ := zt_rv e hT (j := 0) (q2 := q + 1) (t' := 1050) hk a1_ rfl (by decide) rfl (by omega) (rfl : ck_lk gT 1007 = some (0, 3, 3, [(3, 1050, 0, 0), (1, 0, 0, 10), (1, 0, -2147483648, 2147483647)])) rfl (by decide +kernel)
  obtain ⟨w1_, k1_⟩ := zt_ref e hT (j := 0) (q2 := q + 1) (t' := 1050) hk a1_ rfl (by decide) rfl (by omega) (rfl : ck_lk gT 1007 = some (0, 3, 3, [(3, 1050, 0, 0), (1, 0, 0, 10), (1, 0, -2147483648, 2147483647)])) rfl (by decide +kernel)
  obtain ⟨vq_, b1_, b2_⟩ := zt_kp kp hk
  obtain ⟨wq_, d1_, -⟩ := zt_kp kp k1_
  have f0_ := (b2_ 0 hM0).trans r0_
  obtain ⟨⟨l1_, l2_⟩, -⟩ := (hTk.2 q 1007 vq_ b1_).1 _ (rfl : ck_lk gT 1007 = some (0, 3, 3, [(3, 1050, 0, 0), (1, 0, 0, 10), (1, 0, -2147483648, 2147483647)]))
  have l3_ : vq_.length = 3 := by
    have a_ : (3 : Int) ≤ (vq_.length : Int) := l1_
    have b_ : (vq_.length : Int) ≤ 3 := l2_
    omega
  obtain ⟨x_, y_, z_, e3_⟩ := zt_l3 l3_
  subst e3_
  have ex_ : x_ = .ref (q + 1) := Option.some.inj f0_
  have ty_ : ∃ u : Int32, y_ = .int u ∧ 0 ≤ u.toInt ∧ u.toInt ≤ 10 := zt_ty hTk (j := 1) b1_ rfl (rfl : ck_lk gT 1007 = some (0, 3, 3, [(3, 1050, 0, 0), (1, 0, 0, 10), (1, 0, -2147483648, 2147483647)])) rfl
  have tz_ : ∃ u : Int32, z_ = .int u ∧ -2147483648 ≤ u.toInt ∧ u.toInt ≤ 2147483647 := zt_ty hTk (j := 2) b1_ rfl (rfl : ck_lk gT 1007 = some (0, 3, 3, [(3, 1050, 0, 0), (1, 0, 0, 10), (1, 0, -2147483648, 2147483647)])) rfl
  obtain ⟨u_, u1_, u2_, u3_⟩ := ty_
  obtain ⟨s_, s1_, -⟩ := tz_
  have kq_ : am_g G kk q = some (sb_c 1007 (q + 1) (u_.toInt.toNat : Int) s_.toInt) := by
    rw [b1_, ex_, u1_, s1_]
    unfold sb_c
    rw [Int.toNat_of_nonneg u2_, Int32.ofInt_toInt, Int32.ofInt_toInt]
  obtain ⟨⟨m1_, m2_⟩, -⟩ := (hTk.2 (q + 1) 1050 wq_ d1_).1 _ (rfl : ck_lk gT 1050 = some (1, 10, 10, [(1, 0, 0, 999999999)]))
  obtain ⟨lq_, g1_, g2_, g3_⟩ := zt_ints (lo := 0) (hi := 999999999) (vs := wq_) fun j v hv => zt_ty hTk (j := j) d1_ hv (rfl : ck_lk gT 1050 = some (1, 10, 10, [(1, 0, 0, 999999999)])) rfl
  have sd_ : sb_d lq_ := ⟨by
    have a_ : (10 : Int) ≤ (wq_.length : Int) := m1_
    have b_ : (wq_.length : Int) ≤ 10 := m2_
    omega, g3_⟩
  rw [g1_] at d1_
  have c1_ : ∃ (n : Nat) (sg : Int), am_g G (zb_as h h2 kk) q = some (sb_c 1007 (q + 1) (n : Int) sg) ∧ n ≤ 10 := by
    rcases zb_as.cs (h := h) kq_ a1_ with y1_ | y1_
    · exact ⟨n_, sg_, y1_, a4_⟩
    · exact ⟨_, _, y1_, by omega⟩
  have c2_ : ∃ ls : List Int, am_g G (zb_as h h2 kk) (q + 1) = some (1050, hd_r ls) ∧ sb_d ls := by
    rcases zb_as.cs (h := h) d1_ a2_ with y1_ | y1_
    · exact ⟨ls_, y1_, a3_⟩
    · exact ⟨lq_, y1_, sd_⟩
  obtain ⟨n2_, sg2_, c3_, c4_⟩ := c1_
  obtain ⟨ls2_, c5_, c6_⟩ := c2_
  exact ⟨n2_, sg2_, ls2_, c3_, c5_, c6_, c4_⟩
theorem zc_s.sm {h h' : List am_C} {s : Nat} {c : sp_S} (a : zc_s G h s c) (f : ∀ p, s ≤ p → p < s + 17 → am_g G h' p = am_g G h p) : zc_s G h' s c := by
  obtain ⟨rs_, zs_, bs_, a1_, a2_, a3_, a4_, a5_, a6_, a7_⟩ := a
  exact ⟨rs_, zs_, bs_, (f _ (by omega) (by omega)).trans a1_, (f _ (by omega) (by omega)).trans a2_, (f _ (by omega) (by omega)).trans a3_, (f _ (by omega) (by omega)).trans a4_, (f _ (by omega) (by omega)).trans a5_, a6_, fun i hi => (a7_ i hi).keep (f _ (by omega) (by omega)) (f _ (by omega) (by omega))⟩
theorem zc_p.sm {h h' : List am_C} {q : Nat} {R : Nat → sp_S} {old cnt : Nat} (a : zc_p G h q R old cnt) (f : ∀ p, q ≤ p → p < q + 206 → am_g G h' p = am_g G h p) : zc_p G h' q R old cnt := by
  obtain ⟨a1_, a2_, a3_, a4_⟩ := a
  exact ⟨(f _ (by omega) (by omega)).trans a1_, (f _ (by omega) (by omega)).trans a2_, fun j hj => ⟨(a3_ j hj).1.sm fun p h1 h2 => f p (by omega) (by omega), (a3_ j hj).2⟩, a4_⟩
/-- the kinds of the class's cells -/
theorem zt_x (e : zb_ti G h h2) (hT : ck_HT X gT K (am_g G h)) {x : Nat} {r : Nat → Nat} {j m k : Int} {c : sp_S} {R : Nat → sp_S} {old cnt : Nat} (a : zc_x G h2 x r j m k c R old cnt) {vs : List Value} (hk : am_g G h x = some (1015, vs)) : (∀ p, x ≤ p → p < x + 224 → zt_k G zt_C h h2 p) ∧ (∃ vs, am_g G h (x + 224) = some (1007, vs)) ∧ (∃ vs, am_g G h (x + 226) = some (1007, vs)) ∧ ∃ vs, am_g G h (r 4) = some (1011, vs) := by
  obtain ⟨a1_, a2_, -, a4_, ⟨a5_, a6_⟩, a7_, a8_, a9_⟩ := a
  have row_ : ck_lk gT 1015 = some (0, 13, 13, [(3, 1014, 0, 0), (3, 1012, 0, 0), (1, 0, -2147483648, 2147483647), (1, 0, -2147483648, 2147483647), (1, 0, -2147483648, 2147483647), (3, 1007, 0, 0), (3, 1007, 0, 0), (3, 1007, 0, 0), (3, 1008, 0, 0), (3, 1013, 0, 0), (3, 1010, 0, 0), (3, 1011, 0, 0), (3, 1001, 0, 0)]) := rfl
  obtain ⟨w1_, k1_⟩ := zt_ref e hT (j := 0) (q2 := x + 1) (t' := 1014) hk a1_ rfl (by decide) rfl (by omega) row_ rfl (by decide +kernel)
  obtain ⟨w2_, k2_⟩ := zt_ref e hT (j := 1) (q2 := x + 18) (t' := 1012) hk a1_ rfl (by decide) rfl (by omega) row_ rfl (by decide +kernel)
  have k3_ := zt_ref e hT (j := 5) (q2 := x + 224) (t' := 1007) hk a1_ rfl (by decide) rfl (by omega) row_ rfl (by decide +kernel)
  have k4_ := zt_ref e hT (j := 6) (q2 := x + 226) (t' := 1007) hk a1_ rfl (by decide) rfl (by omega) row_ rfl (by decide +kernel)
  have k5_ := zt_ref e hT (j := 11) (q2 := r 4) (t' := 1011) hk a1_ rfl (by decide) rfl (by omega) row_ rfl (by decide +kernel)
  refine ⟨fun p hp1 hp2 => ?_, k3_, k4_, k5_⟩
  by_cases c0_ : p < x + 1
  · obtain rfl : p = x := by omega
    exact zt_mk hk a1_ rfl rfl
  · by_cases c1_ : p < x + 18
    · exact zt_s e hT a2_ (by omega) k1_ p (by omega) (by omega)
    · exact zt_p e hT a4_ (by omega) k2_ p (by omega) (by omega)
/-- what only asks leaves the class as it is -/
theorem zc_x.ask (e : zb_ti G h h2) (hT : ck_HT X gT K (am_g G h)) (hTk : ck_HT X gT K (am_g G kk)) (kp : ck_Kp M [] (am_g G h) (am_g G kk)) (hM : (M.all fun m => !(zt_C m.1)) = true) (hM0 : ck_inM M 1007 0 = false) {x : Nat} {r : Nat → Nat} {j m k : Int} {c : sp_S} {R : Nat → sp_S} {old cnt : Nat} (a : zc_x G h2 x r j m k c R old cnt) {vs : List Value} (hk : am_g G h x = some (1015, vs)) : zc_x G (zb_as h h2 kk) x r j m k c R old cnt := by
  obtain ⟨z1_, ⟨_, z2_⟩, ⟨_, z3_⟩, vj_, z4_⟩ := zt_x e hT a hk
  have f_ : ∀ p, x ≤ p → p < x + 224 → am_g G (zb_as h h2 kk) p = am_g G h2 p := fun p h1 h2 => (z1_ p h1 h2).as (zb_as.sh hM kp)
  obtain ⟨a1_, a2_, a3_, a4_, ⟨a5_, a6_⟩, ⟨y1_, y2_, y3_, a7_⟩, a8_, a9_⟩ := a
  refine ⟨(f_ x (by omega) (by omega)).trans a1_, a2_.sm fun p h1 h2 => f_ p (by omega) (by omega), a3_, a4_.sm fun p h1 h2 => f_ p (by omega) (by omega), ⟨zt_w e hT hTk kp hM0 a5_ (by omega) z2_, zt_w e hT hTk kp hM0 a6_ (by omega) z3_⟩, ?_, a8_, a9_⟩
  obtain ⟨vq_, b1_, -⟩ := zt_kp kp z4_
  have row_ : ck_lk gT 1011 = some (0, 3, 3, [(1, 0, 0, 1), (2, 0, -9223372036854775808, 9223372036854775807), (2, 0, -9223372036854775808, 9223372036854775807)]) := rfl
  obtain ⟨⟨l1_, l2_⟩, -⟩ := (hTk.2 (r 4) 1011 vq_ b1_).1 _ row_
  have l3_ : vq_.length = 3 := by
    have a_ : (3 : Int) ≤ (vq_.length : Int) := l1_
    have b_ : (vq_.length : Int) ≤ 3 := l2_
    omega
  obtain ⟨u_, v_, w_, e3_⟩ := zt_l3 l3_
  subst e3_
  have tu_ : ∃ t : Int32, u_ = .int t ∧ 0 ≤ t.toInt ∧ t.toInt ≤ 1 := zt_ty hTk (j := 0) b1_ rfl row_ rfl
  have tv_ : ∃ t : Int64, v_ = .long t ∧ -9223372036854775808 ≤ t.toInt ∧ t.toInt ≤ 9223372036854775807 := zt_ty hTk (j := 1) b1_ rfl row_ rfl
  have tw_ : ∃ t : Int64, w_ = .long t ∧ -9223372036854775808 ≤ t.toInt ∧ t.toInt ≤ 9223372036854775807 := zt_ty hTk (j := 2) b1_ rfl row_ rfl
  obtain ⟨t1_, t2_, -⟩ := tu_
  obtain ⟨t3_, t4_, -⟩ := tv_
  obtain ⟨t5_, t6_, -⟩ := tw_
  rw [t2_, t4_, t6_] at b1_
  rcases zb_as.cs (h := h) b1_ a7_ with g1_ | g1_
  · exact ⟨_, _, _, g1_⟩
  · exact ⟨_, _, _, g1_⟩
end ZTA
end
section
/-! WHAT THE TYPES TELL OF THE REFERENCE'S CELLS; A THIRD PICTURE SHOWS THEM -/
def zt_M (t : Nat) : Bool := [1018, 1055, 1017, 42150, 41006, 41106, 41206, 40056, 40156, 40256, 2550, 41002].any fun k => Nat.beq k t
def zt_le (S : Nat → Bool) : Prop := ∀ t, zt_M t = true → S t = true
section ZTM
variable {K : Int32} {G : am_G} {h h2 mm : List am_C} {X : ck_XT} {S : Nat → Bool}
theorem zt_cst {p : Nat} (hp : p < 1000) : am_g G mm p = am_g G h2 p := by
  unfold am_g
  rw [if_pos hp, if_pos hp]
/-- a place of a row that may be null -/
theorem zt_el (e : zb_ti G h h2) (L : zb_l G h) (hT : ck_HT X gT K (am_g G h)) {p t t2 j v te : Nat} {vs vs2 : List Value} {d : ck_D} {u w : Int} (hg : am_g G h p = some (t, vs)) (hg2 : am_g G h2 p = some (t2, vs2)) (ht2 : t2 % 100 = t % 100) (h62 : t % 100 < 62) (hv : vs2[j]? = some (.ref v)) (hd : ck_lk gT t = some d) (hy : ck_yt d j = some (5, te, u, w)) (hte : te % 100 < 62) : v < 1000 ∨ ∃ ws : List Value, am_g G h v = some (te, ws) := by
  by_cases c_ : v < 1000
  · exact Or.inl c_
  · have c2_ := e.g hg hg2 ht2 h62
    obtain ⟨v_, v1_, v2_⟩ := c2_.val hv
    have y_ : 1000 ≤ te ∧ (v_ = .null ∨ ∃ (q : Nat) (vs : List Value), v_ = .ref q ∧ am_g G h q = some (te, vs)) := zt_ty hT hg v1_ hd hy
    rcases y_.2 with y1_ | ⟨q_, ws_, r1_, r2_⟩
    · rw [y1_] at v2_
      cases v2_
    · rw [r1_] at v2_
      have a_ : am_ad G v = am_ad G q_ := Value.ref.inj v2_
      by_cases cq_ : q_ < 1000
      · exact absurd a_.symm (L.ne cq_ r2_ hte (by omega))
      · have z_ := zt_adi (by omega) (by omega) a_
        exact Or.inr ⟨ws_, by rw [z_]; exact r2_⟩
/-- a place that holds a reference -/
theorem zt_el3 (e : zb_ti G h h2) (L : zb_l G h) (hT : ck_HT X gT K (am_g G h)) {p t t2 j v te : Nat} {vs vs2 : List Value} {d : ck_D} {u w : Int} (hg : am_g G h p = some (t, vs)) (hg2 : am_g G h2 p = some (t2, vs2)) (ht2 : t2 % 100 = t % 100) (h62 : t % 100 < 62) (hv : vs2[j]? = some (.ref v)) (hd : ck_lk gT t = some d) (hy : ck_yt d j = some (3, te, u, w)) (hw : ck_wr gT te = true) {tv : Nat} {ev : List Value} (hc : am_g G h2 v = some (tv, ev)) (hcv : tv % 100 < 62) : 1000 ≤ v ∧ ∃ ws : List Value, am_g G h v = some (te, ws) := by
  have c2_ := e.g hg hg2 ht2 h62
  obtain ⟨v_, v1_, v2_⟩ := c2_.val hv
  have y_ : 1000 ≤ te ∧ ∃ (q : Nat) (vs : List Value), v_ = .ref q ∧ am_g G h q = some (te, vs) := zt_ty hT hg v1_ hd hy
  obtain ⟨-, q_, ws_, r1_, r2_⟩ := y_
  rw [r1_] at v2_
  have a_ : am_ad G v = am_ad G q_ := Value.ref.inj v2_
  have q0_ := (hT.2 q_ te ws_ r2_).2.2 hw
  by_cases c_ : v < 1000
  · exact absurd a_ (L.ne (c := (tv, ev)) c_ ((zt_cst c_).trans hc) hcv q0_)
  · have z_ := zt_adi (by omega) q0_ a_
    exact ⟨by omega, ws_, by rw [z_]; exact r2_⟩
theorem zt_zr (f : zb_sh G S h h2 mm) (hS : zt_le S) {v : Nat} {r : Int × Int} (a : zm_r G h2 v r) (hk : v < 1000 ∨ ∃ ws : List Value, am_g G h v = some (2550, ws)) : zm_r G mm v r := by
  obtain ⟨t_, a1_, a2_⟩ := a
  rcases hk with c_ | ⟨ws_, k_⟩
  · exact ⟨t_, (zt_cst c_).trans a1_, a2_⟩
  · exact ⟨t_, f _ _ _ k_ a1_ (show t_ % 100 = 2550 % 100 by omega) (hS _ rfl), a2_⟩
theorem zt_zi (f : zb_sh G S h h2 mm) (hS : zt_le S) {v : Nat} {b : Int} (a : zm_i G h2 v b) (hk : v < 1000 ∨ ∃ ws : List Value, am_g G h v = some (41002, ws)) : zm_i G mm v b := by
  obtain ⟨t_, a1_, a2_⟩ := a
  rcases hk with c_ | ⟨ws_, k_⟩
  · exact ⟨t_, (zt_cst c_).trans a1_, a2_⟩
  · exact ⟨t_, f _ _ _ k_ a1_ (show t_ % 100 = 41002 % 100 by omega) (hS _ rfl), a2_⟩
theorem zt_zn (e : zb_ti G h h2) (L : zb_l G h) (hT : ck_HT X gT K (am_g G h)) (f : zb_sh G S h h2 mm) (hS : zt_le S) {v : Nat} {z : Int} (a : zn_N G h2 v z) {ws : List Value} (hk : am_g G h v = some (1017, ws)) : zn_N G mm v z := by
  obtain ⟨t_, d_, td_, b_, ds_, a1_, a2_, a3_, a4_, a5_⟩ := a
  obtain ⟨_, _, k_⟩ := zt_el3 e L hT (j := 1) (te := 42150) hk a1_ (show t_ % 100 = 1017 % 100 by omega) (by decide) rfl (rfl : ck_lk gT 1017 = some (0, 2, 2, [(1, 0, 0, 1), (3, 42150, 0, 0)])) rfl (by decide +kernel) a3_ (by omega)
  exact ⟨t_, d_, td_, b_, ds_, f _ _ _ hk a1_ (show t_ % 100 = 1017 % 100 by omega) (hS _ rfl), a2_, f _ _ _ k_ a3_ (show td_ % 100 = 42150 % 100 by omega) (hS _ rfl), a4_, a5_⟩
/-- a list of one of the three families -/
theorem zt_zl (e : zb_ti G h h2) (L : zb_l G h) (hT : ck_HT li_X gT K (am_g G h)) (f : zb_sh G S h h2 mm) (hS : zt_le S) {F : li_F} (hF : F ∈ li_Fs) {te : Nat} {u w lo hi : Int} (hd : ck_lk gT F.2.1 = some (1, lo, hi, [(5, te, u, w)])) (hte : te % 100 < 62) {o : Nat → Nat} {q lab : Nat} {vs : List Nat} (a : zm_l G h2 o q lab vs) {ws : List Value} (hk : am_g G h q = some (F.1, ws)) : zm_l G mm o q lab vs ∧ ∀ (i v : Nat), vs[i]? = some v → v < 1000 ∨ ∃ ws : List Value, am_g G h v = some (te, ws) := by
  have fk_ : F.1 % 100 = 6 ∧ F.2.1 % 100 = 56 ∧ zt_M F.1 = true ∧ zt_M F.2.1 = true := by
    have all_ : ∀ F ∈ li_Fs, F.1 % 100 = 6 ∧ F.2.1 % 100 = 56 ∧ zt_M F.1 = true ∧ zt_M F.2.1 = true := by decide
    exact all_ F hF
  obtain ⟨k1_, k2_, k3_, k4_⟩ := fk_
  obtain ⟨p_, N_, t_, tr_, mo_, a1_, a2_, a3_, a4_, ⟨a5_, a6_⟩, a7_, a8_⟩ := a
  have own_ := f _ _ _ hk a1_ (show t_ % 100 = F.1 % 100 by omega) (hS _ k3_)
  by_cases c_ : p_ < 1000
  · have n0_ : N_ = 0 := by omega
    refine ⟨⟨p_, N_, t_, tr_, mo_, own_, a2_, (zt_cst c_).trans a3_, a4_, ⟨a5_, a6_⟩, a7_, a8_⟩, fun i v hv => ?_⟩
    have l_ := (List.getElem?_eq_some_iff.mp hv).1
    omega
  · have c2_ := e.g hk a1_ (show t_ % 100 = F.1 % 100 by omega) (show F.1 % 100 < 62 by omega)
    obtain ⟨mc_, n_, r_, l1_, -, l3_⟩ := hT.1.2.1 F hF q ws hk
    have r1_ : am_ad G p_ = am_ad G r_ := by
      have z_ := c2_.2.2 1 (.ref r_) (.ref p_) (by rw [l1_]; rfl) rfl
      exact Value.ref.inj z_
    have kp_ : ∃ wr : List Value, am_g G h p_ = some (F.2.1, wr) := by
      rcases l3_ with ⟨y1_, -⟩ | ⟨wr_, y1_, -⟩
      · by_cases cr_ : r_ < 1000
        · exact absurd r1_.symm (L.ne cr_ y1_ (by decide) (by omega))
        · have z_ := zt_adi (by omega) (by omega) r1_
          rw [← z_] at y1_
          have zc_ := e.g y1_ a3_ (show tr_ % 100 = 43056 % 100 by omega) (by decide)
          have zl_ : (zl_ws N_ vs).length = 0 := zc_.2.1
          rw [zl_ws_len] at zl_
          omega
      · by_cases cr_ : r_ < 1000
        · exact absurd r1_.symm (L.ne cr_ y1_ (show F.2.1 % 100 < 62 by omega) (by omega))
        · have z_ := zt_adi (by omega) (by omega) r1_
          rw [← z_] at y1_
          exact ⟨wr_, y1_⟩
    obtain ⟨wr_, kr_⟩ := kp_
    refine ⟨⟨p_, N_, t_, tr_, mo_, own_, a2_, f _ _ _ kr_ a3_ (show tr_ % 100 = F.2.1 % 100 by omega) (hS _ k4_), a4_, ⟨a5_, a6_⟩, a7_, a8_⟩, fun i v hv => ?_⟩
    exact zt_el e L hT (j := i) kr_ a3_ (by omega) (by omega) (zl_ws_get hv a5_) hd rfl hte
theorem zt_zs (e : zb_ti G h h2) (L : zb_l G h) (hT : ck_HT li_X gT K (am_g G h)) (f : zb_sh G S h h2 mm) (hS : zt_le S) {o : Nat → Nat} {s : Nat} {c : sp_S} (a : zm_s G h2 o s c) {ws : List Value} (hk : am_g G h s = some (1018, ws)) : zm_s G mm o s c := by
  obtain ⟨t_, qn_, tn_, ql_, qb_, vn_, vl_, vb_, a1_, a2_, ⟨b1_, b2_, b3_, b4_⟩, ⟨c1_, c2_⟩, ⟨d1_, d2_⟩, ⟨e1_, e2_⟩, ⟨f1_, f2_⟩⟩ := a
  have row_ : ck_lk gT 1018 = some (0, 4, 4, [(1, 0, -9, 400), (3, 1055, 0, 0), (3, 41006, 0, 0), (3, 41106, 0, 0)]) := rfl
  have tt_ : t_ % 100 = 1018 % 100 := by omega
  have hl_ : 1000 ≤ ql_ := by
    obtain ⟨_, _, _, _, _, -, -, -, -, ⟨-, z_⟩, -⟩ := c1_
    exact z_
  have hb_ : 1000 ≤ qb_ := by
    obtain ⟨_, _, _, _, _, -, -, -, -, ⟨-, z_⟩, -⟩ := c2_
    exact z_
  obtain ⟨wn_, kn_⟩ := zt_ref e hT (j := 1) (q2 := qn_) (t' := 1055) hk a1_ tt_ (by decide) rfl b3_ row_ rfl (by decide +kernel)
  obtain ⟨wl_, kl_⟩ := zt_ref e hT (j := 2) (q2 := ql_) (t' := 41006) hk a1_ tt_ (by decide) rfl hl_ row_ rfl (by decide +kernel)
  obtain ⟨wb_, kb_⟩ := zt_ref e hT (j := 3) (q2 := qb_) (t' := 41106) hk a1_ tt_ (by decide) rfl hb_ row_ rfl (by decide +kernel)
  have tn2_ : tn_ % 100 = 1055 % 100 := by omega
  obtain ⟨g1_, g2_⟩ := zt_zl e L hT f hS (F := li_fr) (by decide) (te := 2550) (rfl : ck_lk gT 40056 = some (1, 10, 24, [(5, 2550, 0, 0)])) (by decide) c1_ kl_
  obtain ⟨g3_, g4_⟩ := zt_zl e L hT f hS (F := li_fb) (by decide) (te := 41002) (rfl : ck_lk gT 40156 = some (1, 10, 24, [(5, 41002, 0, 0)])) (by decide) c2_ kb_
  refine ⟨t_, qn_, tn_, ql_, qb_, vn_, vl_, vb_, f _ _ _ hk a1_ tt_ (hS _ rfl), a2_, ⟨f _ _ _ kn_ b1_ tn2_ (hS _ rfl), b2_, b3_, b4_⟩, ⟨g1_, g3_⟩, ⟨d1_, fun i v z h1 h2 => ?_⟩, ⟨e1_, fun i v r h1 h2 => zt_zr f hS (e2_ i v r h1 h2) (g2_ i v h1)⟩, ⟨f1_, fun i v b h1 h2 => zt_zi f hS (f2_ i v b h1 h2) (g4_ i v h1)⟩⟩
  have n_ := d2_ i v z h1 h2
  obtain ⟨tv_, dv_, td_, bv_, ds_, x1_, x2_, -⟩ := id n_
  obtain ⟨_, wv_, kv_⟩ := zt_el3 e L hT (j := i) (te := 1017) kn_ b1_ tn2_ (by decide) (zm_nv h1) (rfl : ck_lk gT 1055 = some (1, 6, 6, [(3, 1017, 0, 0)])) rfl (by decide +kernel) x1_ (by omega)
  exact zt_zn e L hT f hS n_ kv_
/-- the reference, its own cell aside -/
theorem zt_zx (e : zb_ti G h h2) (L : zb_l G h) (hT : ck_HT li_X gT K (am_g G h)) (f : zb_sh G S h h2 mm) (hS : zt_le S) {o : Nat → Nat} {x tx now qw : Nat} {th j m k : Int} {c : sp_S} {P : List sp_S} (a : zm_x G h2 o x tx now qw th j m k c P) {ws : List Value} (hk : am_g G h x = some (1019, ws)) : zm_s G mm o now c ∧ zm_W G mm o qw now P := by
  have n0_ := a.lt
  obtain ⟨a1_, a2_, hs_, ss_, l1_, l2_, l3_, l4_, l5_⟩ := a
  have row_ : ck_lk gT 1019 = some (0, 6, 6, [(1, 0, 0, 3), (3, 1018, 0, 0), (3, 41206, 0, 0), (1, 0, -2147483648, 2147483647), (1, 0, -2147483648, 2147483647), (1, 0, -2147483648, 2147483647)]) := rfl
  have tt_ : tx % 100 = 1019 % 100 := by omega
  have hw_ : 1000 ≤ qw := by
    obtain ⟨_, _, _, _, _, -, -, -, -, ⟨-, z_⟩, -⟩ := l1_
    exact z_
  obtain ⟨wn_, kn_⟩ := zt_ref e hT (j := 1) (q2 := now) (t' := 1018) hk a1_ tt_ (by decide) rfl n0_ row_ rfl (by decide +kernel)
  obtain ⟨wl_, kl_⟩ := zt_ref e hT (j := 2) (q2 := qw) (t' := 41206) hk a1_ tt_ (by decide) rfl hw_ row_ rfl (by decide +kernel)
  obtain ⟨g1_, g2_⟩ := zt_zl e L hT f hS (F := li_fs) (by decide) (te := 1018) (rfl : ck_lk gT 40256 = some (1, 10, 24, [(5, 1018, 0, 0)])) (by decide) l1_ kl_
  refine ⟨zt_zs e L hT f hS hs_ kn_, ss_, g1_, l2_, fun i s p h1 h2 => ?_, l4_, l5_⟩
  have z_ := l3_ i s p h1 h2
  have s0_ : 1000 ≤ s := by
    obtain ⟨_, _, _, _, _, _, _, _, -, ⟨-, y_⟩, -⟩ := z_
    exact y_
  rcases g2_ i s h1 with y_ | ⟨wv_, kv_⟩
  · omega
  · exact zt_zs e L hT f hS z_ kv_
end ZTM
end
section
/-! WHAT A CALL OF ONE SIDE LEAVES OF THE OTHER -/
def zt_B (t : Nat) : Bool := [1015, 1014, 1012, 1053, 1054, 1150, 1250, 1350, 1407, 1450, 1007, 1050, 1011].any fun k => Nat.beq k t
def zt_N (t : Nat) : Bool := [1019, 1018, 1055, 1017, 42150, 41006, 41106, 41206, 40056, 40156, 40256, 2550, 41002].any fun k => Nat.beq k t
theorem zt_any {l : List Nat} {t : Nat} (h : (l.any fun k => Nat.beq k t) = true) : t ∈ l := by
  obtain ⟨k_, k1_, k2_⟩ := List.any_eq_true.mp h
  rw [← ck_beq k2_]
  exact k1_
theorem zt_mem {l : List Nat} {t : Nat} (h : t ∈ l) : (l.any fun k => Nat.beq k t) = true := List.any_eq_true.mpr ⟨t, h, Nat.beq_refl t⟩
theorem zt_BN {t : Nat} (h1 : zt_B t = true) (h2 : zt_N t = true) : False := by
  have d_ : ∀ a ∈ [1015, 1014, 1012, 1053, 1054, 1150, 1250, 1350, 1407, 1450, 1007, 1050, 1011], ∀ b ∈ [1019, 1018, 1055, 1017, 42150, 41006, 41106, 41206, 40056, 40156, 40256, 2550, 41002], a ≠ b := by decide
  exact d_ t (zt_any h1) t (zt_any h2) rfl
theorem zt_CB {t : Nat} (h : zt_C t = true) : zt_B t = true := by
  have d_ : ∀ a ∈ [1015, 1014, 1012, 1053, 1054, 1150, 1250, 1350, 1407, 1450], a ∈ [1015, 1014, 1012, 1053, 1054, 1150, 1250, 1350, 1407, 1450, 1007, 1050, 1011] := by decide
  exact zt_mem (d_ t (zt_any h))
theorem zt_MN {t : Nat} (h : zt_M t = true) : zt_N t = true := by
  have d_ : ∀ a ∈ [1018, 1055, 1017, 42150, 41006, 41106, 41206, 40056, 40156, 40256, 2550, 41002], a ∈ [1019, 1018, 1055, 1017, 42150, 41006, 41106, 41206, 40056, 40156, 40256, 2550, 41002] := by decide
  exact zt_mem (d_ t (zt_any h))
/-- kinds that a call of the reference leaves alone -/
theorem zt_Bm {t : Nat} (h : zt_B t = true) : t % 100 ≠ 19 ∧ t % 100 ≠ 18 ∧ t % 100 ≠ 55 ∧ t % 100 ≠ 6 ∧ t % 100 ≠ 56 := by
  have d_ : ∀ a ∈ [1015, 1014, 1012, 1053, 1054, 1150, 1250, 1350, 1407, 1450, 1007, 1050, 1011], a % 100 ≠ 19 ∧ a % 100 ≠ 18 ∧ a % 100 ≠ 55 ∧ a % 100 ≠ 6 ∧ a % 100 ≠ 56 := by decide
  exact d_ t (zt_any h)
section ZTF
variable {K : Int32} {G : am_G} {h h2 mm k2 : List am_C} {X : ck_XT} {S : Nat → Bool} {x : Nat} {r : Nat → Nat} {jj mi kn : Int} {c : sp_S} {R : Nat → sp_S} {old cnt : Nat}
theorem zt_k.B {p : Nat} (z : zt_k G zt_C h h2 p) : zt_k G zt_B h h2 p := by
  obtain ⟨c_, d_, a1_, a2_, a3_, a4_⟩ := z
  exact ⟨c_, d_, a1_, a2_, a3_, zt_CB a4_⟩
theorem zt_wB (e : zb_ti G h h2) (hT : ck_HT X gT K (am_g G h)) {q : Nat} (hw : zc_w G h2 q) (h0 : 1000 ≤ q) {vs : List Value} (hk : am_g G h q = some (1007, vs)) : zt_k G zt_B h h2 q ∧ zt_k G zt_B h h2 (q + 1) := by
  obtain ⟨n_, sg_, ls_, a1_, a2_, a3_, a4_⟩ := hw
  obtain ⟨w1_, k1_⟩ := zt_ref e hT (j := 0) (q2 := q + 1) (t' := 1050) hk a1_ rfl (by decide) rfl (by omega) (rfl : ck_lk gT 1007 = some (0, 3, 3, [(3, 1050, 0, 0), (1, 0, 0, 10), (1, 0, -2147483648, 2147483647)])) rfl (by decide +kernel)
  exact ⟨zt_mk hk a1_ rfl rfl, zt_mk k1_ a2_ rfl rfl⟩
/-- all cells of the class -/
theorem zt_all (e : zb_ti G h h2) (hT : ck_HT X gT K (am_g G h)) (a : zc_x G h2 x r jj mi kn c R old cnt) {vs : List Value} (hk : am_g G h x = some (1015, vs)) : (∀ p, x ≤ p → p < x + 228 → zt_k G zt_B h h2 p) ∧ zt_k G zt_B h h2 (r 4) := by
  obtain ⟨z1_, ⟨_, z2_⟩, ⟨_, z3_⟩, vj_, z4_⟩ := zt_x e hT a hk
  obtain ⟨a1_, a2_, a3_, a4_, ⟨a5_, a6_⟩, ⟨y1_, y2_, y3_, a7_⟩, a8_, a9_⟩ := a
  have b1_ := zt_wB e hT a5_ (by omega) z2_
  have b2_ := zt_wB e hT a6_ (by omega) z3_
  refine ⟨fun p hp1 hp2 => ?_, zt_mk z4_ a7_ rfl rfl⟩
  by_cases c0_ : p < x + 224
  · exact (z1_ p hp1 c0_).B
  · rcases (by omega : p = x + 224 ∨ p = x + 224 + 1 ∨ p = x + 226 ∨ p = x + 226 + 1) with y_ | y_ | y_ | y_ <;> rw [y_]
    · exact b1_.1
    · exact b1_.2
    · exact b2_.1
    · exact b2_.2
theorem zc_w.sm {h' : List am_C} {q : Nat} (a : zc_w G h2 q) (f1 : am_g G h' q = am_g G h2 q) (f2 : am_g G h' (q + 1) = am_g G h2 (q + 1)) : zc_w G h' q := by
  obtain ⟨n_, sg_, ls_, a1_, a2_, a3_, a4_⟩ := a
  exact ⟨n_, sg_, ls_, f1.trans a1_, f2.trans a2_, a3_, a4_⟩
theorem zc_x.sm {h' : List am_C} (a : zc_x G h2 x r jj mi kn c R old cnt) (f : ∀ p, x ≤ p → p < x + 228 → am_g G h' p = am_g G h2 p) (f4 : am_g G h' (r 4) = am_g G h2 (r 4)) : zc_x G h' x r jj mi kn c R old cnt := by
  obtain ⟨a1_, a2_, a3_, a4_, ⟨a5_, a6_⟩, ⟨y1_, y2_, y3_, a7_⟩, a8_, a9_⟩ := a
  exact ⟨(f _ (by omega) (by omega)).trans a1_, a2_.sm fun p h1 h2 => f p (by omega) (by omega), a3_, a4_.sm fun p h1 h2 => f p (by omega) (by omega), ⟨a5_.sm (f _ (by omega) (by omega)) (f _ (by omega) (by omega)), a6_.sm (f _ (by omega) (by omega)) (f _ (by omega) (by omega))⟩, ⟨y1_, y2_, y3_, f4.trans a7_⟩, a8_, a9_⟩
/-- the class in a third picture -/
theorem zc_x.mg (e : zb_ti G h h2) (hT : ck_HT X gT K (am_g G h)) (f : zb_sh G zt_B h h2 mm) (a : zc_x G h2 x r jj mi kn c R old cnt) {vs : List Value} (hk : am_g G h x = some (1015, vs)) : zc_x G mm x r jj mi kn c R old cnt := by
  obtain ⟨z1_, z2_⟩ := zt_all e hT a hk
  exact a.sm (fun p h1 h2 => (z1_ p h1 h2).as f) (z2_.as f)
/-- behind a call of the reference -/
theorem zc_x.rf (e : zb_ti G h h2) (hT : ck_HT X gT K (am_g G h)) (a : zc_x G h2 x r jj mi kn c R old cnt) {vs : List Value} (hk : am_g G h x = some (1015, vs)) (f : zm_fr G h2 k2) : zc_x G k2 x r jj mi kn c R old cnt := by
  refine zc_x.mg (mm := k2) e hT (fun p c d h1 hd ht hS => ?_) a hk
  refine f.2 p d.1 d.2 hd ?_
  rw [ht]
  exact zt_Bm hS
/-- the reference in a third picture, its own cell told -/
theorem zm_x.mg (e : zb_ti G h h2) (L : zb_l G h) (hT : ck_HT li_X gT K (am_g G h)) (f : zb_sh G zt_N h h2 mm) {o : Nat → Nat} {m tx now qw : Nat} {th : Int} {P : List sp_S} (a : zm_x G h2 o m tx now qw th jj mi kn c P) {ws : List Value} (hk : am_g G h m = some (1019, ws)) : zm_x G mm o m tx now qw th jj mi kn c P := by
  obtain ⟨z1_, z2_⟩ := zt_zx e L hT f (fun _ h => zt_MN h) a hk
  obtain ⟨a1_, a2_, -⟩ := a
  exact ⟨f _ _ _ hk a1_ (show tx % 100 = 1019 % 100 by omega) rfl, a2_, z1_, z2_⟩
/-- behind a call of the class -/
theorem zm_x.cl (e : zb_ti G h h2) (L : zb_l G h) (hT : ck_HT li_X gT K (am_g G h)) (a : zc_x G h2 x r jj mi kn c R old cnt) {vs : List Value} (hk : am_g G h x = some (1015, vs)) {out : Nat} {vo : List Value} (hO : am_g G h out = some (1016, vo)) (f : zc_of G h2 k2 x r out) {o : Nat → Nat} {m tx now qw : Nat} {th j2 m2 k3 : Int} {c2 : sp_S} {P : List sp_S} (b : zm_x G h2 o m tx now qw th j2 m2 k3 c2 P) {ws : List Value} (hm : am_g G h m = some (1019, ws)) : zm_x G k2 o m tx now qw th j2 m2 k3 c2 P := by
  obtain ⟨z1_, z2_⟩ := zt_all e hT a hk
  refine zm_x.mg (mm := k2) e L hT (fun p c d h1 hd ht hS => ?_) b hm
  refine f.2 p d hd ?_ (fun y_ => ?_) (fun y_ => ?_)
  · by_cases c_ : x ≤ p ∧ p < x + 228
    · obtain ⟨c9_, d9_, w1_, -, -, w4_⟩ := z1_ p c_.1 c_.2
      rw [h1] at w1_
      cases w1_
      exact (zt_BN w4_ hS).elim
    · omega
  · obtain ⟨c9_, d9_, w1_, -, -, w4_⟩ := z2_
    rw [← y_, h1] at w1_
    cases w1_
    exact zt_BN w4_ hS
  · rw [y_, hO] at h1
    cases h1
    cases hS
end ZTF
end
section
/-! BOTH SIDES AT ONE HEAP -/
def zt_A (t : Nat) : Bool := [1015, 1014, 1012, 1053, 1054, 1150, 1250, 1350, 1407, 1450, 1007, 1050, 1011, 1019, 1018, 1055, 1017, 42150, 41006, 41106, 41206, 40056, 40156, 40256, 2550, 41002].any fun k => Nat.beq k t
theorem zt_A62 (t : Nat) (h : zt_A t = true) : t % 100 < 62 := by
  have d_ : ∀ a ∈ [1015, 1014, 1012, 1053, 1054, 1150, 1250, 1350, 1407, 1450, 1007, 1050, 1011, 1019, 1018, 1055, 1017, 42150, 41006, 41106, 41206, 40056, 40156, 40256, 2550, 41002], a % 100 < 62 := by decide
  exact d_ t (zt_any h)
theorem zt_BA (t : Nat) (h : zt_B t = true) : zt_A t = true := by
  have d_ : ∀ a ∈ [1015, 1014, 1012, 1053, 1054, 1150, 1250, 1350, 1407, 1450, 1007, 1050, 1011], a ∈ [1015, 1014, 1012, 1053, 1054, 1150, 1250, 1350, 1407, 1450, 1007, 1050, 1011, 1019, 1018, 1055, 1017, 42150, 41006, 41106, 41206, 40056, 40156, 40256, 2550, 41002] := by decide
  exact zt_mem (d_ t (zt_any h))
theorem zt_NA (t : Nat) (h : zt_N t = true) : zt_A t = true := by
  have d_ : ∀ a ∈ [1019, 1018, 1055, 1017, 42150, 41006, 41106, 41206, 40056, 40156, 40256, 2550, 41002], a ∈ [1015, 1014, 1012, 1053, 1054, 1150, 1250, 1350, 1407, 1450, 1007, 1050, 1011, 1019, 1018, 1055, 1017, 42150, 41006, 41106, 41206, 40056, 40156, 40256, 2550, 41002] := by decide
  exact zt_mem (d_ t (zt_any h))
theorem zb_sh.le {G : am_G} {S S' : Nat → Bool} {h h2 mm : List am_C} (f : zb_sh G S h h2 mm) (hl : ∀ t, S' t = true → S t = true) : zb_sh G S' h h2 mm := fun p c d h1 hd ht hS => f p c d h1 hd ht (hl _ hS)
/-- where the kind isn't of S the first picture shows -/
theorem zb_mg.ty {G : am_G} {S : Nat → Bool} {k k2 : List am_C} (e : k2.length = k.length) {p : Nat} {c : am_C} (h1 : am_g G k p = some c) (hS : S c.1 = false) : am_g G (zb_mg S k k2) p = some c := by
  unfold am_g at h1 ⊢
  by_cases c_ : p < 1000
  · rw [if_pos c_] at h1 ⊢
    exact h1
  · rw [if_neg c_] at h1 ⊢
    have l_ : p - 1000 < k2.length := by
      have l0_ := (List.getElem?_eq_some_iff.mp h1).1
      omega
    rw [zb_mg.at h1 (List.getElem?_eq_getElem l_)]
    unfold zb_pk
    rw [if_neg (fun z => by rw [hS] at z; cases z.1)]
theorem zt_l2 {vs : List Value} (h : vs.length = 2) : ∃ a b : Value, vs = [a, b] := match vs, h with
  | [a, b], _ => ⟨a, b, rfl⟩
theorem zt_l6 {vs : List Value} (h : vs.length = 6) : ∃ a b c d e f : Value, vs = [a, b, c, d, e, f] := match vs, h with
  | [a, b, c, d, e, f], _ => ⟨a, b, c, d, e, f, rfl⟩
theorem zv_out {X : ck_XT} {K : Int32} {g : ck_g} (hT : ck_HT X gT K g) {q : Nat} {vs : List Value} (hg : g q = some (1016, vs)) : ∃ (n0 : Int64) (s0 : Value), vs = [.long n0, s0] := by
  have row_ : ck_lk gT 1016 = some (0, 2, 2, [(2, 0, -9223372036854775808, 9223372036854775807), (5, 3000, 0, 0)]) := rfl
  obtain ⟨⟨l1_, l2_⟩, -⟩ := (hT.2 q 1016 vs hg).1 _ row_
  have l3_ : vs.length = 2 := by
    have a_ : (2 : Int) ≤ (vs.length : Int) := l1_
    have b_ : (vs.length : Int) ≤ 2 := l2_
    omega
  obtain ⟨u_, v_, e3_⟩ := zt_l2 l3_
  subst e3_
  have tu_ : ∃ t : Int64, u_ = .long t ∧ -9223372036854775808 ≤ t.toInt ∧ t.toInt ≤ 9223372036854775807 := zt_ty hT (j := 0) hg rfl row_ rfl
  obtain ⟨t_, t1_, -⟩ := tu_
  exact ⟨t_, v_, by rw [t1_]⟩
theorem zv_oi {G : am_G} {o : am_O} {i : Int32} (h : zb_o G o (.inl (some (.int i)))) : o = .inl (some (.int i)) := by
  cases o with
  | inl v =>
    have h_ : v.map (am_rv G) = some (.int i) := h
    cases v with
    | none => cases h_
    | some w =>
      have w_ : am_rv G w = am_rv G (.int i) := Option.some.inj h_
      rw [zb_rvi w_]
  | inr z => exact h.elim
def zv_s (G : am_G) (K : Int32) (h : List am_C) (x m out : Nat) (r : Nat → Nat) (T Tm : sp_T) : Prop :=
  ck_HT li_X gT K (am_g G h) ∧ zb_l G h ∧ ((∃ v, am_g G h x = some (1015, v)) ∧ (∃ v, am_g G h m = some (1019, v)) ∧ ∃ v, am_g G h out = some (1016, v)) ∧ (1000 ≤ out ∧ sp_ok Tm.1 ∧ Tm.2.1.length ≤ 12) ∧
  ∃ h2 : List am_C, zb_eq G h h2 ∧ zc_Y G h2 x r T ∧ (∃ th : Int, zm_Y G h2 m th Tm) ∧ ∃ (n0 : Int64) (s0 : Value), am_g G h2 out = some (1016, [.long n0, s0])
section ZVS
variable {l : Launch} {G : am_G} {K : Int32} {y : MethodName} {cw : Cond} {fr lo mc ms : Nat} {a : List Value} {h : List am_C} {x m out : Nat} {r : Nat → Nat} {T Tm : sp_T} {P1 : am_O → List am_C → Prop} {D : Int → Int → sp_T → Prop}
theorem zv_s.ok (I : zv_s G K h x m out r T Tm) : sp_ok T.1 ∧ T.2.1.length ≤ 12 := by
  obtain ⟨-, -, -, -, h2_, -, ⟨R_, old_, cnt_, xx_, xl_⟩, -⟩ := I
  obtain ⟨-, -, b1_, ⟨-, -, -, -, b2_⟩, -⟩ := xx_
  exact ⟨b1_, by rw [xl_, zc_l_len]; exact b2_⟩
/-- a changing call of the class -/
theorem zv_class (I : zv_s G K h x m out r T Tm) (t1 : am_M l G y cw fr lo mc ms a h P1) (hP1 : ∀ o k, P1 o k → ck_HT li_X gT K (am_g G k) ∧ ∃ M, ck_Kp M [] (am_g G h) (am_g G k))
    (t2 : ∀ (h2 : List am_C) (R : Nat → sp_S) (old cnt : Nat) (n0 : Int64) (s0 : Value), zc_x G h2 x r T.2.2.1 T.2.2.2.1 T.2.2.2.2 T.1 R old cnt → T.2.1 = zc_l R old cnt → am_g G h2 out = some (1016, [.long n0, s0]) → (out < x ∨ x + 228 ≤ out) → out ≠ r 4 → 1000 ≤ out → am_M l G y cw fr lo mc ms a h2 (fun o k2 => ∃ (v th : Int) (T' : sp_T), D v th T' ∧ zc_of G h2 k2 x r out ∧ zc_Y G k2 x r T' ∧ (th = 0 → am_g G k2 out = some (1016, [.long (Int64.ofInt v), s0])) ∧ o = .inl (some (.int (Int32.ofInt th))))) :
    am_M l G y cw fr lo mc ms a h (fun o k => P1 o k ∧ ∃ (v th : Int) (T' : sp_T), D v th T' ∧ zv_s G K k x m out r T' Tm ∧ o = .inl (some (.int (Int32.ofInt th))) ∧ (th = 0 → ∃ s0 : Value, am_g G k out = some (1016, [.long (Int64.ofInt v), s0]))) := by
  obtain ⟨hT_, L_, ⟨⟨vx_, kx_⟩, ⟨vm_, km_⟩, ⟨vo_, ko_⟩⟩, ⟨o0_, ok_, l12_⟩, h2_, e_, ⟨R_, old_, cnt_, xx_, xl_⟩, ⟨th_, ow_, tx_, now_, qw_, mm_⟩, n0_, s0_, g0_⟩ := I
  have all_ := zt_all e_.ti hT_ xx_ kx_
  have ho1_ : out < x ∨ x + 228 ≤ out := by
    by_cases c_ : x ≤ out ∧ out < x + 228
    · obtain ⟨c9_, d9_, w1_, -, -, w4_⟩ := all_.1 out c_.1 c_.2
      rw [ko_] at w1_
      cases w1_
      cases w4_
    · omega
  have ho2_ : out ≠ r 4 := fun y_ => by
    obtain ⟨c9_, d9_, w1_, -, -, w4_⟩ := all_.2
    rw [← y_, ko_] at w1_
    cases w1_
    cases w4_
  refine (zb_join e_ t1 (t2 h2_ R_ old_ cnt_ n0_ s0_ xx_ xl_ g0_ ho1_ ho2_ o0_)).mono fun o k hq => ?_
  obtain ⟨p1_, o2_, k2_, ⟨a_, th2_, T2_, d_, of_, ⟨R2_, old2_, cnt2_, xx2_, xl2_⟩, th0_, eo_⟩, zo_, er_⟩ := hq
  obtain ⟨hTk_, M_, kp_⟩ := hP1 o k p1_
  obtain ⟨vx2_, kx2_, -⟩ := zt_kp kp_ kx_
  obtain ⟨vm2_, km2_, -⟩ := zt_kp kp_ km_
  obtain ⟨vo2_, ko2_, -⟩ := zt_kp kp_ ko_
  obtain ⟨n2_, s2_, e2_⟩ := zv_out hTk_ ko2_
  rw [e2_] at ko2_
  have mk2_ := zm_x.cl e_.ti L_ hT_ xx_ kx_ ko_ of_ mm_ km_
  have sh_ : zb_sh G zt_A k k2_ (zb_mg zt_A k k2_) := zb_mg.sh
  refine ⟨p1_, a_, th2_, T2_, d_, ⟨hTk_, er_.l, ⟨⟨_, kx2_⟩, ⟨_, km2_⟩, ⟨_, ko2_⟩⟩, ⟨o0_, ok_, l12_⟩, zb_mg zt_A k k2_, zb_mg.eq er_ zt_A62, ⟨R2_, old2_, cnt2_, xx2_.mg er_.ti hTk_ (sh_.le zt_BA) kx2_, xl2_⟩, ⟨th_, ow_, tx_, now_, qw_, mk2_.mg er_.ti er_.l hTk_ (sh_.le zt_NA) km2_⟩, n2_, s2_, zb_mg.ty er_.len ko2_ rfl⟩, ?_, fun hz => ?_⟩
  · rw [eo_] at zo_
    exact zv_oi zo_
  · have z_ := (er_.cell o0_ ko2_ (th0_ hz) rfl (by decide)).2 0 _ _ rfl rfl
    have z2_ := zb_rvl (show am_rv G (.long n2_) = am_rv G (.long (Int64.ofInt a_)) from z_.symm)
    have z3_ : n2_ = Int64.ofInt a_ := Value.long.inj z2_
    exact ⟨s2_, by rw [← z3_]; exact ko2_⟩
/-- a changing call of the reference -/
theorem zv_ref (I : zv_s G K h x m out r T Tm) (t1 : am_M l G y cw fr lo mc ms a h P1) (hP1 : ∀ o k, P1 o k → ck_HT li_X gT K (am_g G k) ∧ ∃ M, ck_Kp M [] (am_g G h) (am_g G k))
    (t2 : ∀ (h2 : List am_C) (o : Nat → Nat) (tx now qw : Nat) (th : Int), zm_x G h2 o m tx now qw th Tm.2.2.1 Tm.2.2.2.1 Tm.2.2.2.2 Tm.1 Tm.2.1 → sp_ok Tm.1 → Tm.2.1.length ≤ 12 → am_M l G y cw fr lo mc ms a h2 (fun o k2 => ∃ (v th : Int) (T' : sp_T), D v th T' ∧ zm_fr G h2 k2 ∧ zm_Y G k2 m th T' ∧ o = .inl (some (.int (Int32.ofInt v))))) :
    am_M l G y cw fr lo mc ms a h (fun o k => P1 o k ∧ ∃ (v th : Int) (T' : sp_T), D v th T' ∧ o = .inl (some (.int (Int32.ofInt v))) ∧ (sp_ok T'.1 ∧ T'.2.1.length ≤ 12 → zv_s G K k x m out r T T')) := by
  obtain ⟨hT_, L_, ⟨⟨vx_, kx_⟩, ⟨vm_, km_⟩, ⟨vo_, ko_⟩⟩, ⟨o0_, ok_, l12_⟩, h2_, e_, ⟨R_, old_, cnt_, xx_, xl_⟩, ⟨th_, ow_, tx_, now_, qw_, mm_⟩, n0_, s0_, g0_⟩ := I
  refine (zb_join e_ t1 (t2 h2_ ow_ tx_ now_ qw_ th_ mm_ ok_ l12_)).mono fun o k hq => ?_
  obtain ⟨p1_, o2_, k2_, ⟨a_, th2_, T2_, d_, fr_, ⟨ow2_, tx2_, now2_, qw2_, mm2_⟩, eo_⟩, zo_, er_⟩ := hq
  obtain ⟨hTk_, M_, kp_⟩ := hP1 o k p1_
  obtain ⟨vx2_, kx2_, -⟩ := zt_kp kp_ kx_
  obtain ⟨vm2_, km2_, -⟩ := zt_kp kp_ km_
  obtain ⟨vo2_, ko2_, -⟩ := zt_kp kp_ ko_
  obtain ⟨n2_, s2_, e2_⟩ := zv_out hTk_ ko2_
  rw [e2_] at ko2_
  have xk2_ := xx_.rf e_.ti hT_ kx_ fr_
  have sh_ : zb_sh G zt_A k k2_ (zb_mg zt_A k k2_) := zb_mg.sh
  refine ⟨p1_, a_, th2_, T2_, d_, ?_, fun hok => ⟨hTk_, er_.l, ⟨⟨_, kx2_⟩, ⟨_, km2_⟩, ⟨_, ko2_⟩⟩, ⟨o0_, hok⟩, zb_mg zt_A k k2_, zb_mg.eq er_ zt_A62, ⟨R_, old_, cnt_, xk2_.mg er_.ti hTk_ (sh_.le zt_BA) kx2_, xl_⟩, ⟨th2_, ow2_, tx2_, now2_, qw2_, mm2_.mg er_.ti er_.l hTk_ (sh_.le zt_NA) km2_⟩, n2_, s2_, zb_mg.ty er_.len ko2_ rfl⟩⟩
  rw [eo_] at zo_
  exact zv_oi zo_
end ZVS
end
section
/-! BOTH SIDES BEHIND A CALL THAT ONLY ASKS -/
def zv_m1 (m : Nat × Nat) : Bool := !(zt_C m.1) && (!(zt_M m.1) && (!(Nat.beq m.1 1007 && (Nat.beq m.2 0 || Nat.beq m.2 1000)) && !(Nat.beq m.1 1019 && !(Nat.beq m.2 0))))
/-- what may be written leaves the states alone -/
def zv_m (M : List (Nat × Nat)) : Bool := M.all zv_m1
theorem zv_m.C {M : List (Nat × Nat)} (h : zv_m M = true) : (M.all fun m => !(zt_C m.1)) = true := List.all_eq_true.mpr fun m hm => (Bool.and_eq_true_iff.mp (List.all_eq_true.mp h m hm)).1
theorem zv_m.M {M : List (Nat × Nat)} (h : zv_m M = true) : (M.all fun m => !(zt_M m.1)) = true := List.all_eq_true.mpr fun m hm => (Bool.and_eq_true_iff.mp (Bool.and_eq_true_iff.mp (List.all_eq_true.mp h m hm)).2).1
theorem zv_m.b {M : List (Nat × Nat)} (h : zv_m M = true) : ck_inM M 1007 0 = false := by
  unfold ck_inM
  rw [List.any_eq_false]
  intro m_ hm_ hh_
  have a_ := (Bool.and_eq_true_iff.mp (Bool.and_eq_true_iff.mp (Bool.and_eq_true_iff.mp (List.all_eq_true.mp h m_ hm_)).2).2).1
  rw [hh_] at a_
  cases a_
theorem zv_m.o {M : List (Nat × Nat)} (h : zv_m M = true) {j : Nat} (hj : 1 ≤ j) : ck_inM M 1019 j = false := by
  unfold ck_inM
  rw [List.any_eq_false]
  intro m_ hm_ hh_
  have a_ := (Bool.and_eq_true_iff.mp (Bool.and_eq_true_iff.mp (Bool.and_eq_true_iff.mp (List.all_eq_true.mp h m_ hm_)).2).2).2
  obtain ⟨b1_, b2_⟩ := Bool.and_eq_true_iff.mp hh_
  have c_ : Nat.beq m_.2 0 = false := by
    cases hc : Nat.beq m_.2 0
    · rfl
    · have d_ := ck_beq hc
      rw [d_] at b2_
      rcases Bool.or_eq_true_iff.mp b2_ with y_ | y_
      · have z_ := ck_beq y_
        omega
      · cases y_
  rw [b1_, c_] at a_
  cases a_
section ZVA
variable {l : Launch} {G : am_G} {K : Int32} {h h2 kk : List am_C} {M : List (Nat × Nat)}
theorem zm_x.ask (e : zb_eq G h h2) (L : zb_l G h) (hT : ck_HT li_X gT K (am_g G h)) (hTk : ck_HT li_X gT K (am_g G kk)) (kp : ck_Kp M [] (am_g G h) (am_g G kk)) (hM : zv_m M = true) {o : Nat → Nat} {m tx now qw : Nat} {th j mi k : Int} {c : sp_S} {P : List sp_S} (a : zm_x G h2 o m tx now qw th j mi k c P) {ws : List Value} (hk : am_g G h m = some (1019, ws)) : ∃ (tx2 : Nat) (th2 : Int), zm_x G (zb_as h h2 kk) o m tx2 now qw th2 j mi k c P := by
  obtain ⟨z1_, z2_⟩ := zt_zx e.ti L hT (zb_as.sh (zv_m.M hM) kp) (fun _ h => h) a hk
  have n0_ := a.lt
  obtain ⟨a1_, a2_, -, ss_, l1_, -⟩ := a
  have hw_ : 1000 ≤ qw := by
    obtain ⟨_, _, _, _, _, -, -, -, -, ⟨-, z_⟩, -⟩ := l1_
    exact z_
  have row_ : ck_lk gT 1019 = some (0, 6, 6, [(1, 0, 0, 3), (3, 1018, 0, 0), (3, 41206, 0, 0), (1, 0, -2147483648, 2147483647), (1, 0, -2147483648, 2147483647), (1, 0, -2147483648, 2147483647)]) := rfl
  have tt_ : tx % 100 = 1019 % 100 := by omega
  have r1_ := zt_rv e.ti hT (j := 1) (q2 := now) (t' := 1018) hk a1_ tt_ (by decide) rfl n0_ row_ rfl (by decide +kernel)
  have r2_ := zt_rv e.ti hT (j := 2) (q2 := qw) (t' := 41206) hk a1_ tt_ (by decide) rfl hw_ row_ rfl (by decide +kernel)
  have c2_ := e.ti.g hk a1_ tt_ (show 1019 % 100 < 62 by decide)
  obtain ⟨vq_, b1_, b2_⟩ := zt_kp kp hk
  obtain ⟨⟨l3_, l4_⟩, -⟩ := (hTk.2 m 1019 vq_ b1_).1 _ row_
  have l5_ : vq_.length = 6 := by
    have a_ : (6 : Int) ≤ (vq_.length : Int) := l3_
    have b_ : (vq_.length : Int) ≤ 6 := l4_
    omega
  obtain ⟨x0_, x1_, x2_, x3_, x4_, x5_, e6_⟩ := zt_l6 l5_
  subst e6_
  have t0_ : ∃ u : Int32, x0_ = .int u ∧ 0 ≤ u.toInt ∧ u.toInt ≤ 3 := zt_ty hTk (j := 0) b1_ rfl row_ rfl
  obtain ⟨u_, u1_, -⟩ := t0_
  have e1_ : x1_ = .ref now := Option.some.inj ((b2_ 1 (zv_m.o hM (by omega))).trans r1_)
  have e2_ : x2_ = .ref qw := Option.some.inj ((b2_ 2 (zv_m.o hM (by omega))).trans r2_)
  have e3_ : x3_ = .int (Int32.ofInt j) := zb_rvi (c2_.2.2 3 x3_ (.int (Int32.ofInt j)) (b2_ 3 (zv_m.o hM (by omega))).symm rfl).symm
  have e4_ : x4_ = .int (Int32.ofInt mi) := zb_rvi (c2_.2.2 4 x4_ (.int (Int32.ofInt mi)) (b2_ 4 (zv_m.o hM (by omega))).symm rfl).symm
  have e5_ : x5_ = .int (Int32.ofInt k) := zb_rvi (c2_.2.2 5 x5_ (.int (Int32.ofInt k)) (b2_ 5 (zv_m.o hM (by omega))).symm rfl).symm
  have kq_ : am_g G kk m = some (1019, zm_c u_.toInt now qw j mi k) := by
    rw [b1_, u1_, e1_, e2_, e3_, e4_, e5_]
    unfold zm_c
    rw [Int32.ofInt_toInt]
  rcases zb_as.cs (h := h) kq_ a1_ with y_ | y_
  · exact ⟨tx, th, y_, a2_, z1_, z2_⟩
  · exact ⟨1019, u_.toInt, y_, ⟨rfl, a2_.2⟩, z1_, z2_⟩
/-- a call that only asks -/
theorem zv_ask {y : MethodName} {cw : Cond} {fr lo mc ms : Nat} {a : List Value} {x m out : Nat} {r : Nat → Nat} {T Tm : sp_T} {P1 : am_O → List am_C → Prop} (I : zv_s G K h x m out r T Tm) (t1 : am_M l G y cw fr lo mc ms a h P1) (hP1 : ∀ o k, P1 o k → ck_HT li_X gT K (am_g G k) ∧ ∃ M, ck_Kp M [] (am_g G h) (am_g G k) ∧ zv_m M = true) :
    am_M l G y cw fr lo mc ms a h (fun o k => P1 o k ∧ zv_s G K k x m out r T Tm) := by
  obtain ⟨hT_, L_, ⟨⟨vx_, kx_⟩, ⟨vm_, km_⟩, ⟨vo_, ko_⟩⟩, ⟨o0_, ok_, l12_⟩, h2_, e_, ⟨R_, old_, cnt_, xx_, xl_⟩, ⟨th_, ow_, tx_, now_, qw_, mm_⟩, n0_, s0_, g0_⟩ := I
  refine (zb_and t1 t1).mono fun o k hq => ?_
  obtain ⟨p1_, o2_, k2_, -, -, er_⟩ := hq
  obtain ⟨hTk_, M_, kp_, hM_⟩ := hP1 o k p1_
  obtain ⟨vx2_, kx2_, -⟩ := zt_kp kp_ kx_
  obtain ⟨vm2_, km2_, -⟩ := zt_kp kp_ km_
  obtain ⟨vo2_, ko2_, -⟩ := zt_kp kp_ ko_
  obtain ⟨n2_, s2_, e2_⟩ := zv_out hTk_ ko2_
  rw [e2_] at ko2_
  obtain ⟨tx2_, th2_, m2_⟩ := zm_x.ask e_ L_ hT_ hTk_ kp_ hM_ mm_ km_
  refine ⟨p1_, hTk_, er_.l, ⟨⟨_, kx2_⟩, ⟨_, km2_⟩, ⟨_, ko2_⟩⟩, ⟨o0_, ok_, l12_⟩, zb_as h h2_ k, zb_as.eq e_, ⟨R_, old_, cnt_, zc_x.ask e_.ti hT_ hTk_ kp_ (zv_m.C hM_) (zv_m.b hM_) xx_ kx_, xl_⟩, ⟨th2_, ow_, tx2_, now_, qw_, m2_⟩, ?_⟩
  rcases zb_as.cs (h := h) ko2_ g0_ with y_ | y_
  · exact ⟨_, _, y_⟩
  · exact ⟨_, _, y_⟩
end ZVA
end
section
/-! THE WALK FOR WHAT GIVES KINDS TO RAW CELLS ALONE, AND CALLS NO LEMMAS -/
def cn_sR (G : am_G) (S : ck_SS) (pc : Nat) : Prop := ∀ (L : List (Option Value)) (st : List Value) (h : List am_C) (k n q t t' : Nat) (vs : List Value), am_g G h q = some (t, vs) → 1000 ≤ q → t < 1000 → t' % 100 = t % 100 → S pc L st (am_s h q (t', vs)) k n → S pc L st h k n
theorem cn_tR_ok {w : ck_W} (hX : ck_XO w.2.1) (hX0 : ck_X0 w.2.1) {rt : List Nat} (hR : ck_Rt w rt) {S : ck_SS} {pc i t' : Nat} {A B : ck_A} (hs : cn_sR w.1 S pc) (ht : ck_tR w.2.2.1 rt i t' A = some B)
    {r : List Int} {s : List Nat} {L : List (Option Value)} {st : List Value} {h : List am_C} {k n : Nat} (H : ck_Ga w A r s L st h k n) (hK : ∀ h' : List am_C, ck_Ga w B r s L st h' k n → S pc L st h' k n) : S pc L st h k n := by
  obtain ⟨V, C, F, nr, Ls, St, ek, en⟩ := A
  unfold ck_tR at ht
  dsimp only at ht
  obtain ⟨h1, h2, h3, h4, hL, hS, h7, h8, h9⟩ := id H
  split at ht
  · next f hf =>
    obtain ⟨q, vs, g1, g2, g3⟩ := ck_f2_ok h3 hf
    split at ht
    · next d hd =>
      obtain ⟨hc, ht⟩ := ck_bt rfl ht
      cases ht
      simp only [Bool.and_eq_true] at hc
      obtain ⟨⟨⟨c1, c4⟩, ⟨c3, cw⟩, c5⟩, ⟨c2, c7⟩, c6⟩ := hc
      have k2 := ck_le_ok c2 h1 h2 (ck_Lv.k r _) g3
      have k7 := ck_le_ok c7 h1 h2 g3 (ck_Lv.k r _)
      have k4 : f.2.2.2.1 < 1000 := Nat.blt_eq.mp c4
      have k3 : t' < 40000 := Nat.blt_eq.mp c3
      have hq : 1000 ≤ q := (h9.1.2 q _ vs g2).2.2 cw
      have hlt := am_g_lt hq g2
      have hgs : ∀ m, am_g w.1 (am_s h q (t', vs)) m = if m = q then some (t', vs) else am_g w.1 h m := fun m => am_g_s hq hlt
      refine hs L st h k n q _ t' vs g2 hq k4 (ck_beq c1) (hK _ ⟨h1, h2, fun f' hf' => ?_, h4, hL, hS, h7, h8, ?_⟩)
      · obtain ⟨f0, f1, f2⟩ := List.mem_filterMap.mp hf'
        have h0 := h3 f0 f1
        unfold ck_rg at f2
        cases hb : (Nat.beq f0.2.2.2.1 f.2.2.2.1 && (Nat.beq f0.1 2 || (Nat.beq f0.1 3 || (Nat.beq f0.1 8 || Nat.beq f0.1 6))))
        · rw [hb, cond_false] at f2
          cases f2
          by_cases e8 : f'.1 = 2 ∨ f'.1 = 3 ∨ f'.1 = 8 ∨ f'.1 = 6
          · refine h0.heap fun q1 t1 vs1 e1 e2 => ?_
            rw [hgs]
            by_cases e : q1 = q
            · exfalso
              subst e
              rw [g2] at e1
              have e3 : f.2.2.2.1 = t1 := (Prod.mk.inj (Option.some.inj e1)).1
              rw [e2, ← e3] at hb
              rcases e8 with e8 | e8 | e8 | e8 <;> rw [e8] at hb <;> simp at hb
            · rw [if_neg e]
              exact ⟨vs1, e1, rfl, fun _ => rfl, fun _ => rfl⟩
          · unfold ck_fa at h0 ⊢
            split at h0
            · next e => exact absurd (Or.inl e) e8
            · next e => exact absurd (Or.inr (Or.inl e)) e8
            · exact h0
            · exact h0
            · next e => exact absurd (Or.inr (Or.inr (Or.inr e))) e8
            · next e => exact absurd (Or.inr (Or.inr (Or.inl e))) e8
            · exact h0.elim
        · rw [hb, cond_true] at f2
          obtain ⟨f2c, f2⟩ := ck_bt rfl f2
          obtain ⟨b1, b2⟩ := Bool.and_eq_true_iff.mp hb
          obtain ⟨b3, b4⟩ := Bool.and_eq_true_iff.mp f2c
          have b3 := ck_beq b3
          unfold ck_fa at h0
          split at h0
          · next e =>
            obtain ⟨q1, vs1, e1, e2, e3⟩ := h0
            rw [b3, g1] at e1
            cases e1
            rw [g2] at e2
            have e4 := (Prod.mk.inj (Option.some.inj e2)).2
            subst e4
            rw [← f2]
            unfold ck_fa
            dsimp only
            rw [e]
            exact ⟨q, vs, by rw [b3]; exact g1, by rw [hgs, if_pos rfl], e3⟩
          · next e =>
            obtain ⟨q1, vs1, v, e1, e2, e3, e5⟩ := h0
            rw [b3, g1] at e1
            cases e1
            rw [g2] at e2
            have e4 := (Prod.mk.inj (Option.some.inj e2)).2
            subst e4
            rw [← f2]
            unfold ck_fa
            dsimp only
            rw [e]
            exact ⟨q, vs, v, by rw [b3]; exact g1, by rw [hgs, if_pos rfl], e3, e5⟩
          · next e => rw [e] at b2; simp at b2
          · next e => rw [e] at b2; simp at b2
          · next e => rw [e] at b4; simp at b4
          · next e => rw [e] at b4; simp at b4
          · exact h0.elim
      · refine h9.put hX hX0 g2 hq k3 (by omega) rfl (Or.inr k4) (fun g' hE D hD => ?_) ?_
        · rw [hd] at hD
          cases hD
          refine ⟨⟨k2, k7⟩, fun j v hv => ?_⟩
          have hex : ∀ (a b : Nat) (c : List Value), am_g w.1 h a = some (b, c) → 1000 ≤ b → ∃ vs' : List Value, g' a = some (b, vs') ∧ vs'.length = c.length := fun a b c d1 d2 => by obtain ⟨x1, x2, x3, -⟩ := hE a b c d1 d2; exact ⟨x1, x2, x3⟩
          rcases Bool.or_eq_true_iff.mp c6 with c6 | c6
          · unfold ck_allm at c6
            split at c6
            · next N hN =>
              have hlen := ck_ci_ok hN g3
              have hj : j < N := by have := (List.getElem?_eq_some_iff.mp hv).1; omega
              have h6 := List.all_eq_true.mp c6 j (List.mem_range.mpr hj)
              split at h6
              · next m y hm hy =>
                obtain ⟨q1, vs1, v1, e1, e2, e3, e4⟩ := ck_f3_ok h3 hm
                rw [g1] at e1
                cases e1
                rw [g2] at e2
                have e5 := (Prod.mk.inj (Option.some.inj e2)).2
                subst e5
                rw [hv] at e3
                cases e3
                exact ⟨y, hy, (ck_ft_ok h3 ⟨h1, h2⟩ h6 e4).ex hex⟩
              · cases h6
            · cases c6
          · unfold ck_semi at c6
            split at c6
            · next c0 hc0 =>
              obtain ⟨s1, s2⟩ := Bool.and_eq_true_iff.mp c6
              obtain ⟨s1, s3⟩ := Bool.and_eq_true_iff.mp s1
              split at s2
              · next u1 a b u2 a' b' y1 y2 =>
                obtain ⟨y', y3, y4⟩ := ((h9.1.2 q _ vs g2).1 c0 hc0).2 j v hv
                rw [ck_yt_arr s1, y1] at y3
                cases y3
                obtain ⟨x, x1, x2, x3⟩ := y4
                obtain ⟨s4, s5⟩ := Bool.and_eq_true_iff.mp s2
                have s4 := ck_nn_ok s4
                have s5 := ck_nn_ok s5
                have x2 : a ≤ x.toInt := x2
                have x3 : x.toInt ≤ b := x3
                have y5 : ck_ty w.2.2.2.1 g' (1, u2, a', b') v := ⟨x, x1, by show a' ≤ x.toInt; omega, by show x.toInt ≤ b'; omega⟩
                exact ⟨_, by rw [ck_yt_arr s3]; exact y2, y5⟩
              · cases s2
            · cases c6
        · rcases Bool.or_eq_true_iff.mp c5 with c5 | c5
          · exact Or.inr (Or.inl (ck_f5_ok h3 c5 g1))
          · obtain ⟨e1, e2⟩ := Bool.and_eq_true_iff.mp c5
            obtain ⟨t1, e3, e4⟩ := List.any_eq_true.mp e2
            have e4 := ck_beq e4
            rw [← e4] at e3
            obtain ⟨q', e5, e6⟩ := hR _ e3
            obtain ⟨p, hs⟩ := h9.2.2.2.2
            rw [ck_beq e1, hs, ck_get_app e5] at g1
            cases g1
            exact Or.inr (Or.inr e6)
    · cases ht
  · cases ht
/-- all that a method's walk rests on -/
def cn_Ctx (E : ck_E) (w : ck_W) (S : ck_SS) (SX : Nat → ck_SX) (Rc Rs : Nat) (cm : Nat → ck_CM) (re : List Int) (se : List Nat) : Prop :=
  ck_XO w.2.1 ∧ ck_X0 w.2.1 ∧ w.2.2.1 = E.1 ∧ (∀ t, t < 100 → ck_wr w.2.2.1 t = true) ∧ w.2.2.2.2.2.2.2.1 = E.2.2.1.2.2.1 ∧ w.2.2.2.2.2.2.2.2 = ck_rq E.2.2.1.2.2.2.1 se ∧ ck_Rt w E.2.2.1.2.2.2.1 ∧ ck_Rm w E.2.2.1.2.1.1 E.2.2.1.2.1.2 Rc Rs ∧
  (∃ q, w.2.2.2.2.2.1 = re ++ q) ∧ (∃ q, w.2.2.2.2.2.2.1 = se ++ q) ∧ re.length = E.2.2.1.1.1.length ∧ se.length = E.2.2.1.1.2.2.2.1 ∧
  (∀ (i : Nat) (x : ck_Cl), E.2.2.2.2.2.1[i]? = some x → ∀ c ∈ x.2.2, ck_Con (cm i) w.1 w.2.1 w.2.2.1 c) ∧
  (∀ (pc : Nat), ∀ q ∈ ck_at [] pc E.2.2.2.2.2.2.1, ∀ (L : List (Option Value)) (h : List am_C) (k n : Nat), L.length = E.2.2.2.1 → S q.2 ((am_cut L (E.2.2.2.1 - 1)).set (E.2.2.2.1 - 1) none) [] h k n → SX pc q.1 L h k n) ∧
  (∀ (pc : Nat) (Ex : String) (L : List (Option Value)) (h : List am_C) (k n : Nat), (∀ q ∈ ck_at [] pc E.2.2.2.2.2.2.1, q.1 ≠ Ex) → ck_Po w.1 w.2.1 w.2.2.1 w.2.2.2.1 E.2.2.1 re se w.2.2.2.2.1 (.inr Ex) h → k ≤ Rc → n ≤ Rs → SX pc Ex L h k n) ∧
  (∀ pc, cn_sR w.1 S pc) ∧ (∀ (pc : Nat) (L : List (Option Value)) (st : List Value) (h : List am_C) (k n k' n' : Nat), k ≤ k' → n ≤ n' → S pc L st h k' n' → S pc L st h k n) ∧ ck_KT w.1 w.2.2.1 ∧ ck_g5 E = []
theorem cn_Po_x {E : ck_E} {w : ck_W} {S : ck_SS} {SX : Nat → ck_SX} {Rc Rs : Nat} {cm : Nat → ck_CM} {re : List Int} {se : List Nat} (X : cn_Ctx E w S SX Rc Rs cm re se) {r : List Int} {s : List Nat} {h : List am_C} (H : ck_Hp w r s h) {Ex : String} (hE : Ex ∈ E.2.2.1.2.2.2.2.2) : ck_Po w.1 w.2.1 w.2.2.1 w.2.2.2.1 E.2.2.1 re se w.2.2.2.2.1 (.inr Ex) h := by
  obtain ⟨x1, x2, x3, x4, x5, x6, -⟩ := X
  unfold ck_Hp at H
  rw [x5, x6] at H
  exact ⟨H.1, H.2.1, H.2.2.1, hE⟩
set_option maxHeartbeats 4000000 in
theorem cn_op_ok {E : ck_E} {w : ck_W} {S : ck_SS} {SX : Nat → ck_SX} {Rc Rs : Nat} {cm : Nat → ck_CM} {re : List Int} {se : List Nat} (X : cn_Ctx E w S SX Rc Rs cm re se) {pc : Nat} {o : ck_O} (hs : ck_os w.1 S SX (ck_Po w.1 w.2.1 w.2.2.1 w.2.2.2.1 E.2.2.1 re se w.2.2.2.2.1) Rc Rs cm E pc o)
    {A : ck_A} {l : List (Nat × ck_A)} (ht : ck_op E pc o A = some l) (hK : ck_K w S l) {r : List Int} {s : List Nat} {L : List (Option Value)} {st : List Value} {h : List am_C} {k n : Nat} (H : ck_Ga w A r s L st h k n) : S pc L st h k n := by
  obtain ⟨x1, x2, x3, x4, x5, x6, x7, x8, x9, x10, x11, x12, x13, x14, x15, x16, x17, x18, x19⟩ := id X
  obtain ⟨c, f, f2, v, nx, tg, ex⟩ := o
  obtain ⟨T, pr, own, nL, code, cl, hds, gh, cuts⟩ := E
  have x3 : w.2.2.1 = T := x3
  subst x3
  have x5 : w.2.2.2.2.2.2.2.1 = own.2.2.1 := x5
  unfold ck_op at ht
  unfold ck_os at hs
  dsimp only at ht hs
  split at ht
  · exact ck_tK_ok x18 hs ht hK H
  · exact ck_tI_ok hs ht hK H
  · exact ck_tC_ok hs ht hK H
  · cases ht; exact ck_tG_ok hs hK H
  · exact ck_tN_ok hs ht hK H
  · exact ck_tN_ok hs ht hK H
  · exact ck_tS_ok hs ht hK H
  · exact ck_tF_ok hs ht hK H
  · rw [← x5] at ht; exact ck_tU_ok x1 x2 x7 hs ht hK H
  · exact ck_tW_ok x1 x2 x8 hs ht hK H
  · exact ck_tE_ok x1 x2 x8 hs ht hK H
  · exact ck_tL_ok hs ht hK H
  · exact ck_tA_ok hs ht hK H
  · rw [← x5] at ht; exact ck_tB_ok x1 x2 x7 hs ht hK H
  · split at ht
    · next a ha =>
      obtain ⟨hc, ht⟩ := ck_bt rfl ht
      obtain ⟨c1, c2⟩ := Bool.and_eq_true_iff.mp hc
      obtain ⟨h1, h2, h3, h4, hL, hS, h7⟩ := id H
      rw [ha] at hS
      obtain ⟨b1, b2, b3⟩ := ck_ret_ok x8 c2 x5 x9 x10 x6 x11 x12 H
      match st, hS with
      | [u], hS => exact hs L u h k n (ck_sh_ok c1 ⟨h1, h2⟩ hS.1) b1 b2 (b3 (some u) rfl)
      | u :: u' :: st, hS => exact hS.2.elim
    · cases ht
  · split at ht
    · next ha =>
      obtain ⟨hc, ht⟩ := ck_bt rfl ht
      obtain ⟨h1, h2, h3, h4, hL, hS, h7⟩ := id H
      rw [ha] at hS
      obtain ⟨b1, b2, b3⟩ := ck_ret_ok x8 hc x5 x9 x10 x6 x11 x12 H
      match st, hS with
      | [], hS => exact hs L h k n b1 b2 (b3 none rfl)
      | u :: st, hS => exact hS.elim
    · cases ht
  · split at ht
    · next rc na cs hcl =>
      have hs' : ck_sQ w.1 S (SX pc) Rc Rs nL pc nx rc (cm f) na := by rw [hcl] at hs; exact hs
      obtain ⟨c0, hc0, ht⟩ := List.exists_of_findSome?_eq_some ht
      rw [← x5] at ht
      exact ck_tQ_ok x7 x8 hs' (x13 f _ hcl c0 hc0) (fun q hq L h k n hl => x14 pc q hq L h k n hl) (fun Ex hEx r s L h k n hp hk hn hno => x15 pc Ex L h k n hno (cn_Po_x X hp hEx) hk hn) ht hK H
    · cases ht
  · split at ht
    · next Ex hEx =>
      obtain ⟨hc, ht⟩ := ck_bt rfl ht
      have hs' : ck_sZ S (ck_Po w.1 w.2.1 w.2.2.1 w.2.2.2.1 own re se w.2.2.2.2.1) Rc Rs nL pc Ex := by rw [hEx] at hs; exact hs
      obtain ⟨V, C, F, nr, Ls, St, ek, en⟩ := A
      unfold ck_tZ at hc
      dsimp only at hc
      simp only [Bool.and_eq_true] at hc
      obtain ⟨⟨c1, c2⟩, ⟨c3, c4⟩, c5⟩ := hc
      obtain ⟨h1, h2, h3, h4, hL, hS, h7, h8, h9⟩ := id H
      obtain ⟨m1, m2⟩ := x8.at h9
      have b1 := ck_le_ok c3 h1 h2 (h7.add (ck_Lv.k r 1)) m1
      have b2 := ck_le_ok c4 h1 h2 (h8.add (ck_Lv.k r 6)) m2
      have hp := h9.make x1 x2 (t := 99) (vs := []) (by decide) (fun g' d hd => by rw [Option.isNone_iff_eq_none.mp c5] at hd; cases hd)
      exact hs' L st h k n (by rw [hL.1]; exact ck_beq c2) (by rw [ck_cs_ok hS]; exact Nat.le_of_ble_eq_true c1) (by omega) (by omega) (cn_Po_x X hp (List.mem_of_getElem? hEx))
    · cases ht
  · exact ck_tO_ok hs ht hK H
  · exact ck_tT_ok hs ht hK H
  · exact ck_tM_ok x2 hs ht hK H
  · cases ht
theorem cn_gh_ok {E : ck_E} {w : ck_W} {S : ck_SS} {SX : Nat → ck_SX} {Rc Rs : Nat} {cm : Nat → ck_CM} {re : List Int} {se : List Nat} (X : cn_Ctx E w S SX Rc Rs cm re se) {pc : Nat} {g : ck_Gh} {A : ck_A} {l : List (Nat × ck_A)} (ht : ck_gh w.2.2.1 E.2.2.1.2.2.2.1 pc g A = some l) (hK : ck_K w S l)
    {r : List Int} {s : List Nat} {L : List (Option Value)} {st : List Value} {h : List am_C} {k n : Nat} (H : ck_Ga w A r s L st h k n) : S pc L st h k n := by
  obtain ⟨x1, x2, x3, x4, x5, x6, x7, x8, x9, x10, x11, x12, x13, x14, x15, x16, x17, x18, x19⟩ := id X
  obtain ⟨kd, p, u, v, tm⟩ := g
  unfold ck_gh at ht
  dsimp only at ht
  obtain ⟨h1, h2, h3, h4, hL, hS, h7, h8, h9⟩ := id H
  split at ht
  · split at ht
    · next d hd =>
      cases ht
      obtain ⟨x, hx⟩ := ck_sm_ok h3 hL hS hd
      by_cases e : 0 ≤ x
      · exact ck_br_ok hK.l H hS hx e
      · exact ck_br_ok hK.r H hS hx (show x < 0 by omega)
    · cases ht
  · split at ht
    · next B hB =>
      cases ht
      obtain ⟨i, -, hB⟩ := Option.bind_eq_some_iff.mp hB
      exact cn_tR_ok x1 x2 x7 (x16 pc) hB H fun h' H' => hK _ (List.mem_singleton.mpr rfl) r s L st h' k n H'
    · cases ht
  · split at ht
    · split at ht
      · next B hB =>
        cases ht
        exact cn_tR_ok x1 x2 x7 (x16 pc) hB H fun h' H' => hK _ (List.mem_singleton.mpr rfl) r s L st h' k n H'
      · cases ht
    · cases ht
  · split at ht
    · next B hB =>
      cases ht
      obtain ⟨i, -, hB⟩ := Option.bind_eq_some_iff.mp hB
      exact hK _ (List.mem_singleton.mpr rfl) r s L st h k n (ck_t6_ok hB H)
    · cases ht
  · split at ht
    · next B hB =>
      cases ht
      obtain ⟨i, -, hB⟩ := Option.bind_eq_some_iff.mp hB
      obtain ⟨r', s', H'⟩ := ck_tH_ok hB H
      exact hK _ (List.mem_singleton.mpr rfl) r' s' L st h k n H'
    · cases ht
set_option maxHeartbeats 2000000 in
theorem cn_gx_ok {E : ck_E} {w : ck_W} {S : ck_SS} {SX : Nat → ck_SX} {Rc Rs : Nat} {cm : Nat → ck_CM} {re : List Int} {se : List Nat} (X : cn_Ctx E w S SX Rc Rs cm re se) {pc : Nat} {g : ck_Gh} {n9 : Nat} (hg9 : (ck_at [] pc E.2.2.2.2.2.2.2.1)[n9]? = some g) {A : ck_A} {l : List (Nat × ck_A)} (ht : ck_gx E pc g A = some l) (hK : ck_K w S l)
    {r : List Int} {s : List Nat} {L : List (Option Value)} {st : List Value} {h : List am_C} {k n : Nat} (H : ck_Ga w A r s L st h k n) : S pc L st h k n := by
  unfold ck_gx at ht
  cases hg : Nat.beq g.1 5
  · rw [hg, cond_false, ← X.2.2.1] at ht
    exact cn_gh_ok X ht hK H
  · rw [hg, cond_true] at ht
    obtain ⟨x1, x2, x3, x4, x5, x6, x7, x8, x9, x10, x11, x12, x13, x14, x15, x16, x17, x18, x19⟩ := id X
    have hn_ := ck_g5_mem hg9 hg
    rw [x19] at hn_
    cases hn_
theorem cn_cut_ok {E : ck_E} {w : ck_W} {S : ck_SS} {SX : Nat → ck_SX} {Rc Rs : Nat} {cm : Nat → ck_CM} {re : List Int} {se : List Nat} (X : cn_Ctx E w S SX Rc Rs cm re se) {m0 : Option ck_L} {mu : Option Int} (hmu : (m0 = none → mu = none) ∧ ∀ e, m0 = some e → ∃ y, mu = some y ∧ ck_Lv w.2.2.2.2.2.1 e y) (ih : ck_IH E w S re se mu)
    {c : Nat × ck_A × ck_L} (hc : c ∈ E.2.2.2.2.2.2.2.2) {A : ck_A} (ht : ck_cut E m0 c.2.1 c.2.2 A = true) {r : List Int} {s : List Nat} {L : List (Option Value)} {st : List Value} {h : List am_C} {k n : Nat} (H : ck_Ga w A r s L st h k n) : S c.1 L st h k n := by
  obtain ⟨x1, x2, x3, x4, x5, x6, x7, x8, x9, x10, x11, x12, x13, x14, x15, x16, x17, x18, x19⟩ := id X
  obtain ⟨V, C, F, nr, Ls, St, ek, en⟩ := A
  obtain ⟨pc, ⟨V', C', F', mr, Ls', St', ek', en'⟩, m⟩ := c
  unfold ck_cut at ht
  dsimp only at ht
  generalize ck_ug F E.2.2.1.1.1.length E.2.2.1.1.2.2.2.1 V' mr F' Ls' Ls St' St [(ek', ek), (en', en)] = u at ht
  obtain ⟨h1, h2, h3, h4, hL, hS, h7, h8, h9⟩ := id H
  obtain ⟨ht, hm⟩ := Bool.and_eq_true_iff.mp ht
  simp only [Bool.and_eq_true] at ht
  obtain ⟨⟨c1, c2⟩, ⟨c3, c4⟩, c5, c6⟩ := ht
  obtain ⟨g1, g2, g3, g4, g5, g6, g7, g8⟩ := ck_mt_ok c1 h1 h2 h3 h4 hL hS h9.1.1.1
  obtain ⟨q, eq⟩ : ∃ q, r = re ++ q := by
    obtain ⟨q, e1⟩ := h9.2.2.2.1
    obtain ⟨q', e2⟩ := x9
    exact ⟨q' ++ q, by rw [e1, e2, List.append_assoc]⟩
  obtain ⟨p, ep⟩ : ∃ q, s = se ++ q := by
    obtain ⟨q, e1⟩ := h9.2.2.2.2
    obtain ⟨q', e2⟩ := x10
    exact ⟨q' ++ q, by rw [e1, e2, List.append_assoc]⟩
  have e1 := ck_id_ok eq x11
  have e2 := ck_ids_ok ep x12 (Nat.le_of_ble_eq_true c2)
  have e3 : ∃ q, ck_r' (ck_id E.2.2.1.1.1.length ++ u.1.drop E.2.2.1.1.1.length) r = re ++ q := ⟨ck_r' (u.1.drop E.2.2.1.1.1.length) r, by unfold ck_r' at e1 ⊢; rw [List.map_append, e1]⟩
  have e4 : ∃ q, ck_s' (List.range E.2.2.1.1.2.2.2.1 ++ u.2.drop E.2.2.1.1.2.2.2.1) s = se ++ q := ⟨ck_s' (u.2.drop E.2.2.1.1.2.2.2.1) s, by unfold ck_s' at e2 ⊢; rw [List.map_append, e2]⟩
  generalize ck_id E.2.2.1.1.1.length ++ u.1.drop E.2.2.1.1.1.length = th at *
  generalize List.range E.2.2.1.1.2.2.2.1 ++ u.2.drop E.2.2.1.1.2.2.2.1 = ta at *
  have hl : V'.length = th.length := by rw [g3.1, g1.1]
  have hv : ∀ e : ck_L, ck_sq V'.length e = true → ck_Lv (ck_r' th r) e (e.1 + ck_ev (ck_r' th r) e.2) := fun e he => ⟨by rw [← g1.1, ← hl]; exact ck_sq_ok he, rfl⟩
  have k1 := hv _ c3
  have k2 := hv _ c4
  have k3 := ck_le_ok c5 h1 h2 h7 (ck_sb_ok g1 k1)
  have k4 := ck_le_ok c6 h1 h2 h8 (ck_sb_ok g1 k2)
  obtain ⟨k', ek1⟩ : ∃ k' : Nat, ek'.1 + ck_ev (ck_r' th r) ek'.2 = (k' : Int) := ⟨(ek'.1 + ck_ev (ck_r' th r) ek'.2).toNat, by omega⟩
  obtain ⟨n', en1⟩ : ∃ n' : Nat, en'.1 + ck_ev (ck_r' th r) en'.2 = (n' : Int) := ⟨(en'.1 + ck_ev (ck_r' th r) en'.2).toNat, by omega⟩
  rw [ek1] at k1 k3
  rw [en1] at k2 k4
  have hms : ck_sq V'.length m = true := by
    split at hm
    · exact hm
    · exact (Bool.and_eq_true_iff.mp hm).1
  have k5 := hv _ hms
  refine x17 pc L st h k n k' n' (by omega) (by omega) (ih _ hc (ck_r' th r) (ck_s' ta s) L st h k' n' _ e3 e4 ⟨g3, g4, g5, g6, g7, g8, k1, k2, h9.1, h9.2.1, h9.2.2.1, ⟨[], by rw [List.append_nil]; rfl⟩, [], by rw [List.append_nil]; rfl⟩ k5 fun y hy => ?_)
  split at hm
  · next => rw [hmu.1 rfl] at hy; cases hy
  · next e =>
    obtain ⟨y', f1, f2⟩ := hmu.2 e rfl
    rw [f1] at hy
    cases hy
    simp only [Bool.and_eq_true] at hm
    obtain ⟨-, d1, d2⟩ := hm
    have d3 := ck_ge_ok d1 h1 h2 (ck_sb_ok g1 k5)
    obtain ⟨qq, e5⟩ := h9.2.2.2.1
    have d4 := ck_le_ok d2 h1 h2 (ck_sb_ok g1 k5) (((show ck_Lv r e y from by rw [e5]; exact f2.app qq)).sub (ck_Lv.k r 1))
    exact ⟨d3, by omega⟩
theorem cn_go_ok {E : ck_E} {w : ck_W} {S : ck_SS} {SX : Nat → ck_SX} {Rc Rs : Nat} {cm : Nat → ck_CM} {re : List Int} {se : List Nat} (X : cn_Ctx E w S SX Rc Rs cm re se) (hcode : ∀ x ∈ E.2.2.2.2.1, ck_os w.1 S SX (ck_Po w.1 w.2.1 w.2.2.1 w.2.2.2.1 E.2.2.1 re se w.2.2.2.2.1) Rc Rs cm E x.1 x.2)
    {m0 : Option ck_L} {mu : Option Int} (hmu : (m0 = none → mu = none) ∧ ∀ e, m0 = some e → ∃ y, mu = some y ∧ ck_Lv w.2.2.2.2.2.1 e y) (ih : ck_IH E w S re se mu) :
    ∀ (f fl pc : Nat) (A : ck_A), ck_go E m0 f fl pc A = true → ∀ (r : List Int) (s : List Nat) (L : List (Option Value)) (st : List Value) (h : List am_C) (k n : Nat), ck_Ga w A r s L st h k n → S pc L st h k n := by
  intro f
  induction f with
  | zero => intro fl pc A ht; cases ht
  | succ f hf =>
    intro fl pc A ht r s L st h k n H
    unfold ck_go at ht
    cases hb : (Nat.beq fl 0 && E.2.2.2.2.2.2.2.2.any (fun c => Nat.beq c.1 pc))
    · rw [hb, cond_false] at ht
      split at ht
      · next g hg =>
        split at ht
        · next l hl =>
          exact cn_gx_ok X hg hl (fun x hx r s L st h k n H' => hf _ _ _ (List.all_eq_true.mp ht x hx) r s L st h k n H') H
        · cases ht
      · split at ht
        · next l hl =>
          refine cn_op_ok X ?_ hl (fun x hx r s L st h k n H' => hf _ _ _ (List.all_eq_true.mp ht x hx) r s L st h k n H') H
          rcases ck_at_mem (d := ((99, 0, 0, 0, 0, 0, []) : ck_O)) (pc := pc) (l := E.2.2.2.2.1) with e | e
          · exact hcode _ e
          · rw [e] at hl; cases hl
        · cases ht
    · rw [hb, cond_true] at ht
      obtain ⟨c, c1, c2⟩ := List.any_eq_true.mp ht
      obtain ⟨c2, c3⟩ := Bool.and_eq_true_iff.mp c2
      have := cn_cut_ok X hmu ih c1 c3 H
      rw [ck_beq c2] at this
      exact this
theorem cn_Ctx.wa {E : ck_E} {w : ck_W} {S : ck_SS} {SX : Nat → ck_SX} {Rc Rs : Nat} {cm : Nat → ck_CM} {re : List Int} {se : List Nat} (X : cn_Ctx E w S SX Rc Rs cm re se) (hw : w.2.2.2.2.2.1 = re) (hw2 : w.2.2.2.2.2.2.1 = se) {r : List Int} {s : List Nat} (hr : ∃ q, r = re ++ q) (hs : ∃ q, s = se ++ q) : cn_Ctx E (ck_wa w r s) S SX Rc Rs cm re se := by
  obtain ⟨x1, x2, x3, x4, x5, x6, x7, x8, x9, x10, x11, x12, x13, x14, x15, x16, x17, x18, x19⟩ := X
  obtain ⟨q, e1⟩ := hr
  obtain ⟨p, e2⟩ := hs
  refine ⟨x1, x2, x3, x4, x5, x6, fun t ht => ?_, ?_, ⟨q, e1⟩, ⟨p, e2⟩, x11, x12, x13, x14, x15, x16, x17, x18, x19⟩
  · obtain ⟨a, b1, b2⟩ := x7 t ht
    exact ⟨a, by show s[0]? = some a; rw [e2, ← hw2]; exact ck_get_app b1, b2⟩
  · obtain ⟨a, b⟩ := x8
    rw [hw] at a b
    exact ⟨by show ck_Lv r _ _; rw [e1]; exact a.app q, by show ck_Lv r _ _; rw [e1]; exact b.app q⟩
theorem cn_cuts_ok {E : ck_E} {w : ck_W} {S : ck_SS} {SX : Nat → ck_SX} {Rc Rs : Nat} {cm : Nat → ck_CM} {re : List Int} {se : List Nat} (X : cn_Ctx E w S SX Rc Rs cm re se) (hw : w.2.2.2.2.2.1 = re) (hw2 : w.2.2.2.2.2.2.1 = se) (hcode : ∀ x ∈ E.2.2.2.2.1, ck_os w.1 S SX (ck_Po w.1 w.2.1 w.2.2.1 w.2.2.2.1 E.2.2.1 re se w.2.2.2.2.1) Rc Rs cm E x.1 x.2)
    {f : Nat} (hg : (E.2.2.2.2.2.2.2.2.all fun c => ck_go E (some c.2.2) f 1 c.1 c.2.1) = true) : ∀ (N : Nat) (y : Int), y < (N : Int) → ck_IH E w S re se (some (y + 1)) := by
  intro N
  induction N with
  | zero =>
    intro y hy c hc r s L st h k n x _ _ _ _ hx
    have := hx _ rfl
    omega
  | succ N hN =>
    intro y hy c hc r s L st h k n x hr hs H hx hlt
    have h1 := hlt _ rfl
    have X' := X.wa hw hw2 hr hs
    refine cn_go_ok (w := ck_wa w r s) X' hcode (m0 := some c.2.2) (mu := some x) ⟨fun z => (nomatch z), fun e he => by cases he; exact ⟨x, rfl, hx⟩⟩ ?_ f 1 c.1 c.2.1 (List.all_eq_true.mp hg c hc) r s L st h k n H
    intro c' hc' r' s' L' st' h' k' n' x' hr' hs' H' hx' hlt'
    have h2 := hlt' _ rfl
    exact hN (x - 1) (by omega) c' hc' r' s' L' st' h' k' n' x' hr' hs' H' hx' (fun z hz => by cases hz; omega)
theorem cn_all_ok {E : ck_E} {w : ck_W} {S : ck_SS} {SX : Nat → ck_SX} {Rc Rs : Nat} {cm : Nat → ck_CM} {re : List Int} {se : List Nat} (X : cn_Ctx E w S SX Rc Rs cm re se) (hw : w.2.2.2.2.2.1 = re) (hw2 : w.2.2.2.2.2.2.1 = se) (hcode : ∀ x ∈ E.2.2.2.2.1, ck_os w.1 S SX (ck_Po w.1 w.2.1 w.2.2.1 w.2.2.2.1 E.2.2.1 re se w.2.2.2.2.1) Rc Rs cm E x.1 x.2)
    {f pc : Nat} {A : ck_A} (hg : (E.2.2.2.2.2.2.2.2.all fun c => ck_go E (some c.2.2) f 1 c.1 c.2.1) = true) (h0 : ck_go E none f 0 pc A = true) {r : List Int} {s : List Nat} {L : List (Option Value)} {st : List Value} {h : List am_C} {k n : Nat} (H : ck_Ga w A r s L st h k n) : S pc L st h k n := by
  refine cn_go_ok X hcode (m0 := none) (mu := none) ⟨fun _ => rfl, fun e he => (nomatch he)⟩ ?_ f 0 pc A h0 r s L st h k n H
  intro c hc r' s' L' st' h' k' n' x hr hs H' hx _
  by_cases e : 0 ≤ x
  · exact cn_cuts_ok X hw hw2 hcode hg (x.toNat + 1) x (by omega) c hc r' s' L' st' h' k' n' x hr hs H' hx (fun z hz => by cases hz; omega)
  · -- a measure below 0: the walk from the stop goes to stops of measure 0 and above alone, below it: to none
    have X' := X.wa hw hw2 hr hs
    refine cn_go_ok (w := ck_wa w r' s') X' hcode (m0 := some c.2.2) (mu := some x) ⟨fun z => (nomatch z), fun e he => by cases he; exact ⟨x, rfl, hx⟩⟩ ?_ f 1 c.1 c.2.1 (List.all_eq_true.mp hg c hc) r' s' L' st' h' k' n' H'
    intro c' hc' r2 s2 L2 st2 h2 k2 n2 x2 _ _ _ _ hlt
    have := hlt _ rfl
    omega
end
section
/-! A WALK THAT KNOWS MORE THAN THE TYPES -/
def cn_S (Iv : Nat → List (Option Value) → List Value → List am_C → Prop) (S : ck_SS) : ck_SS := fun pc L st h k n => Iv pc L st h → S pc L st h k n
/-- what is known is carried on by the instruction -/
def cn_st (G : am_G) (Iv : Nat → List (Option Value) → List Value → List am_C → Prop) (cm cm' : Nat → ck_CM) (pc : Nat) (o : ck_O) : Prop := match o with
  | (c, f, f2, v, nx, tg, ex) => match c with
    | 0 => ∀ (L : List (Option Value)) (st : List Value) (L' : List (Option Value)) (st' : List Value) (h : List am_C), ck_cf f f2 v L st = some (L', st') → Iv pc L st h → Iv nx L' st' h
    | 2 => ∀ (L : List (Option Value)) (x y : Int32) (st : List Value) (h : List am_C), Iv pc L (.int y :: .int x :: st) h → Iv tg L st h ∧ Iv nx L st h
    | 3 => ∀ (L : List (Option Value)) (st : List Value) (h : List am_C), Iv pc L st h → Iv tg L st h
    | 6 => ∀ (L : List (Option Value)) (x : Int32) (st : List Value) (h : List am_C), Iv pc L (.int x :: st) h → (∀ e ∈ ex, x.toInt = e.1 → Iv e.2 L st h) ∧ Iv tg L st h
    | 9 => ∀ (t : Nat) (L : List (Option Value)) (st : List Value) (h : List am_C), t % 100 = f → Iv pc L st h → Iv nx L (.ref (1000 + h.length) :: st) (h ++ [(t, (ex.map fun q => q.2).map ck_d0)])
    | 11 => ∀ (L : List (Option Value)) (st : List Value) (h : List am_C) (q t : Nat) (vs : List Value), am_g G h q = some (t, vs) → Iv pc L (.ref q :: st) h → Iv nx L (.int (Int32.ofNat vs.length) :: st) h
    | 12 => ∀ (L : List (Option Value)) (st : List Value) (h : List am_C) (q t : Nat) (x : Int32) (vs : List Value) (v : Value), am_g G h q = some (t, vs) → vs[x.toInt.toNat]? = some v → Iv pc L (.int x :: .ref q :: st) h → Iv nx L (v :: st) h
    | 14 => True
    | 16 => ∀ (a : List Value) (L : List (Option Value)) (st : List Value) (h : List am_C) (mc ms : Nat) (P : am_O → List am_C → Prop), cm' f a h mc ms P → Iv pc L (a.reverse ++ st) h → ∃ P' : am_O → List am_C → Prop, cm f a h mc ms P' ∧ (∀ (v : Option Value) (h' : List am_C), P' (.inl v) h' → P (.inl v) h' ∧ Iv nx L (v.toList ++ st) h') ∧ ∀ (E : String) (h' : List am_C), P' (.inr E) h' → P (.inr E) h'
    | _ => False
set_option maxHeartbeats 1000000 in
theorem cn_lift {G : am_G} {Iv : Nat → List (Option Value) → List Value → List am_C → Prop} {S : ck_SS} {SX : Nat → ck_SX} {P : am_O → List am_C → Prop} {Rc Rs : Nat} {cm cm' : Nat → ck_CM} {E : ck_E} {pc : Nat} {o : ck_O} (h : ck_os G S SX P Rc Rs cm E pc o) (w : cn_st G Iv cm cm' pc o) : ck_os G (cn_S Iv S) SX P Rc Rs cm' E pc o := by
  obtain ⟨c, f, f2, v, nx, tg, ex⟩ := o
  obtain ⟨T, pr, own, nL, code, cl, hds, gh, cuts⟩ := E
  unfold cn_st at w
  unfold ck_os at h ⊢
  dsimp only at h w ⊢
  split at w
  · exact fun L st L' st' h' k n e hk hl => h L st L' st' h' k n e (hk (w _ _ _ _ _ e hl))
  · exact fun L x y st h' k n a b hl => h L x y st h' k n (fun z => a z (w _ _ _ _ _ hl).1) (fun z => b z (w _ _ _ _ _ hl).2)
  · exact fun L st h' k n a hl => h L st h' k n (a (w _ _ _ hl))
  · exact fun L x st h' k n a b hl => h L x st h' k n (fun e he z => a e he z ((w _ _ _ _ hl).1 e he z)) (fun z => b z (w _ _ _ _ hl).2)
  · exact fun t L st h' k n e1 e2 e3 a hl => h t L st h' k n e1 e2 e3 (a (w _ _ _ _ e1 hl))
  · exact fun L st h' k n q t vs e1 e2 e3 a hl => h L st h' k n q t vs e1 e2 e3 (a (w _ _ _ _ _ _ e1 hl))
  · exact fun L st h' k n q t x vs v e1 e2 e3 e4 a hl => h L st h' k n q t x vs v e1 e2 e3 e4 (a (w _ _ _ _ _ _ _ _ e1 e4 hl))
  · exact fun L v h' k n e1 e2 e3 e4 _ => h L v h' k n e1 e2 e3 e4
  · have h_ : (match cl[f]? with
      | some (rc, na, _) => ck_sQ G S (SX pc) Rc Rs nL pc nx rc (cm f) na
      | none => True) := h
    show (match cl[f]? with
      | some (rc, na, _) => ck_sQ G (cn_S Iv S) (SX pc) Rc Rs nL pc nx rc (cm' f) na
      | none => True)
    cases hcl_ : cl[f]? with
    | none => trivial
    | some y_ =>
      obtain ⟨rc_, na_, cs_⟩ := y_
      rw [hcl_] at h_
      have h2_ : ck_sQ G S (SX pc) Rc Rs nL pc nx rc_ (cm f) na_ := h_
      show ck_sQ G (cn_S Iv S) (SX pc) Rc Rs nL pc nx rc_ (cm' f) na_
      intro a L st h' k n mc ms P' hCM e1 e2 e3 e4 e5 e6 kr kx hl
      obtain ⟨P2_, c1_, c2_, c3_⟩ := w a L st h' mc ms P' hCM hl
      exact h2_ a L st h' k n mc ms P2_ c1_ e1 e2 e3 e4 e5 e6 (fun v h2 hp => kr v h2 (c2_ v h2 hp).1 (c2_ v h2 hp).2) (fun Ex h2 hp => kx Ex h2 (c3_ Ex h2 hp))
  · exact w.elim
/-- the comparison of two numbers that are one -/
theorem cn_lift2 {G : am_G} {Iv : Nat → List (Option Value) → List Value → List am_C → Prop} {S : ck_SS} {pc nx tg tg2 : Nat} (h : ck_sC S pc nx 0 tg) (w : ∀ (L : List (Option Value)) (x y : Int32) (st : List Value) (hh : List am_C), Iv pc L (.int y :: .int x :: st) hh → x = y ∧ Iv tg L st hh) : ck_sC (cn_S Iv S) pc tg tg2 tg := by
  intro L x y st h' k n a b hl
  obtain ⟨e_, w_⟩ := w L x y st h' hl
  by_cases c_ : ck_cv tg2 (x.toInt - y.toInt)
  · exact h L x y st h' k n (fun _ => a c_ w_) (fun z => absurd (show ck_cv 0 (x.toInt - y.toInt) from by rw [e_]; show y.toInt - y.toInt = 0; omega) z)
  · exact h L x y st h' k n (fun _ => b c_ w_) (fun z => absurd (show ck_cv 0 (x.toInt - y.toInt) from by rw [e_]; show y.toInt - y.toInt = 0; omega) z)
end
section
/-! WHAT IS KNOWN OF BOTH SIDES, THE TYPES ASIDE -/
def zv_k (G : am_G) (h : List am_C) (x m out : Nat) (r : Nat → Nat) (T Tm : sp_T) : Prop :=
  zb_l G h ∧ ((∃ v, am_g G h x = some (1015, v)) ∧ (∃ v, am_g G h m = some (1019, v)) ∧ ∃ v, am_g G h out = some (1016, v)) ∧ (1000 ≤ out ∧ sp_ok Tm.1 ∧ Tm.2.1.length ≤ 12) ∧
  ∃ h2 : List am_C, zb_eq G h h2 ∧ zc_Y G h2 x r T ∧ (∃ th : Int, zm_Y G h2 m th Tm) ∧ ∃ (n0 : Int64) (s0 : Value), am_g G h2 out = some (1016, [.long n0, s0])
theorem zv_s.k {G : am_G} {K : Int32} {h : List am_C} {x m out : Nat} {r : Nat → Nat} {T Tm : sp_T} (a : zv_s G K h x m out r T Tm) : zv_k G h x m out r T Tm := a.2
theorem zv_k.s {G : am_G} {K : Int32} {h : List am_C} {x m out : Nat} {r : Nat → Nat} {T Tm : sp_T} (a : zv_k G h x m out r T Tm) (hT : ck_HT li_X gT K (am_g G h)) : zv_s G K h x m out r T Tm := ⟨hT, a⟩
/-- a raw cell gets a kind -/
theorem zb_eq.rt {G : am_G} {h : List am_C} {q t t' : Nat} {vs : List Value} (hg : am_g G h q = some (t, vs)) (hq : 1000 ≤ q) (ht : t' % 100 = t % 100) : zb_eq G h (am_s h q (t', vs)) ∧ ∀ h2, zb_eq G h h2 → zb_eq G (am_s h q (t', vs)) h2 := by
  have hl_ := am_g_lt hq hg
  have hg_ : h[q - 1000]? = some (t, vs) := by
    unfold am_g at hg
    rw [if_neg (by omega)] at hg
    exact hg
  refine ⟨⟨am_s_len _ _ _, fun i c d h1 hd => ?_⟩, fun h2 e => ⟨e.1.trans (am_s_len _ _ _).symm, fun i c d h1 hd => ?_⟩⟩
  · by_cases c_ : i = q - 1000
    · rw [c_] at h1 hd
      unfold am_s at hd
      rw [List.getElem?_set_self hl_] at hd
      rw [hg_] at h1
      cases h1
      cases hd
      exact ⟨ht, rfl, fun j v w hv hw => by
        rw [hv] at hw
        cases hw
        rfl⟩
    · unfold am_s at hd
      rw [List.getElem?_set_ne (fun y_ => c_ y_.symm), h1] at hd
      cases hd
      exact zb_c.rf
  · by_cases c_ : i = q - 1000
    · rw [c_] at h1 hd
      unfold am_s at h1
      rw [List.getElem?_set_self hl_] at h1
      cases h1
      obtain ⟨z1_, z2_, z3_⟩ := e.2 _ _ _ hg_ hd
      exact ⟨z1_.trans ht.symm, z2_, z3_⟩
    · unfold am_s at h1
      rw [List.getElem?_set_ne (fun y_ => c_ y_.symm)] at h1
      exact e.2 i c d h1 hd
theorem zb_l.eq {G : am_G} {h h2 : List am_C} (L : zb_l G h) (e : zb_eq G h h2) : zb_l G h2 := by
  obtain ⟨H_, a_, b_⟩ := L
  exact ⟨H_, e.H a_, b_⟩
theorem zt_rt {G : am_G} {h : List am_C} {q t t' : Nat} {vs : List Value} (hg : am_g G h q = some (t, vs)) (hq : 1000 ≤ q) (h1 : t < 1000) {p s : Nat} {v : List Value} (hp : am_g G h p = some (s, v)) (hs : 1000 ≤ s) : am_g G (am_s h q (t', vs)) p = some (s, v) := by
  rw [am_g_s hq (am_g_lt hq hg), if_neg (fun y_ => ?_)]
  · exact hp
  · rw [y_, hg] at hp
    cases hp
    omega
theorem zv_k.rt {G : am_G} {h : List am_C} {x m out : Nat} {r : Nat → Nat} {T Tm : sp_T} (a : zv_k G h x m out r T Tm) {q t t' : Nat} {vs : List Value} (hg : am_g G h q = some (t, vs)) (hq : 1000 ≤ q) (h1 : t < 1000) (ht : t' % 100 = t % 100) : zv_k G (am_s h q (t', vs)) x m out r T Tm := by
  obtain ⟨L_, ⟨⟨vx_, kx_⟩, ⟨vm_, km_⟩, ⟨vo_, ko_⟩⟩, b_, h2_, e_, c_⟩ := a
  obtain ⟨z1_, z2_⟩ := zb_eq.rt hg hq ht
  exact ⟨L_.eq z1_, ⟨⟨_, zt_rt hg hq h1 kx_ (by decide)⟩, ⟨_, zt_rt hg hq h1 km_ (by decide)⟩, ⟨_, zt_rt hg hq h1 ko_ (by decide)⟩⟩, b_, h2_, z2_ _ e_, c_⟩
end
section
/-! CONTRACTS THAT CARRY BOTH SIDES ON -/
def cv_ask (G : am_G) (CM : ck_CM) : ck_CM := fun a h mc ms P => ∀ (x m out : Nat) (r : Nat → Nat) (T Tm : sp_T), zv_k G h x m out r T Tm → CM a h mc ms (fun o h' => P o h' ∧ zv_k G h' x m out r T Tm)
def cv_cls (G : am_G) (D : Int → Int → sp_T → Int → Int → sp_T → Prop) (na : Nat) (CM : ck_CM) : ck_CM := fun a h mc ms P => ∀ (x m out : Nat) (r : Nat → Nat) (T : sp_T) (i1 i2 : Int32), zv_k G h x m out r T T → a = .ref x :: (([.int i1, .int i2] : List Value).take na ++ [.ref out]) → CM a h mc ms (fun o h' => P o h' ∧ ∃ (v th : Int) (T' : sp_T), D i1.toInt i2.toInt T v th T' ∧ zv_k G h' x m out r T' T)
def cv_ref (G : am_G) (D : Int → Int → sp_T → Int → Int → sp_T → Prop) (na : Nat) (CM : ck_CM) : ck_CM := fun a h mc ms P => ∀ (x m out : Nat) (r : Nat → Nat) (T T' : sp_T) (i1 i2 : Int32), zv_k G h x m out r T' T → (∃ v th : Int, D i1.toInt i2.toInt T v th T') → a = .ref m :: ([.int i1, .int i2] : List Value).take na → CM a h mc ms (fun o h' => P o h' ∧ zv_k G h' x m out r T' T')
theorem cv_rq {s : List Nat} : ck_rq [] s = [] := by cases s <;> rfl
section CVC
variable {l : Launch} {G : am_G} {y : MethodName} {cw : Cond} {fr lo : Nat} {c : ck_KK}
theorem cv_kp {X : ck_XT} {T : ck_TT} {K : Int32} {r : List Int} {s : List Nat} {h k : List am_C} {o : am_O} (hr : c.2.2.2.1 = []) (p : ck_Po G X T K c r s h o k) : ck_Kp c.2.2.1 [] (am_g G h) (am_g G k) := by
  have z_ := p.2.1
  rw [hr, cv_rq] at z_
  exact z_
theorem cv_ask_ok (hc : ck_Con (am_cm l G y cw fr lo) G li_X gT c) (hm : zv_m c.2.2.1 = true) (hr : c.2.2.2.1 = []) : ck_Con (cv_ask G (am_cm l G y cw fr lo)) G li_X gT c := by
  intro K r s a h hH hV hC hF hn hS mc ms hmc hms x m out rr T Tm I
  have t1_ := hc K r s a h hH hV hC hF hn hS mc ms hmc hms
  exact am_M.mono (zv_ask (I.s hH) t1_ (fun o k p => ⟨p.1, _, cv_kp hr p, hm⟩)) fun o k hq => ⟨hq.1, hq.2.k⟩
theorem cv_cls_ok {D : Int → Int → sp_T → Int → Int → sp_T → Prop} {na : Nat} (hc : ck_Con (am_cm l G y cw fr lo) G li_X gT c) (hr : c.2.2.2.1 = []) {C S : Nat} (hC1 : c.2.1.1 = ck_k C) (hC2 : c.2.1.2 = ck_k S)
    (ex : ∀ (x out : Nat) (r : Nat → Nat) (T : sp_T) (i1 i2 : Int32) (h2 : List am_C) (R : Nat → sp_S) (old cnt : Nat) (n0 : Int64) (s0 : Value), zc_x G h2 x r T.2.2.1 T.2.2.2.1 T.2.2.2.2 T.1 R old cnt → T.2.1 = zc_l R old cnt → am_g G h2 out = some (1016, [.long n0, s0]) → (out < x ∨ x + 228 ≤ out) → out ≠ r 4 → 1000 ≤ out → am_M l G y cw fr lo C S (.ref x :: (([.int i1, .int i2] : List Value).take na ++ [.ref out])) h2 (fun o k2 => ∃ (v th : Int) (T' : sp_T), D i1.toInt i2.toInt T v th T' ∧ zc_of G h2 k2 x r out ∧ zc_Y G k2 x r T' ∧ (th = 0 → am_g G k2 out = some (1016, [.long (Int64.ofInt v), s0])) ∧ o = .inl (some (.int (Int32.ofInt th))))) :
    ck_Con (cv_cls G D na (am_cm l G y cw fr lo)) G li_X gT c := by
  intro K r s a h hH hV hC hF hn hS mc ms hmc hms x m out rr T i1 i2 I ha
  have t1_ := hc K r s a h hH hV hC hF hn hS mc ms hmc hms
  rw [hC1] at hmc
  rw [hC2] at hms
  have f1_ := ck_Lv.fn hmc (ck_Lv.k r _)
  have e1_ : mc = C := by omega
  have f2_ := ck_Lv.fn hms (ck_Lv.k r _)
  have e2_ : ms = S := by omega
  subst e1_
  subst e2_
  subst ha
  exact am_M.mono (zv_class (I.s hH) t1_ (fun o k p => ⟨p.1, _, cv_kp hr p⟩) (fun h2 R old cnt n0 s0 => ex x out rr T i1 i2 h2 R old cnt n0 s0)) fun o k hq => by
    obtain ⟨p_, v_, th_, T2_, d_, z_, -⟩ := hq
    exact ⟨p_, v_, th_, T2_, d_, z_.k⟩
theorem cv_ref_ok {D : Int → Int → sp_T → Int → Int → sp_T → Prop} {na : Nat} (hc : ck_Con (am_cm l G y cw fr lo) G li_X gT c) (hr : c.2.2.2.1 = []) {C S : Nat} (hC1 : c.2.1.1 = ck_k C) (hC2 : c.2.1.2 = ck_k S)
    (fn : ∀ {e e2 a th a2 th2 : Int} {T T' T2 : sp_T}, D e e2 T a th T' → D e e2 T a2 th2 T2 → sp_al a th T' a2 th2 T2)
    (ex : ∀ (m : Nat) (T : sp_T) (i1 i2 : Int32) (h2 : List am_C) (o : Nat → Nat) (tx now qw : Nat) (th : Int), zm_x G h2 o m tx now qw th T.2.2.1 T.2.2.2.1 T.2.2.2.2 T.1 T.2.1 → sp_ok T.1 → T.2.1.length ≤ 12 → am_M l G y cw fr lo C S (.ref m :: ([.int i1, .int i2] : List Value).take na) h2 (fun o k2 => ∃ (v th : Int) (T' : sp_T), D i1.toInt i2.toInt T v th T' ∧ zm_fr G h2 k2 ∧ zm_Y G k2 m th T' ∧ o = .inl (some (.int (Int32.ofInt v))))) :
    ck_Con (cv_ref G D na (am_cm l G y cw fr lo)) G li_X gT c := by
  intro K r s a h hH hV hC hF hn hS mc ms hmc hms x m out rr T T' i1 i2 I hd ha
  have t1_ := hc K r s a h hH hV hC hF hn hS mc ms hmc hms
  rw [hC1] at hmc
  rw [hC2] at hms
  have f1_ := ck_Lv.fn hmc (ck_Lv.k r _)
  have e1_ : mc = C := by omega
  have f2_ := ck_Lv.fn hms (ck_Lv.k r _)
  have e2_ : ms = S := by omega
  subst e1_
  subst e2_
  subst ha
  have I_ := I.s hH
  refine am_M.mono (zv_ref I_ t1_ (fun o k p => ⟨p.1, _, cv_kp hr p⟩) (fun h2 o tx now qw th => ex m T i1 i2 h2 o tx now qw th)) fun o k hq => ?_
  obtain ⟨p_, v2_, th2_, T2_, d2_, -, z_⟩ := hq
  obtain ⟨v_, th_, d_⟩ := hd
  have al_ := fn d_ d2_
  have eT_ : T' = T2_ := al_.2.1
  rw [← eT_] at z_
  exact ⟨p_, (z_ I_.ok).k⟩
end CVC
end
section
/-! CALLS THAT THROW NOTHING; KNOCK AND SIZE OF THE CLASS -/
section CVN
variable {l : Launch} {G : am_G} {y : MethodName} {cw : Cond} {fr lo : Nat} {c : ck_KK}
theorem cv_ask_n (hc : ck_Con (cv_ask G (am_cm l G y cw fr lo)) G li_X gT c) (hx : c.2.2.2.2.2 = []) : ck_Con (cv_ask G (am_cn l G y cw fr lo)) G li_X gT c := by
  intro K r s a h h1 h2 h3 h4 h5 h6 mc ms h7 h8 x m out rr T Tm I
  refine ⟨hc K r s a h h1 h2 h3 h4 h5 h6 mc ms h7 h8 x m out rr T Tm I, fun E h' hp => ?_⟩
  have z_ : E ∈ c.2.2.2.2.2 := hp.1.2.2.2
  rw [hx] at z_
  cases z_
theorem cv_cls_n {D : Int → Int → sp_T → Int → Int → sp_T → Prop} {na : Nat} (hc : ck_Con (cv_cls G D na (am_cm l G y cw fr lo)) G li_X gT c) (hx : c.2.2.2.2.2 = []) : ck_Con (cv_cls G D na (am_cn l G y cw fr lo)) G li_X gT c := by
  intro K r s a h h1 h2 h3 h4 h5 h6 mc ms h7 h8 x m out rr T i1 i2 I ha
  refine ⟨hc K r s a h h1 h2 h3 h4 h5 h6 mc ms h7 h8 x m out rr T i1 i2 I ha, fun E h' hp => ?_⟩
  have z_ : E ∈ c.2.2.2.2.2 := hp.1.2.2.2
  rw [hx] at z_
  cases z_
theorem cv_ref_n {D : Int → Int → sp_T → Int → Int → sp_T → Prop} {na : Nat} (hc : ck_Con (cv_ref G D na (am_cm l G y cw fr lo)) G li_X gT c) (hx : c.2.2.2.2.2 = []) : ck_Con (cv_ref G D na (am_cn l G y cw fr lo)) G li_X gT c := by
  intro K r s a h h1 h2 h3 h4 h5 h6 mc ms h7 h8 x m out rr T T' i1 i2 I hd ha
  refine ⟨hc K r s a h h1 h2 h3 h4 h5 h6 mc ms h7 h8 x m out rr T T' i1 i2 I hd ha, fun E h' hp => ?_⟩
  have z_ : E ∈ c.2.2.2.2.2 := hp.1.2.2.2
  rw [hx] at z_
  cases z_
end CVN
section ZVK
variable {l : Launch} {G : am_G} {K : Int32} {y : MethodName} {cw : Cond} {fr lo mc ms : Nat} {a : List Value} {h : List am_C} {x m out : Nat} {r : Nat → Nat} {T Tm : sp_T} {P1 : am_O → List am_C → Prop} {D : Int → Int → sp_T → Prop}
/-- a changing call of the class that tells nothing in the cell behind -/
theorem zv_class0 (I : zv_s G K h x m out r T Tm) (t1 : am_M l G y cw fr lo mc ms a h P1) (hP1 : ∀ o k, P1 o k → ck_HT li_X gT K (am_g G k) ∧ ∃ M, ck_Kp M [] (am_g G h) (am_g G k))
    (t2 : ∀ (h2 : List am_C) (R : Nat → sp_S) (old cnt : Nat), zc_x G h2 x r T.2.2.1 T.2.2.2.1 T.2.2.2.2 T.1 R old cnt → T.2.1 = zc_l R old cnt → am_M l G y cw fr lo mc ms a h2 (fun o k2 => ∃ (v th : Int) (T' : sp_T), D v th T' ∧ zc_of G h2 k2 x r out ∧ zc_Y G k2 x r T' ∧ o = .inl (some (.int (Int32.ofInt v))))) :
    am_M l G y cw fr lo mc ms a h (fun o k => P1 o k ∧ ∃ (v th : Int) (T' : sp_T), D v th T' ∧ zv_s G K k x m out r T' Tm ∧ o = .inl (some (.int (Int32.ofInt v)))) := by
  obtain ⟨hT_, L_, ⟨⟨vx_, kx_⟩, ⟨vm_, km_⟩, ⟨vo_, ko_⟩⟩, ⟨o0_, ok_, l12_⟩, h2_, e_, ⟨R_, old_, cnt_, xx_, xl_⟩, ⟨th_, ow_, tx_, now_, qw_, mm_⟩, n0_, s0_, g0_⟩ := I
  refine (zb_join e_ t1 (t2 h2_ R_ old_ cnt_ xx_ xl_)).mono fun o k hq => ?_
  obtain ⟨p1_, o2_, k2_, ⟨a_, th2_, T2_, d_, of_, ⟨R2_, old2_, cnt2_, xx2_, xl2_⟩, eo_⟩, zo_, er_⟩ := hq
  obtain ⟨hTk_, M_, kp_⟩ := hP1 o k p1_
  obtain ⟨vx2_, kx2_, -⟩ := zt_kp kp_ kx_
  obtain ⟨vm2_, km2_, -⟩ := zt_kp kp_ km_
  obtain ⟨vo2_, ko2_, -⟩ := zt_kp kp_ ko_
  obtain ⟨n2_, s2_, e2_⟩ := zv_out hTk_ ko2_
  rw [e2_] at ko2_
  have mk2_ := zm_x.cl e_.ti L_ hT_ xx_ kx_ ko_ of_ mm_ km_
  have sh_ : zb_sh G zt_A k k2_ (zb_mg zt_A k k2_) := zb_mg.sh
  refine ⟨p1_, a_, th2_, T2_, d_, ⟨hTk_, er_.l, ⟨⟨_, kx2_⟩, ⟨_, km2_⟩, ⟨_, ko2_⟩⟩, ⟨o0_, ok_, l12_⟩, zb_mg zt_A k k2_, zb_mg.eq er_ zt_A62, ⟨R2_, old2_, cnt2_, xx2_.mg er_.ti hTk_ (sh_.le zt_BA) kx2_, xl2_⟩, ⟨th_, ow_, tx_, now_, qw_, mk2_.mg er_.ti er_.l hTk_ (sh_.le zt_NA) km2_⟩, n2_, s2_, zb_mg.ty er_.len ko2_ rfl⟩, ?_⟩
  rw [eo_] at zo_
  exact zv_oi zo_
end ZVK
def cv_cls0 (G : am_G) (D : Int → Int → sp_T → Int → Int → sp_T → Prop) (CM : ck_CM) : ck_CM := fun a h mc ms P => ∀ (x m out : Nat) (r : Nat → Nat) (T : sp_T) (i1 i2 : Int32), zv_k G h x m out r T T → a = [.ref x] → CM a h mc ms (fun o h' => P o h' ∧ ∃ (v th : Int) (T' : sp_T), D i1.toInt i2.toInt T v th T' ∧ zv_k G h' x m out r T' T ∧ o = .inl (some (.int (Int32.ofInt v))))
def cv_ref0 (G : am_G) (D : Int → Int → sp_T → Int → Int → sp_T → Prop) (CM : ck_CM) : ck_CM := fun a h mc ms P => ∀ (x m out : Nat) (r : Nat → Nat) (T T' : sp_T) (i1 i2 : Int32), zv_k G h x m out r T' T → (∃ v th : Int, D i1.toInt i2.toInt T v th T') → a = [.ref m] → CM a h mc ms (fun o h' => P o h' ∧ zv_k G h' x m out r T' T' ∧ ∃ v th : Int, D i1.toInt i2.toInt T v th T' ∧ o = .inl (some (.int (Int32.ofInt v))))
section CVK
variable {l : Launch} {G : am_G} {y : MethodName} {cw : Cond} {fr lo : Nat} {c : ck_KK} {D : Int → Int → sp_T → Int → Int → sp_T → Prop}
theorem cv_cls0_ok (hc : ck_Con (am_cm l G y cw fr lo) G li_X gT c) (hr : c.2.2.2.1 = [])
    (ex : ∀ (x out mc ms : Nat) (r : Nat → Nat) (T : sp_T) (i1 i2 : Int32) (h2 : List am_C) (R : Nat → sp_S) (old cnt : Nat), zc_x G h2 x r T.2.2.1 T.2.2.2.1 T.2.2.2.2 T.1 R old cnt → T.2.1 = zc_l R old cnt → am_M l G y cw fr lo mc ms [.ref x] h2 (fun o k2 => ∃ (v th : Int) (T' : sp_T), D i1.toInt i2.toInt T v th T' ∧ zc_of G h2 k2 x r out ∧ zc_Y G k2 x r T' ∧ o = .inl (some (.int (Int32.ofInt v))))) :
    ck_Con (cv_cls0 G D (am_cm l G y cw fr lo)) G li_X gT c := by
  intro K r s a h hH hV hC hF hn hS mc ms hmc hms x m out rr T i1 i2 I ha
  have t1_ := hc K r s a h hH hV hC hF hn hS mc ms hmc hms
  subst ha
  exact am_M.mono (zv_class0 (I.s hH) t1_ (fun o k p => ⟨p.1, _, cv_kp hr p⟩) (fun h2 R old cnt => ex x out mc ms rr T i1 i2 h2 R old cnt)) fun o k hq => by
    obtain ⟨p_, v_, th_, T2_, d_, z_, o_⟩ := hq
    exact ⟨p_, v_, th_, T2_, d_, z_.k, o_⟩
theorem cv_ref0_ok (hc : ck_Con (am_cm l G y cw fr lo) G li_X gT c) (hr : c.2.2.2.1 = [])
    (fn : ∀ {e e2 a th a2 th2 : Int} {T T' T2 : sp_T}, D e e2 T a th T' → D e e2 T a2 th2 T2 → sp_al a th T' a2 th2 T2)
    (ex : ∀ (m mc ms : Nat) (T : sp_T) (i1 i2 : Int32) (h2 : List am_C) (o : Nat → Nat) (tx now qw : Nat) (th : Int), zm_x G h2 o m tx now qw th T.2.2.1 T.2.2.2.1 T.2.2.2.2 T.1 T.2.1 → sp_ok T.1 → T.2.1.length ≤ 12 → am_M l G y cw fr lo mc ms [.ref m] h2 (fun o k2 => ∃ (v th : Int) (T' : sp_T), D i1.toInt i2.toInt T v th T' ∧ zm_fr G h2 k2 ∧ zm_Y G k2 m th T' ∧ o = .inl (some (.int (Int32.ofInt v))))) :
    ck_Con (cv_ref0 G D (am_cm l G y cw fr lo)) G li_X gT c := by
  intro K r s a h hH hV hC hF hn hS mc ms hmc hms x m out rr T T' i1 i2 I hd ha
  have t1_ := hc K r s a h hH hV hC hF hn hS mc ms hmc hms
  subst ha
  have I_ := I.s hH
  refine am_M.mono (zv_ref I_ t1_ (fun o k p => ⟨p.1, _, cv_kp hr p⟩) (fun h2 o tx now qw th => ex m mc ms T i1 i2 h2 o tx now qw th)) fun o k hq => ?_
  obtain ⟨p_, v2_, th2_, T2_, d2_, o_, z_⟩ := hq
  obtain ⟨v_, th_, d_⟩ := hd
  have al_ := fn d_ d2_
  have eT_ : T' = T2_ := al_.2.1
  rw [← eT_] at z_ d2_
  exact ⟨p_, (z_ I_.ok).k, v2_, th2_, d2_, o_⟩
end CVK
end
section
/-! THE CHANGING CALLS OF THE LAW -/
theorem cw_dial {l : Launch} {G : am_G} (g : gM l G li_X) : ck_Con (cv_cls G sp_d0 1 (am_cn l G yL_dial (.codeWith yL_dial method_2_code 4 (some .int) [(0, 10, 13, 19)]) 7 145)) G li_X gT gc_yL_dial_a :=
  cv_cls_n (cv_cls_ok (C := 1) (S := 6) (gm_yL_dial_a g.1) rfl rfl rfl (fun x out r T i1 i2 h2 R old cnt n0 s0 hx hp ho o1 o2 o3 => by
    obtain ⟨c_, P_, j_, m_, k_⟩ := T
    have hp_ : P_ = zc_l R old cnt := hp
    subst hp_
    have a_ : ([.ref x, .int i1, .ref out] : List Value) = [.ref x, .int (Int32.ofInt i1.toInt), .ref out] := by rw [Int32.ofInt_toInt]
    show am_M l G _ _ _ _ _ _ [.ref x, .int i1, .ref out] h2 _
    rw [a_]
    exact zc_wdial_M g hx ho o1 o2 o3 (e := i1.toInt) (e2 := i2.toInt) (li_i32 i1).1 (li_i32 i1).2 (by decide) (by decide) (fun a th T2 h3 d f Y z => ⟨a, th, T2, d, f, Y, z, rfl⟩))) rfl
theorem cw_set {l : Launch} {G : am_G} (g : gM l G li_X) : ck_Con (cv_cls G sp_d1 2 (am_cn l G yL_set (.codeWith yL_set method_3_code 5 (some .int) [(0, 11, 14, 25)]) 8 146)) G li_X gT gc_yL_set_a :=
  cv_cls_n (cv_cls_ok (C := 1) (S := 6) (gm_yL_set_a g.1) rfl rfl rfl (fun x out r T i1 i2 h2 R old cnt n0 s0 hx hp ho o1 o2 o3 => by
    obtain ⟨c_, P_, j_, m_, k_⟩ := T
    have hp_ : P_ = zc_l R old cnt := hp
    subst hp_
    have a_ : ([.ref x, .int i1, .int i2, .ref out] : List Value) = [.ref x, .int (Int32.ofInt i1.toInt), .int (Int32.ofInt i2.toInt), .ref out] := by rw [Int32.ofInt_toInt, Int32.ofInt_toInt]
    show am_M l G _ _ _ _ _ _ [.ref x, .int i1, .int i2, .ref out] h2 _
    rw [a_]
    exact zc_wset_M g hx ho o1 o2 o3 (e := i1.toInt) (e2 := i2.toInt) (li_i32 i1).1 (li_i32 i1).2 (li_i32 i2).1 (li_i32 i2).2 (by decide) (by decide) (fun a th T2 h3 d f Y z => ⟨a, th, T2, d, f, Y, z, rfl⟩))) rfl
theorem cw_lengthen {l : Launch} {G : am_G} (g : gM l G li_X) : ck_Con (cv_cls G sp_d2 2 (am_cn l G yL_lengthen (.codeWith yL_lengthen method_4_code 5 (some .int) [(0, 11, 14, 25), (0, 11, 18, 19), (0, 11, 22, 30)]) 8 168)) G li_X gT gc_yL_lengthen_a :=
  cv_cls_n (cv_cls_ok (C := 2) (S := 12) (gm_yL_lengthen_a g.1) rfl rfl rfl (fun x out r T i1 i2 h2 R old cnt n0 s0 hx hp ho o1 o2 o3 => by
    obtain ⟨c_, P_, j_, m_, k_⟩ := T
    have hp_ : P_ = zc_l R old cnt := hp
    subst hp_
    have a_ : ([.ref x, .int i1, .int i2, .ref out] : List Value) = [.ref x, .int (Int32.ofInt i1.toInt), .int (Int32.ofInt i2.toInt), .ref out] := by rw [Int32.ofInt_toInt, Int32.ofInt_toInt]
    show am_M l G _ _ _ _ _ _ [.ref x, .int i1, .int i2, .ref out] h2 _
    rw [a_]
    exact zc_wlengthen_M g hx ho o1 o2 o3 (e := i1.toInt) (e2 := i2.toInt) (li_i32 i1).1 (li_i32 i1).2 (li_i32 i2).1 (li_i32 i2).2 (by decide) (by decide) (fun a th T2 h3 d f Y z => ⟨a, th, T2, d, f, Y, z, rfl⟩))) rfl
theorem cw_plus {l : Launch} {G : am_G} (g : gM l G li_X) : ck_Con (cv_cls G sp_d3 2 (am_cn l G yL_plus (.codeWith yL_plus method_5_code 5 (some .int) [(0, 11, 14, 25), (0, 11, 18, 30)]) 8 169)) G li_X gT gc_yL_plus_a :=
  cv_cls_n (cv_cls_ok (C := 3) (S := 18) (gm_yL_plus_a g.1) rfl rfl rfl (fun x out r T i1 i2 h2 R old cnt n0 s0 hx hp ho o1 o2 o3 => by
    obtain ⟨c_, P_, j_, m_, k_⟩ := T
    have hp_ : P_ = zc_l R old cnt := hp
    subst hp_
    have a_ : ([.ref x, .int i1, .int i2, .ref out] : List Value) = [.ref x, .int (Int32.ofInt i1.toInt), .int (Int32.ofInt i2.toInt), .ref out] := by rw [Int32.ofInt_toInt, Int32.ofInt_toInt]
    show am_M l G _ _ _ _ _ _ [.ref x, .int i1, .int i2, .ref out] h2 _
    rw [a_]
    exact zc_wplus_M g hx ho o1 o2 o3 (e := i1.toInt) (e2 := i2.toInt) (li_i32 i1).1 (li_i32 i1).2 (li_i32 i2).1 (li_i32 i2).2 (by decide) (by decide) (fun a th T2 h3 d f Y z => ⟨a, th, T2, d, f, Y, z, rfl⟩))) rfl
theorem cw_times {l : Launch} {G : am_G} (g : gM l G li_X) : ck_Con (cv_cls G sp_d4 2 (am_cn l G yL_times (.codeWith yL_times method_6_code 5 (some .int) [(0, 11, 14, 25), (0, 11, 18, 30)]) 8 169)) G li_X gT gc_yL_times_a :=
  cv_cls_n (cv_cls_ok (C := 3) (S := 18) (gm_yL_times_a g.1) rfl rfl rfl (fun x out r T i1 i2 h2 R old cnt n0 s0 hx hp ho o1 o2 o3 => by
    obtain ⟨c_, P_, j_, m_, k_⟩ := T
    have hp_ : P_ = zc_l R old cnt := hp
    subst hp_
    have a_ : ([.ref x, .int i1, .int i2, .ref out] : List Value) = [.ref x, .int (Int32.ofInt i1.toInt), .int (Int32.ofInt i2.toInt), .ref out] := by rw [Int32.ofInt_toInt, Int32.ofInt_toInt]
    show am_M l G _ _ _ _ _ _ [.ref x, .int i1, .int i2, .ref out] h2 _
    rw [a_]
    exact zc_wtimes_M g hx ho o1 o2 o3 (e := i1.toInt) (e2 := i2.toInt) (li_i32 i1).1 (li_i32 i1).2 (li_i32 i2).1 (li_i32 i2).2 (by decide) (by decide) (fun a th T2 h3 d f Y z => ⟨a, th, T2, d, f, Y, z, rfl⟩))) rfl
theorem cw_negate {l : Launch} {G : am_G} (g : gM l G li_X) : ck_Con (cv_cls G sp_d5 1 (am_cn l G yL_negate (.codeWith yL_negate method_7_code 4 (some .int) [(0, 10, 13, 25)]) 8 145)) G li_X gT gc_yL_negate_a :=
  cv_cls_n (cv_cls_ok (C := 1) (S := 6) (gm_yL_negate_a g.1) rfl rfl rfl (fun x out r T i1 i2 h2 R old cnt n0 s0 hx hp ho o1 o2 o3 => by
    obtain ⟨c_, P_, j_, m_, k_⟩ := T
    have hp_ : P_ = zc_l R old cnt := hp
    subst hp_
    have a_ : ([.ref x, .int i1, .ref out] : List Value) = [.ref x, .int (Int32.ofInt i1.toInt), .ref out] := by rw [Int32.ofInt_toInt]
    show am_M l G _ _ _ _ _ _ [.ref x, .int i1, .ref out] h2 _
    rw [a_]
    exact zc_wnegate_M g hx ho o1 o2 o3 (e := i1.toInt) (e2 := i2.toInt) (li_i32 i1).1 (li_i32 i1).2 (by decide) (by decide) (fun a th T2 h3 d f Y z => ⟨a, th, T2, d, f, Y, z, rfl⟩))) rfl
theorem cw_reduce {l : Launch} {G : am_G} (g : gM l G li_X) : ck_Con (cv_cls G sp_d6 1 (am_cn l G yL_reduce (.codeWith yL_reduce method_8_code 4 (some .int) [(0, 10, 13, 25)]) 9 166)) G li_X gT gc_yL_reduce_a :=
  cv_cls_n (cv_cls_ok (C := 2) (S := 12) (gm_yL_reduce_a g.1) rfl rfl rfl (fun x out r T i1 i2 h2 R old cnt n0 s0 hx hp ho o1 o2 o3 => by
    obtain ⟨c_, P_, j_, m_, k_⟩ := T
    have hp_ : P_ = zc_l R old cnt := hp
    subst hp_
    have a_ : ([.ref x, .int i1, .ref out] : List Value) = [.ref x, .int (Int32.ofInt i1.toInt), .ref out] := by rw [Int32.ofInt_toInt]
    show am_M l G _ _ _ _ _ _ [.ref x, .int i1, .ref out] h2 _
    rw [a_]
    exact zc_wreduce_M g hx ho o1 o2 o3 (e := i1.toInt) (e2 := i2.toInt) (li_i32 i1).1 (li_i32 i1).2 (by decide) (by decide) (fun a th T2 h3 d f Y z => ⟨a, th, T2, d, f, Y, z, rfl⟩))) rfl
theorem cw_roundPlus {l : Launch} {G : am_G} (g : gM l G li_X) : ck_Con (cv_cls G sp_d7 2 (am_cn l G yL_roundPlus (.codeWith yL_roundPlus method_9_code 5 (some .int) [(0, 11, 14, 25)]) 8 170)) G li_X gT gc_yL_roundPlus_a :=
  cv_cls_n (cv_cls_ok (C := 2) (S := 12) (gm_yL_roundPlus_a g.1) rfl rfl rfl (fun x out r T i1 i2 h2 R old cnt n0 s0 hx hp ho o1 o2 o3 => by
    obtain ⟨c_, P_, j_, m_, k_⟩ := T
    have hp_ : P_ = zc_l R old cnt := hp
    subst hp_
    have a_ : ([.ref x, .int i1, .int i2, .ref out] : List Value) = [.ref x, .int (Int32.ofInt i1.toInt), .int (Int32.ofInt i2.toInt), .ref out] := by rw [Int32.ofInt_toInt, Int32.ofInt_toInt]
    show am_M l G _ _ _ _ _ _ [.ref x, .int i1, .int i2, .ref out] h2 _
    rw [a_]
    exact zc_wroundPlus_M g hx ho o1 o2 o3 (e := i1.toInt) (e2 := i2.toInt) (li_i32 i1).1 (li_i32 i1).2 (li_i32 i2).1 (li_i32 i2).2 (by decide) (by decide) (fun a th T2 h3 d f Y z => ⟨a, th, T2, d, f, Y, z, rfl⟩))) rfl
theorem cw_roundTimes {l : Launch} {G : am_G} (g : gM l G li_X) : ck_Con (cv_cls G sp_d8 2 (am_cn l G yL_roundTimes (.codeWith yL_roundTimes method_10_code 5 (some .int) [(0, 11, 14, 25)]) 8 170)) G li_X gT gc_yL_roundTimes_a :=
  cv_cls_n (cv_cls_ok (C := 2) (S := 12) (gm_yL_roundTimes_a g.1) rfl rfl rfl (fun x out r T i1 i2 h2 R old cnt n0 s0 hx hp ho o1 o2 o3 => by
    obtain ⟨c_, P_, j_, m_, k_⟩ := T
    have hp_ : P_ = zc_l R old cnt := hp
    subst hp_
    have a_ : ([.ref x, .int i1, .int i2, .ref out] : List Value) = [.ref x, .int (Int32.ofInt i1.toInt), .int (Int32.ofInt i2.toInt), .ref out] := by rw [Int32.ofInt_toInt, Int32.ofInt_toInt]
    show am_M l G _ _ _ _ _ _ [.ref x, .int i1, .int i2, .ref out] h2 _
    rw [a_]
    exact zc_wroundTimes_M g hx ho o1 o2 o3 (e := i1.toInt) (e2 := i2.toInt) (li_i32 i1).1 (li_i32 i1).2 (li_i32 i2).1 (li_i32 i2).2 (by decide) (by decide) (fun a th T2 h3 d f Y z => ⟨a, th, T2, d, f, Y, z, rfl⟩))) rfl
theorem cw_roundPower {l : Launch} {G : am_G} (g : gM l G li_X) : ck_Con (cv_cls G sp_d9 2 (am_cn l G yL_roundPower (.codeWith yL_roundPower method_11_code 5 (some .int) [(0, 11, 14, 25)]) 9 167)) G li_X gT gc_yL_roundPower_a :=
  cv_cls_n (cv_cls_ok (C := 3) (S := 18) (gm_yL_roundPower_a g.1) rfl rfl rfl (fun x out r T i1 i2 h2 R old cnt n0 s0 hx hp ho o1 o2 o3 => by
    obtain ⟨c_, P_, j_, m_, k_⟩ := T
    have hp_ : P_ = zc_l R old cnt := hp
    subst hp_
    have a_ : ([.ref x, .int i1, .int i2, .ref out] : List Value) = [.ref x, .int (Int32.ofInt i1.toInt), .int (Int32.ofInt i2.toInt), .ref out] := by rw [Int32.ofInt_toInt, Int32.ofInt_toInt]
    show am_M l G _ _ _ _ _ _ [.ref x, .int i1, .int i2, .ref out] h2 _
    rw [a_]
    exact zc_wroundPower_M g hx ho o1 o2 o3 (e := i1.toInt) (e2 := i2.toInt) (li_i32 i1).1 (li_i32 i1).2 (li_i32 i2).1 (li_i32 i2).2 (by decide) (by decide) (fun a th T2 h3 d f Y z => ⟨a, th, T2, d, f, Y, z, rfl⟩))) rfl
theorem cw_roundInverse {l : Launch} {G : am_G} (g : gM l G li_X) : ck_Con (cv_cls G sp_d10 1 (am_cn l G yL_roundInverse (.codeWith yL_roundInverse method_12_code 4 (some .int) [(0, 10, 13, 25)]) 9 166)) G li_X gT gc_yL_roundInverse_a :=
  cv_cls_n (cv_cls_ok (C := 2) (S := 12) (gm_yL_roundInverse_a g.1) rfl rfl rfl (fun x out r T i1 i2 h2 R old cnt n0 s0 hx hp ho o1 o2 o3 => by
    obtain ⟨c_, P_, j_, m_, k_⟩ := T
    have hp_ : P_ = zc_l R old cnt := hp
    subst hp_
    have a_ : ([.ref x, .int i1, .ref out] : List Value) = [.ref x, .int (Int32.ofInt i1.toInt), .ref out] := by rw [Int32.ofInt_toInt]
    show am_M l G _ _ _ _ _ _ [.ref x, .int i1, .ref out] h2 _
    rw [a_]
    exact zc_wroundInverse_M g hx ho o1 o2 o3 (e := i1.toInt) (e2 := i2.toInt) (li_i32 i1).1 (li_i32 i1).2 (by decide) (by decide) (fun a th T2 h3 d f Y z => ⟨a, th, T2, d, f, Y, z, rfl⟩))) rfl
theorem cw_tell {l : Launch} {G : am_G} (g : gM l G li_X) : ck_Con (cv_cls G sp_d11 2 (am_cn l G yL_tell (.codeWith yL_tell method_13_code 5 (some .int) [(0, 11, 14, 19), (0, 11, 18, 30)]) 8 167)) G li_X gT gc_yL_tell_a :=
  cv_cls_n (cv_cls_ok (C := 2) (S := 12) (gm_yL_tell_a g.1) rfl rfl rfl (fun x out r T i1 i2 h2 R old cnt n0 s0 hx hp ho o1 o2 o3 => by
    obtain ⟨c_, P_, j_, m_, k_⟩ := T
    have hp_ : P_ = zc_l R old cnt := hp
    subst hp_
    have a_ : ([.ref x, .int i1, .int i2, .ref out] : List Value) = [.ref x, .int (Int32.ofInt i1.toInt), .int (Int32.ofInt i2.toInt), .ref out] := by rw [Int32.ofInt_toInt, Int32.ofInt_toInt]
    show am_M l G _ _ _ _ _ _ [.ref x, .int i1, .int i2, .ref out] h2 _
    rw [a_]
    exact zc_wtell_M g hx ho o1 o2 o3 (e := i1.toInt) (e2 := i2.toInt) (li_i32 i1).1 (li_i32 i1).2 (li_i32 i2).1 (li_i32 i2).2 (by decide) (by decide) (fun a th T2 h3 d f Y z => ⟨a, th, T2, d, f, Y, z, rfl⟩))) rfl
theorem cw_tellIf {l : Launch} {G : am_G} (g : gM l G li_X) : ck_Con (cv_cls G sp_d12 2 (am_cn l G yL_tellIf (.codeWith yL_tellIf method_14_code 5 (some .int) [(0, 18, 21, 19), (0, 18, 25, 30)]) 8 167)) G li_X gT gc_yL_tellIf_a :=
  cv_cls_n (cv_cls_ok (C := 2) (S := 12) (gm_yL_tellIf_a g.1) rfl rfl rfl (fun x out r T i1 i2 h2 R old cnt n0 s0 hx hp ho o1 o2 o3 => by
    obtain ⟨c_, P_, j_, m_, k_⟩ := T
    have hp_ : P_ = zc_l R old cnt := hp
    subst hp_
    have a_ : ([.ref x, .int i1, .int i2, .ref out] : List Value) = [.ref x, .int (Int32.ofInt i1.toInt), .int (Int32.ofInt i2.toInt), .ref out] := by rw [Int32.ofInt_toInt, Int32.ofInt_toInt]
    show am_M l G _ _ _ _ _ _ [.ref x, .int i1, .int i2, .ref out] h2 _
    rw [a_]
    exact zc_wtellIf_M g hx ho o1 o2 o3 (e := i1.toInt) (e2 := i2.toInt) (li_i32 i1).1 (li_i32 i1).2 (li_i32 i2).1 (li_i32 i2).2 (by decide) (by decide) (fun a th T2 h3 d f Y z => ⟨a, th, T2, d, f, Y, z, rfl⟩))) rfl
theorem cw_drop {l : Launch} {G : am_G} (g : gM l G li_X) : ck_Con (cv_cls G sp_d13 1 (am_cn l G yL_drop (.codeWith yL_drop method_15_code 4 (some .int) [(0, 10, 13, 25)]) 8 144)) G li_X gT gc_yL_drop_a :=
  cv_cls_n (cv_cls_ok (C := 1) (S := 6) (gm_yL_drop_a g.1) rfl rfl rfl (fun x out r T i1 i2 h2 R old cnt n0 s0 hx hp ho o1 o2 o3 => by
    obtain ⟨c_, P_, j_, m_, k_⟩ := T
    have hp_ : P_ = zc_l R old cnt := hp
    subst hp_
    have a_ : ([.ref x, .int i1, .ref out] : List Value) = [.ref x, .int (Int32.ofInt i1.toInt), .ref out] := by rw [Int32.ofInt_toInt]
    show am_M l G _ _ _ _ _ _ [.ref x, .int i1, .ref out] h2 _
    rw [a_]
    exact zc_wdrop_M g hx ho o1 o2 o3 (e := i1.toInt) (e2 := i2.toInt) (li_i32 i1).1 (li_i32 i1).2 (by decide) (by decide) (fun a th T2 h3 d f Y z => ⟨a, th, T2, d, f, Y, z, rfl⟩))) rfl
theorem cw_base {l : Launch} {G : am_G} (g : gM l G li_X) : ck_Con (cv_cls G sp_d14 1 (am_cn l G yL_base (.codeWith yL_base method_16_code 4 (some .int) [(0, 10, 13, 19), (0, 10, 16, 30)]) 7 144)) G li_X gT gc_yL_base_a :=
  cv_cls_n (cv_cls_ok (C := 1) (S := 6) (gm_yL_base_a g.1) rfl rfl rfl (fun x out r T i1 i2 h2 R old cnt n0 s0 hx hp ho o1 o2 o3 => by
    obtain ⟨c_, P_, j_, m_, k_⟩ := T
    have hp_ : P_ = zc_l R old cnt := hp
    subst hp_
    have a_ : ([.ref x, .int i1, .ref out] : List Value) = [.ref x, .int (Int32.ofInt i1.toInt), .ref out] := by rw [Int32.ofInt_toInt]
    show am_M l G _ _ _ _ _ _ [.ref x, .int i1, .ref out] h2 _
    rw [a_]
    exact zc_wbase_M g hx ho o1 o2 o3 (e := i1.toInt) (e2 := i2.toInt) (li_i32 i1).1 (li_i32 i1).2 (by decide) (by decide) (fun a th T2 h3 d f Y z => ⟨a, th, T2, d, f, Y, z, rfl⟩))) rfl
theorem cw_unbase {l : Launch} {G : am_G} (g : gM l G li_X) : ck_Con (cv_cls G sp_d15 0 (am_cn l G yL_unbase (.codeWith yL_unbase method_17_code 3 (some .int) [(0, 9, 12, 30)]) 7 143)) G li_X gT gc_yL_unbase_a :=
  cv_cls_n (cv_cls_ok (C := 1) (S := 6) (gm_yL_unbase_a g.1) rfl rfl rfl (fun x out r T i1 i2 h2 R old cnt n0 s0 hx hp ho o1 o2 o3 => by
    obtain ⟨c_, P_, j_, m_, k_⟩ := T
    have hp_ : P_ = zc_l R old cnt := hp
    subst hp_
    exact zc_wunbase_M g hx ho o1 o2 o3 (e := i1.toInt) (e2 := i2.toInt)  (by decide) (by decide) (fun a th T2 h3 d f Y z => ⟨a, th, T2, d, f, Y, z, rfl⟩))) rfl
theorem cw_undo {l : Launch} {G : am_G} (g : gM l G li_X) : ck_Con (cv_cls G sp_d16 0 (am_cn l G yL_undo (.codeWith yL_undo method_18_code 3 (some .int) [(0, 9, 12, 30)]) 7 143)) G li_X gT gc_yL_undo_a :=
  cv_cls_n (cv_cls_ok (C := 1) (S := 6) (gm_yL_undo_a g.1) rfl rfl rfl (fun x out r T i1 i2 h2 R old cnt n0 s0 hx hp ho o1 o2 o3 => by
    obtain ⟨c_, P_, j_, m_, k_⟩ := T
    have hp_ : P_ = zc_l R old cnt := hp
    subst hp_
    exact zc_wundo_M g hx ho o1 o2 o3 (e := i1.toInt) (e2 := i2.toInt)  (by decide) (by decide) (fun a th T2 h3 d f Y z => ⟨a, th, T2, d, f, Y, z, rfl⟩))) rfl
theorem cr_dial {l : Launch} {G : am_G} (g : gM l G li_X) : ck_Con (cv_ref G sp_d0 1 (am_cm l G yX14_dial (.code yX14_dial prog_14_method_10_code 3 (some .int)) 11 294)) G li_X gT gc_yX14_dial_a :=
  cv_ref_ok (C := 14) (S := 71) (gm_yX14_dial_a g) rfl rfl rfl sp_d0.fn (fun m T i1 i2 h2 o tx now qw th hx hk h12 => by
    obtain ⟨c_, P_, j_, m_, k_⟩ := T
    have a_ : ([.ref m, .int i1] : List Value) = [.ref m, .int (Int32.ofInt i1.toInt)] := by rw [Int32.ofInt_toInt]
    show am_M l G _ _ _ _ _ _ [.ref m, .int i1] h2 _
    rw [a_]
    exact zm_dial_M g hx hk h12 (e := i1.toInt) (e2 := i2.toInt) (li_i32 i1).1 (li_i32 i1).2 (by decide) (by decide) (fun a th2 T2 h3 d f Y => ⟨a, th2, T2, d, f, Y, rfl⟩))
theorem cr_set {l : Launch} {G : am_G} (g : gM l G li_X) : ck_Con (cv_ref G sp_d1 2 (am_cm l G yX14_set (.code yX14_set prog_14_method_12_code 3 (some .int)) 12 316)) G li_X gT gc_yX14_set_a :=
  cv_ref_ok (C := 17) (S := 113) (gm_yX14_set_a g) rfl rfl rfl sp_d1.fn (fun m T i1 i2 h2 o tx now qw th hx hk h12 => by
    obtain ⟨c_, P_, j_, m_, k_⟩ := T
    have a_ : ([.ref m, .int i1, .int i2] : List Value) = [.ref m, .int (Int32.ofInt i1.toInt), .int (Int32.ofInt i2.toInt)] := by rw [Int32.ofInt_toInt, Int32.ofInt_toInt]
    show am_M l G _ _ _ _ _ _ [.ref m, .int i1, .int i2] h2 _
    rw [a_]
    exact zm_set_M g hx hk h12 (e := i1.toInt) (e2 := i2.toInt) (li_i32 i1).1 (li_i32 i1).2 (li_i32 i2).1 (li_i32 i2).2 (by decide) (by decide) (fun a th2 T2 h3 d f Y => ⟨a, th2, T2, d, f, Y, rfl⟩))
theorem cr_lengthen {l : Launch} {G : am_G} (g : gM l G li_X) : ck_Con (cv_ref G sp_d2 2 (am_cm l G yX14_lengthen (.code yX14_lengthen prog_14_method_13_code 4 (some .int)) 12 316)) G li_X gT gc_yX14_lengthen_a :=
  cv_ref_ok (C := 26) (S := 467) (gm_yX14_lengthen_a g) rfl rfl rfl sp_d2.fn (fun m T i1 i2 h2 o tx now qw th hx hk h12 => by
    obtain ⟨c_, P_, j_, m_, k_⟩ := T
    have a_ : ([.ref m, .int i1, .int i2] : List Value) = [.ref m, .int (Int32.ofInt i1.toInt), .int (Int32.ofInt i2.toInt)] := by rw [Int32.ofInt_toInt, Int32.ofInt_toInt]
    show am_M l G _ _ _ _ _ _ [.ref m, .int i1, .int i2] h2 _
    rw [a_]
    exact zm_lengthen_M g hx hk h12 (e := i1.toInt) (e2 := i2.toInt) (li_i32 i1).1 (li_i32 i1).2 (li_i32 i2).1 (li_i32 i2).2 (by decide) (by decide) (fun a th2 T2 h3 d f Y => ⟨a, th2, T2, d, f, Y, rfl⟩))
theorem cr_plus {l : Launch} {G : am_G} (g : gM l G li_X) : ck_Con (cv_ref G sp_d3 2 (am_cm l G yX14_plus (.code yX14_plus prog_14_method_14_code 4 (some .int)) 12 316)) G li_X gT gc_yX14_plus_a :=
  cv_ref_ok (C := 17) (S := 155) (gm_yX14_plus_a g) rfl rfl rfl sp_d3.fn (fun m T i1 i2 h2 o tx now qw th hx hk h12 => by
    obtain ⟨c_, P_, j_, m_, k_⟩ := T
    have a_ : ([.ref m, .int i1, .int i2] : List Value) = [.ref m, .int (Int32.ofInt i1.toInt), .int (Int32.ofInt i2.toInt)] := by rw [Int32.ofInt_toInt, Int32.ofInt_toInt]
    show am_M l G _ _ _ _ _ _ [.ref m, .int i1, .int i2] h2 _
    rw [a_]
    exact zm_plus_M g hx hk h12 (e := i1.toInt) (e2 := i2.toInt) (li_i32 i1).1 (li_i32 i1).2 (li_i32 i2).1 (li_i32 i2).2 (by decide) (by decide) (fun a th2 T2 h3 d f Y => ⟨a, th2, T2, d, f, Y, rfl⟩))
theorem cr_times {l : Launch} {G : am_G} (g : gM l G li_X) : ck_Con (cv_ref G sp_d4 2 (am_cm l G yX14_times (.code yX14_times prog_14_method_15_code 4 (some .int)) 12 316)) G li_X gT gc_yX14_times_a :=
  cv_ref_ok (C := 17) (S := 219) (gm_yX14_times_a g) rfl rfl rfl sp_d4.fn (fun m T i1 i2 h2 o tx now qw th hx hk h12 => by
    obtain ⟨c_, P_, j_, m_, k_⟩ := T
    have a_ : ([.ref m, .int i1, .int i2] : List Value) = [.ref m, .int (Int32.ofInt i1.toInt), .int (Int32.ofInt i2.toInt)] := by rw [Int32.ofInt_toInt, Int32.ofInt_toInt]
    show am_M l G _ _ _ _ _ _ [.ref m, .int i1, .int i2] h2 _
    rw [a_]
    exact zm_times_M g hx hk h12 (e := i1.toInt) (e2 := i2.toInt) (li_i32 i1).1 (li_i32 i1).2 (li_i32 i2).1 (li_i32 i2).2 (by decide) (by decide) (fun a th2 T2 h3 d f Y => ⟨a, th2, T2, d, f, Y, rfl⟩))
theorem cr_negate {l : Launch} {G : am_G} (g : gM l G li_X) : ck_Con (cv_ref G sp_d5 1 (am_cm l G yX14_negate (.code yX14_negate prog_14_method_16_code 2 (some .int)) 12 316)) G li_X gT gc_yX14_negate_a :=
  cv_ref_ok (C := 16) (S := 109) (gm_yX14_negate_a g) rfl rfl rfl sp_d5.fn (fun m T i1 i2 h2 o tx now qw th hx hk h12 => by
    obtain ⟨c_, P_, j_, m_, k_⟩ := T
    have a_ : ([.ref m, .int i1] : List Value) = [.ref m, .int (Int32.ofInt i1.toInt)] := by rw [Int32.ofInt_toInt]
    show am_M l G _ _ _ _ _ _ [.ref m, .int i1] h2 _
    rw [a_]
    exact zm_negate_M g hx hk h12 (e := i1.toInt) (e2 := i2.toInt) (li_i32 i1).1 (li_i32 i1).2 (by decide) (by decide) (fun a th2 T2 h3 d f Y => ⟨a, th2, T2, d, f, Y, rfl⟩))
theorem cr_reduce {l : Launch} {G : am_G} (g : gM l G li_X) : ck_Con (cv_ref G sp_d6 1 (am_cm l G yX14_reduce (.code yX14_reduce prog_14_method_20_code 2 (some .int)) 13 338)) G li_X gT gc_yX14_reduce_a :=
  cv_ref_ok (C := 17) (S := 113) (gm_yX14_reduce_a g) rfl rfl rfl sp_d6.fn (fun m T i1 i2 h2 o tx now qw th hx hk h12 => by
    obtain ⟨c_, P_, j_, m_, k_⟩ := T
    have a_ : ([.ref m, .int i1] : List Value) = [.ref m, .int (Int32.ofInt i1.toInt)] := by rw [Int32.ofInt_toInt]
    show am_M l G _ _ _ _ _ _ [.ref m, .int i1] h2 _
    rw [a_]
    exact zm_reduce_M g hx hk h12 (e := i1.toInt) (e2 := i2.toInt) (li_i32 i1).1 (li_i32 i1).2 (by decide) (by decide) (fun a th2 T2 h3 d f Y => ⟨a, th2, T2, d, f, Y, rfl⟩))
theorem cr_roundPlus {l : Launch} {G : am_G} (g : gM l G li_X) : ck_Con (cv_ref G sp_d7 2 (am_cm l G yX14_roundPlus (.code yX14_roundPlus prog_14_method_21_code 3 (some .int)) 13 338)) G li_X gT gc_yX14_roundPlus_a :=
  cv_ref_ok (C := 17) (S := 113) (gm_yX14_roundPlus_a g) rfl rfl rfl sp_d7.fn (fun m T i1 i2 h2 o tx now qw th hx hk h12 => by
    obtain ⟨c_, P_, j_, m_, k_⟩ := T
    have a_ : ([.ref m, .int i1, .int i2] : List Value) = [.ref m, .int (Int32.ofInt i1.toInt), .int (Int32.ofInt i2.toInt)] := by rw [Int32.ofInt_toInt, Int32.ofInt_toInt]
    show am_M l G _ _ _ _ _ _ [.ref m, .int i1, .int i2] h2 _
    rw [a_]
    exact zm_roundPlus_M g hx hk h12 (e := i1.toInt) (e2 := i2.toInt) (li_i32 i1).1 (li_i32 i1).2 (li_i32 i2).1 (li_i32 i2).2 (by decide) (by decide) (fun a th2 T2 h3 d f Y => ⟨a, th2, T2, d, f, Y, rfl⟩))
theorem cr_roundTimes {l : Launch} {G : am_G} (g : gM l G li_X) : ck_Con (cv_ref G sp_d8 2 (am_cm l G yX14_roundTimes (.code yX14_roundTimes prog_14_method_22_code 3 (some .int)) 13 338)) G li_X gT gc_yX14_roundTimes_a :=
  cv_ref_ok (C := 17) (S := 113) (gm_yX14_roundTimes_a g) rfl rfl rfl sp_d8.fn (fun m T i1 i2 h2 o tx now qw th hx hk h12 => by
    obtain ⟨c_, P_, j_, m_, k_⟩ := T
    have a_ : ([.ref m, .int i1, .int i2] : List Value) = [.ref m, .int (Int32.ofInt i1.toInt), .int (Int32.ofInt i2.toInt)] := by rw [Int32.ofInt_toInt, Int32.ofInt_toInt]
    show am_M l G _ _ _ _ _ _ [.ref m, .int i1, .int i2] h2 _
    rw [a_]
    exact zm_roundTimes_M g hx hk h12 (e := i1.toInt) (e2 := i2.toInt) (li_i32 i1).1 (li_i32 i1).2 (li_i32 i2).1 (li_i32 i2).2 (by decide) (by decide) (fun a th2 T2 h3 d f Y => ⟨a, th2, T2, d, f, Y, rfl⟩))
theorem cr_roundPower {l : Launch} {G : am_G} (g : gM l G li_X) : ck_Con (cv_ref G sp_d9 2 (am_cm l G yX14_roundPower (.code yX14_roundPower prog_14_method_25_code 3 (some .int)) 13 338)) G li_X gT gc_yX14_roundPower_a :=
  cv_ref_ok (C := 17) (S := 113) (gm_yX14_roundPower_a g) rfl rfl rfl sp_d9.fn (fun m T i1 i2 h2 o tx now qw th hx hk h12 => by
    obtain ⟨c_, P_, j_, m_, k_⟩ := T
    have a_ : ([.ref m, .int i1, .int i2] : List Value) = [.ref m, .int (Int32.ofInt i1.toInt), .int (Int32.ofInt i2.toInt)] := by rw [Int32.ofInt_toInt, Int32.ofInt_toInt]
    show am_M l G _ _ _ _ _ _ [.ref m, .int i1, .int i2] h2 _
    rw [a_]
    exact zm_roundPower_M g hx hk h12 (e := i1.toInt) (e2 := i2.toInt) (li_i32 i1).1 (li_i32 i1).2 (li_i32 i2).1 (li_i32 i2).2 (by decide) (by decide) (fun a th2 T2 h3 d f Y => ⟨a, th2, T2, d, f, Y, rfl⟩))
theorem cr_roundInverse {l : Launch} {G : am_G} (g : gM l G li_X) : ck_Con (cv_ref G sp_d10 1 (am_cm l G yX14_roundInverse (.code yX14_roundInverse prog_14_method_26_code 2 (some .int)) 13 338)) G li_X gT gc_yX14_roundInverse_a :=
  cv_ref_ok (C := 17) (S := 113) (gm_yX14_roundInverse_a g) rfl rfl rfl sp_d10.fn (fun m T i1 i2 h2 o tx now qw th hx hk h12 => by
    obtain ⟨c_, P_, j_, m_, k_⟩ := T
    have a_ : ([.ref m, .int i1] : List Value) = [.ref m, .int (Int32.ofInt i1.toInt)] := by rw [Int32.ofInt_toInt]
    show am_M l G _ _ _ _ _ _ [.ref m, .int i1] h2 _
    rw [a_]
    exact zm_roundInverse_M g hx hk h12 (e := i1.toInt) (e2 := i2.toInt) (li_i32 i1).1 (li_i32 i1).2 (by decide) (by decide) (fun a th2 T2 h3 d f Y => ⟨a, th2, T2, d, f, Y, rfl⟩))
theorem cr_tell {l : Launch} {G : am_G} (g : gM l G li_X) : ck_Con (cv_ref G sp_d11 2 (am_cm l G yX14_tell (.code yX14_tell prog_14_method_33_code 3 (some .int)) 12 316)) G li_X gT gc_yX14_tell_a :=
  cv_ref_ok (C := 16) (S := 93) (gm_yX14_tell_a g) rfl rfl rfl sp_d11.fn (fun m T i1 i2 h2 o tx now qw th hx hk h12 => by
    obtain ⟨c_, P_, j_, m_, k_⟩ := T
    have a_ : ([.ref m, .int i1, .int i2] : List Value) = [.ref m, .int (Int32.ofInt i1.toInt), .int (Int32.ofInt i2.toInt)] := by rw [Int32.ofInt_toInt, Int32.ofInt_toInt]
    show am_M l G _ _ _ _ _ _ [.ref m, .int i1, .int i2] h2 _
    rw [a_]
    exact zm_tell_M g hx hk h12 (e := i1.toInt) (e2 := i2.toInt) (li_i32 i1).1 (li_i32 i1).2 (li_i32 i2).1 (li_i32 i2).2 (by decide) (by decide) (fun a th2 T2 h3 d f Y => ⟨a, th2, T2, d, f, Y, rfl⟩))
theorem cr_tellIf {l : Launch} {G : am_G} (g : gM l G li_X) : ck_Con (cv_ref G sp_d12 2 (am_cm l G yX14_tellIf (.code yX14_tellIf prog_14_method_34_code 3 (some .boolean)) 12 316)) G li_X gT gc_yX14_tellIf_a :=
  cv_ref_ok (C := 19) (S := 101) (gm_yX14_tellIf_a g) rfl rfl rfl sp_d12.fn (fun m T i1 i2 h2 o tx now qw th hx hk h12 => by
    obtain ⟨c_, P_, j_, m_, k_⟩ := T
    have a_ : ([.ref m, .int i1, .int i2] : List Value) = [.ref m, .int (Int32.ofInt i1.toInt), .int (Int32.ofInt i2.toInt)] := by rw [Int32.ofInt_toInt, Int32.ofInt_toInt]
    show am_M l G _ _ _ _ _ _ [.ref m, .int i1, .int i2] h2 _
    rw [a_]
    exact zm_tellIf_M g hx hk h12 (e := i1.toInt) (e2 := i2.toInt) (li_i32 i1).1 (li_i32 i1).2 (li_i32 i2).1 (li_i32 i2).2 (by decide) (by decide) (fun a th2 T2 h3 d f Y => ⟨a, th2, T2, d, f, Y, rfl⟩))
theorem cr_drop {l : Launch} {G : am_G} (g : gM l G li_X) : ck_Con (cv_ref G sp_d13 1 (am_cm l G yX14_drop (.code yX14_drop prog_14_method_36_code 2 (some .int)) 11 294)) G li_X gT gc_yX14_drop_a :=
  cv_ref_ok (C := 14) (S := 71) (gm_yX14_drop_a g) rfl rfl rfl sp_d13.fn (fun m T i1 i2 h2 o tx now qw th hx hk h12 => by
    obtain ⟨c_, P_, j_, m_, k_⟩ := T
    have a_ : ([.ref m, .int i1] : List Value) = [.ref m, .int (Int32.ofInt i1.toInt)] := by rw [Int32.ofInt_toInt]
    show am_M l G _ _ _ _ _ _ [.ref m, .int i1] h2 _
    rw [a_]
    exact zm_drop_M g hx hk h12 (e := i1.toInt) (e2 := i2.toInt) (li_i32 i1).1 (li_i32 i1).2 (by decide) (by decide) (fun a th2 T2 h3 d f Y => ⟨a, th2, T2, d, f, Y, rfl⟩))
theorem cr_unbase {l : Launch} {G : am_G} (g : gM l G li_X) : ck_Con (cv_ref G sp_d15 0 (am_cm l G yX14_unbase (.code yX14_unbase prog_14_method_38_code 1 (some .int)) 11 294)) G li_X gT gc_yX14_unbase_a :=
  cv_ref_ok (C := 14) (S := 71) (gm_yX14_unbase_a g) rfl rfl rfl sp_d15.fn (fun m T i1 i2 h2 o tx now qw th hx hk h12 => by
    obtain ⟨c_, P_, j_, m_, k_⟩ := T
    exact zm_unbase_M g hx hk h12 (e := i1.toInt) (e2 := i2.toInt)  (by decide) (by decide) (fun a th2 T2 h3 d f Y => ⟨a, th2, T2, d, f, Y, rfl⟩))
theorem cr_undo {l : Launch} {G : am_G} (g : gM l G li_X) : ck_Con (cv_ref G sp_d16 0 (am_cm l G yX14_undo (.code yX14_undo prog_14_method_39_code 1 (some .int)) 4 105)) G li_X gT gc_yX14_undo_a :=
  cv_ref_ok (C := 0) (S := 0) (gm_yX14_undo_a g) rfl rfl rfl sp_d16.fn (fun m T i1 i2 h2 o tx now qw th hx hk h12 => by
    obtain ⟨c_, P_, j_, m_, k_⟩ := T
    exact zm_undo_M g hx hk h12 (e := i1.toInt) (e2 := i2.toInt)  (fun a th2 T2 h3 d f Y => ⟨a, th2, T2, d, f, Y, rfl⟩))
theorem cr_base_n0 {l : Launch} {G : am_G} (g : gM l G li_X) : ck_Con (cv_ref G sp_d14 1 (am_cm l G yX14_base (.code yX14_base prog_14_method_37_code 5 (some .int)) 11 294)) G li_X gT gc_yX14_base_n0 :=
  cv_ref_ok (C := 17) (S := 96) (gm_yX14_base_n0 g) rfl rfl rfl sp_d14.fn (fun m T i1 i2 h2 o tx now qw th hx hk h12 => by
    obtain ⟨c_, P_, j_, m_, k_⟩ := T
    have a_ : ([.ref m, .int i1] : List Value) = [.ref m, .int (Int32.ofInt i1.toInt)] := by rw [Int32.ofInt_toInt]
    show am_M l G _ _ _ _ _ _ [.ref m, .int i1] h2 _
    rw [a_]
    exact zm_base_M g hx hk h12 (e := i1.toInt) (e2 := i2.toInt) (li_i32 i1).1 (li_i32 i1).2 (by decide) (by decide) (fun a th2 T2 h3 d f Y => ⟨a, th2, T2, d, f, Y, rfl⟩))
theorem cr_base_n1 {l : Launch} {G : am_G} (g : gM l G li_X) : ck_Con (cv_ref G sp_d14 1 (am_cm l G yX14_base (.code yX14_base prog_14_method_37_code 5 (some .int)) 11 294)) G li_X gT gc_yX14_base_n1 :=
  cv_ref_ok (C := 17) (S := 96) (gm_yX14_base_n1 g) rfl rfl rfl sp_d14.fn (fun m T i1 i2 h2 o tx now qw th hx hk h12 => by
    obtain ⟨c_, P_, j_, m_, k_⟩ := T
    have a_ : ([.ref m, .int i1] : List Value) = [.ref m, .int (Int32.ofInt i1.toInt)] := by rw [Int32.ofInt_toInt]
    show am_M l G _ _ _ _ _ _ [.ref m, .int i1] h2 _
    rw [a_]
    exact zm_base_M g hx hk h12 (e := i1.toInt) (e2 := i2.toInt) (li_i32 i1).1 (li_i32 i1).2 (by decide) (by decide) (fun a th2 T2 h3 d f Y => ⟨a, th2, T2, d, f, Y, rfl⟩))
theorem cr_base_n2 {l : Launch} {G : am_G} (g : gM l G li_X) : ck_Con (cv_ref G sp_d14 1 (am_cm l G yX14_base (.code yX14_base prog_14_method_37_code 5 (some .int)) 11 294)) G li_X gT gc_yX14_base_n2 :=
  cv_ref_ok (C := 17) (S := 96) (gm_yX14_base_n2 g) rfl rfl rfl sp_d14.fn (fun m T i1 i2 h2 o tx now qw th hx hk h12 => by
    obtain ⟨c_, P_, j_, m_, k_⟩ := T
    have a_ : ([.ref m, .int i1] : List Value) = [.ref m, .int (Int32.ofInt i1.toInt)] := by rw [Int32.ofInt_toInt]
    show am_M l G _ _ _ _ _ _ [.ref m, .int i1] h2 _
    rw [a_]
    exact zm_base_M g hx hk h12 (e := i1.toInt) (e2 := i2.toInt) (li_i32 i1).1 (li_i32 i1).2 (by decide) (by decide) (fun a th2 T2 h3 d f Y => ⟨a, th2, T2, d, f, Y, rfl⟩))
theorem cr_base_n3 {l : Launch} {G : am_G} (g : gM l G li_X) : ck_Con (cv_ref G sp_d14 1 (am_cm l G yX14_base (.code yX14_base prog_14_method_37_code 5 (some .int)) 11 294)) G li_X gT gc_yX14_base_n3 :=
  cv_ref_ok (C := 17) (S := 96) (gm_yX14_base_n3 g) rfl rfl rfl sp_d14.fn (fun m T i1 i2 h2 o tx now qw th hx hk h12 => by
    obtain ⟨c_, P_, j_, m_, k_⟩ := T
    have a_ : ([.ref m, .int i1] : List Value) = [.ref m, .int (Int32.ofInt i1.toInt)] := by rw [Int32.ofInt_toInt]
    show am_M l G _ _ _ _ _ _ [.ref m, .int i1] h2 _
    rw [a_]
    exact zm_base_M g hx hk h12 (e := i1.toInt) (e2 := i2.toInt) (li_i32 i1).1 (li_i32 i1).2 (by decide) (by decide) (fun a th2 T2 h3 d f Y => ⟨a, th2, T2, d, f, Y, rfl⟩))
theorem cr_base_n4 {l : Launch} {G : am_G} (g : gM l G li_X) : ck_Con (cv_ref G sp_d14 1 (am_cm l G yX14_base (.code yX14_base prog_14_method_37_code 5 (some .int)) 11 294)) G li_X gT gc_yX14_base_n4 :=
  cv_ref_ok (C := 17) (S := 96) (gm_yX14_base_n4 g) rfl rfl rfl sp_d14.fn (fun m T i1 i2 h2 o tx now qw th hx hk h12 => by
    obtain ⟨c_, P_, j_, m_, k_⟩ := T
    have a_ : ([.ref m, .int i1] : List Value) = [.ref m, .int (Int32.ofInt i1.toInt)] := by rw [Int32.ofInt_toInt]
    show am_M l G _ _ _ _ _ _ [.ref m, .int i1] h2 _
    rw [a_]
    exact zm_base_M g hx hk h12 (e := i1.toInt) (e2 := i2.toInt) (li_i32 i1).1 (li_i32 i1).2 (by decide) (by decide) (fun a th2 T2 h3 d f Y => ⟨a, th2, T2, d, f, Y, rfl⟩))
theorem cw_knock {l : Launch} {G : am_G} (g : gM l G li_X) : ck_Con (cv_cls0 G sp_d17 (am_cm l G yX10_knock (.code yX10_knock prog_1_method_19_code 1 (some .int)) 1 20)) G li_X gT gc_yX10_knock_a :=
  cv_cls0_ok (gm_yX10_knock_a g.1) rfl (fun x out mc ms r T i1 i2 h2 R old cnt hx hp => by
    obtain ⟨c_, P_, j_, m_, k_⟩ := T
    have hp_ : P_ = zc_l R old cnt := hp
    subst hp_
    exact zc_knock_M g hx (e := i1.toInt) (e2 := i2.toInt) (fun a th T2 h3 d f Y => ⟨a, th, T2, d, zc_of.fr f, Y, rfl⟩))
theorem cr_knock {l : Launch} {G : am_G} (g : gM l G li_X) : ck_Con (cv_ref0 G sp_d17 (am_cm l G yX14_knock (.code yX14_knock prog_14_method_40_code 1 (some .int)) 1 20)) G li_X gT gc_yX14_knock_w :=
  cv_ref0_ok (gm_yX14_knock_w g) rfl sp_d17.fn (fun m mc ms T i1 i2 h2 o tx now qw th hx hk h12 => by
    obtain ⟨c_, P_, j_, m_, k_⟩ := T
    exact zm_knock_M g hx (e := i1.toInt) (e2 := i2.toInt) (fun a th2 T2 h3 d f Y => ⟨a, th2, T2, d, f, Y, rfl⟩))
/-- what size answers -/
def sp_zz (_ _ : Int) (T : sp_T) (a th : Int) (T2 : sp_T) : Prop := th = 0 ∧ a = T.1.1 ∧ T2 = T
theorem sp_zz.fn {e e2 a th a2 th2 : Int} {T T' T2 : sp_T} (h1 : sp_zz e e2 T a th T') (h2 : sp_zz e e2 T a2 th2 T2) : sp_al a th T' a2 th2 T2 := ⟨h1.1.trans h2.1.symm, h1.2.2.trans h2.2.2.symm, fun _ => h1.2.1.trans h2.2.1.symm⟩
theorem cw_size {l : Launch} {G : am_G} (g : gM l G li_X) : ck_Con (cv_cls0 G sp_zz (am_cm l G yX10_size (.code yX10_size prog_1_method_26_code 1 (some .int)) 1 20)) G li_X gT gc_yX10_size_a :=
  cv_cls0_ok (gm_yX10_size_a g.1) rfl (fun x out mc ms r T i1 i2 h2 R old cnt hx hp => by
    obtain ⟨c_, P_, j_, m_, k_⟩ := T
    exact zc_size9_M g hx ⟨c_.1, 0, (c_, P_, j_, m_, k_), ⟨rfl, rfl, rfl⟩, zc_of.fr zc_fr.rf, ⟨R, old, cnt, hx, hp⟩, rfl⟩)
theorem cr_size {l : Launch} {G : am_G} (g : gM l G li_X) : ck_Con (cv_ref0 G sp_zz (am_cm l G yX14_size (.code yX14_size prog_14_method_48_code 1 (some .int)) 1 20)) G li_X gT gc_yX14_size_a :=
  cv_ref0_ok (gm_yX14_size_a g) rfl sp_zz.fn (fun m mc ms T i1 i2 h2 o tx now qw th hx hk h12 => by
    obtain ⟨c_, P_, j_, m_, k_⟩ := T
    exact zm_size9_M g hx (fun h3 f Y => ⟨c_.1, 0, (c_, P_, j_, m_, k_), ⟨rfl, rfl, rfl⟩, f, Y, rfl⟩))
end
