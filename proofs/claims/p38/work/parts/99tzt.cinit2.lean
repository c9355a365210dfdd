/-! THE CONSTRUCTORS OF THE CLASS: the rest, and the class -/
set_option maxHeartbeats 4000000 in
theorem zi_div_M {l : Launch} {G : am_G} {X : ck_XT} (g : gM l G X) {q t : Nat} {x0 x1 x2 : Value} {h : List am_C} (hg : am_g G h q = some (t, [x0, x1, x2])) (ht : t % 100 = 9) (hq : 1000 ≤ q) {mc ms : Nat} {Post : am_O → List am_C → Prop} (hmc : 6 ≤ mc) (hms : 39 ≤ ms)
    (hP : ∀ h', zk G h h' (fun y => y = q) → Post (.inl none) h') :
    am_M l G yX2_init (.code yX2_init prog_4_method_1_code 1 none) 2 40 mc ms [.ref q] h Post := by
  refine gh_yX2_init_X g (Nat.le_of_ble_eq_true rfl) fun S SX hs hr hw hx => ?_
  have rv : ∀ x : Int32, ck_fv 0 (.int x) := fun x => ⟨_, rfl⟩
  have lq_ := zg_lt hg
  refine hs 0 _ rfl _ _ _ _ _ _ _ rfl ?_
  refine hs 1 _ rfl _ _ _ _ _ _ rfl (Nat.le_of_ble_eq_true rfl) ?_
  refine hs 2 _ rfl _ _ _ _ _ _ _ rfl ?_
  refine zw_W (G := G) (hs 3 _ rfl) (t := 7) (vs := [.null, .int 0, .int 0]) (m := 3) rfl rfl rfl (by omega) (by omega) fun hz431 az432 ez433 lz434 gz435 cz436 => ?_
  refine hs 4 _ rfl _ _ _ _ _ _ _ rfl ?_
  refine zw_cmn (hs 5 _ rfl) (a := [.ref az432]) (st := [.ref az432, .ref q]) 1 10 rfl rfl (Nat.le_of_ble_eq_true rfl) ⟨_, _, _, rfl, (cz436), rfl⟩ (by omega) (by omega) (⟨zi_big_M (td := 50) g (cz436) rfl rfl (by omega) (by omega) (by omega) fun hs1_ lb1_ ks1_ qb1_ rb1_ => ?_, fun _ _ h9 => h9⟩)
  have lk1_ := ks1_.1
  show S 12 [some (.ref q)] [.ref az432, .ref q] _ _ _
  refine zw_U (hs 6 _ rfl) (by omega) ((ks1_.2 _ _ ((gz435.2 _ _ hg)) (by omega))) ht (Or.inl ⟨_, rfl⟩) fun hz437 wz438 => ?_
  have wz438 : hd_w G hs1_ hz437 q (t, [.ref az432, x1, x2]) := wz438
  have lwz438 := wz438.1
  refine hs 7 _ rfl _ _ _ _ _ _ _ rfl ?_
  refine zw_W (G := G) (hs 8 _ rfl) (t := 7) (vs := [.null, .int 0, .int 0]) (m := 3) rfl rfl rfl (by omega) (by omega) fun hz439 az440 ez441 lz442 gz443 cz444 => ?_
  refine hs 9 _ rfl _ _ _ _ _ _ _ rfl ?_
  refine zw_cmn (hs 10 _ rfl) (a := [.ref az440]) (st := [.ref az440, .ref q]) 1 10 rfl rfl (Nat.le_of_ble_eq_true rfl) ⟨_, _, _, rfl, (cz444), rfl⟩ (by omega) (by omega) (⟨zi_big_M (td := 50) g (cz444) rfl rfl (by omega) (by omega) (by omega) fun hs2_ lb2_ ks2_ qb2_ rb2_ => ?_, fun _ _ h9 => h9⟩)
  have lk2_ := ks2_.1
  show S 23 [some (.ref q)] [.ref az440, .ref q] _ _ _
  refine zw_U (hs 11 _ rfl) (by omega) ((ks2_.2 _ _ ((gz443.2 _ _ wz438.at)) (by omega))) ht (Or.inl ⟨_, rfl⟩) fun hz445 wz446 => ?_
  have wz446 : hd_w G hs2_ hz445 q (t, [.ref az432, .ref az440, x2]) := wz446
  have lwz446 := wz446.1
  refine hs 12 _ rfl _ _ _ _ _ _ _ rfl ?_
  refine zw_W (G := G) (hs 13 _ rfl) (t := 7) (vs := [.null, .int 0, .int 0]) (m := 3) rfl rfl rfl (by omega) (by omega) fun hz447 az448 ez449 lz450 gz451 cz452 => ?_
  refine hs 14 _ rfl _ _ _ _ _ _ _ rfl ?_
  refine zw_cmn (hs 15 _ rfl) (a := [.ref az448]) (st := [.ref az448, .ref q]) 1 10 rfl rfl (Nat.le_of_ble_eq_true rfl) ⟨_, _, _, rfl, (cz452), rfl⟩ (by omega) (by omega) (⟨zi_big_M (td := 50) g (cz452) rfl rfl (by omega) (by omega) (by omega) fun hs3_ lb3_ ks3_ qb3_ rb3_ => ?_, fun _ _ h9 => h9⟩)
  have lk3_ := ks3_.1
  show S 34 [some (.ref q)] [.ref az448, .ref q] _ _ _
  refine zw_U (hs 16 _ rfl) (by omega) ((ks3_.2 _ _ ((gz451.2 _ _ wz446.at)) (by omega))) ht (Or.inl ⟨_, rfl⟩) fun hz453 wz454 => ?_
  have wz454 : hd_w G hs3_ hz453 q (t, [.ref az432, .ref az440, .ref az448]) := wz454
  have lwz454 := wz454.1
  exact hs 17 _ rfl _ _ _ _ (by omega) (by omega) (hP _ (((((((((zk.g (D := fun y => y = q) gz435).tr2 (ks1_ : zk _ _ _ (fun y => y = az432)) (fun p_ y1_ (y2_ : p_ = az432) => absurd y1_ (by omega))).tr (zk.w (D := fun y => y = q) wz438 (by first | exact Or.inl rfl | exact Or.inl (Or.inl rfl)))).tr (zk.g (D := fun y => y = q) gz443)).tr2 (ks2_ : zk _ _ _ (fun y => y = az440)) (fun p_ y1_ (y2_ : p_ = az440) => absurd y1_ (by omega))).tr (zk.w (D := fun y => y = q) wz446 (by first | exact Or.inl rfl | exact Or.inl (Or.inl rfl)))).tr (zk.g (D := fun y => y = q) gz451)).tr2 (ks3_ : zk _ _ _ (fun y => y = az448)) (fun p_ y1_ (y2_ : p_ = az448) => absurd y1_ (by omega))).tr (zk.w (D := fun y => y = q) wz454 (by first | exact Or.inl rfl | exact Or.inl (Or.inl rfl)))))
set_option maxHeartbeats 4000000 in
theorem zi_bround_M {l : Launch} {G : am_G} {X : ck_XT} (g : gM l G X) {q t : Nat} {x0 x1 x2 x3 x4 x5 x6 : Value} {h : List am_C} (hg : am_g G h q = some (t, [x0, x1, x2, x3, x4, x5, x6])) (ht : t % 100 = 8) (hq : 1000 ≤ q) {mc ms : Nat} {Post : am_O → List am_C → Prop} (hmc : 19 ≤ mc) (hms : 120 ≤ ms)
    (hP : ∀ h', zk G h h' (fun y => y = q) → Post (.inl none) h') :
    am_M l G yX1_init (.code yX1_init prog_3_method_1_code 1 none) 3 60 mc ms [.ref q] h Post := by
  refine gh_yX1_init_X g (Nat.le_of_ble_eq_true rfl) fun S SX hs hr hw hx => ?_
  have rv : ∀ x : Int32, ck_fv 0 (.int x) := fun x => ⟨_, rfl⟩
  have lq_ := zg_lt hg
  refine hs 0 _ rfl _ _ _ _ _ _ _ rfl ?_
  refine hs 1 _ rfl _ _ _ _ _ _ rfl (Nat.le_of_ble_eq_true rfl) ?_
  refine hs 2 _ rfl _ _ _ _ _ _ _ rfl ?_
  refine zw_W (G := G) (hs 3 _ rfl) (t := 7) (vs := [.null, .int 0, .int 0]) (m := 3) rfl rfl rfl (by omega) (by omega) fun hz455 az456 ez457 lz458 gz459 cz460 => ?_
  refine hs 4 _ rfl _ _ _ _ _ _ _ rfl ?_
  refine zw_cmn (hs 5 _ rfl) (a := [.ref az456]) (st := [.ref az456, .ref q]) 1 10 rfl rfl (Nat.le_of_ble_eq_true rfl) ⟨_, _, _, rfl, (cz460), rfl⟩ (by omega) (by omega) (⟨zi_big_M (td := 50) g (cz460) rfl rfl (by omega) (by omega) (by omega) fun hs4_ lb4_ ks4_ qb4_ rb4_ => ?_, fun _ _ h9 => h9⟩)
  have lk4_ := ks4_.1
  show S 12 [some (.ref q)] [.ref az456, .ref q] _ _ _
  refine zw_U (hs 6 _ rfl) (by omega) ((ks4_.2 _ _ ((gz459.2 _ _ hg)) (by omega))) ht (Or.inl ⟨_, rfl⟩) fun hz461 wz462 => ?_
  have wz462 : hd_w G hs4_ hz461 q (t, [.ref az456, x1, x2, x3, x4, x5, x6]) := wz462
  have lwz462 := wz462.1
  refine hs 7 _ rfl _ _ _ _ _ _ _ rfl ?_
  refine zw_W (G := G) (hs 8 _ rfl) (t := 9) (vs := [.null, .null, .null]) (m := 3) rfl rfl rfl (by omega) (by omega) fun hz463 az464 ez465 lz466 gz467 cz468 => ?_
  refine hs 9 _ rfl _ _ _ _ _ _ _ rfl ?_
  refine zw_cmn (hs 10 _ rfl) (a := [.ref az464]) (st := [.ref az464, .ref q]) 6 39 rfl rfl (Nat.le_of_ble_eq_true rfl) ⟨_, _, _, rfl, (cz468), rfl⟩ (by omega) (by omega) (⟨zi_div_M g (cz468) rfl (by omega) (by omega) (by omega) fun hs5_ ks5_ => ?_, fun _ _ h9 => h9⟩)
  have lk5_ := ks5_.1
  show S 23 [some (.ref q)] [.ref az464, .ref q] _ _ _
  refine zw_U (hs 11 _ rfl) (by omega) ((ks5_.2 _ _ ((gz467.2 _ _ wz462.at)) (by omega))) ht (Or.inl ⟨_, rfl⟩) fun hz469 wz470 => ?_
  have wz470 : hd_w G hs5_ hz469 q (t, [.ref az456, .ref az464, x2, x3, x4, x5, x6]) := wz470
  have lwz470 := wz470.1
  refine hs 12 _ rfl _ _ _ _ _ _ _ rfl ?_
  refine zw_W (G := G) (hs 13 _ rfl) (t := 7) (vs := [.null, .int 0, .int 0]) (m := 3) rfl rfl rfl (by omega) (by omega) fun hz471 az472 ez473 lz474 gz475 cz476 => ?_
  refine hs 14 _ rfl _ _ _ _ _ _ _ rfl ?_
  refine zw_cmn (hs 15 _ rfl) (a := [.ref az472]) (st := [.ref az472, .ref q]) 1 10 rfl rfl (Nat.le_of_ble_eq_true rfl) ⟨_, _, _, rfl, (cz476), rfl⟩ (by omega) (by omega) (⟨zi_big_M (td := 50) g (cz476) rfl rfl (by omega) (by omega) (by omega) fun hs6_ lb6_ ks6_ qb6_ rb6_ => ?_, fun _ _ h9 => h9⟩)
  have lk6_ := ks6_.1
  show S 34 [some (.ref q)] [.ref az472, .ref q] _ _ _
  refine zw_U (hs 16 _ rfl) (by omega) ((ks6_.2 _ _ ((gz475.2 _ _ wz470.at)) (by omega))) ht (Or.inl ⟨_, rfl⟩) fun hz477 wz478 => ?_
  have wz478 : hd_w G hs6_ hz477 q (t, [.ref az456, .ref az464, .ref az472, x3, x4, x5, x6]) := wz478
  have lwz478 := wz478.1
  refine hs 17 _ rfl _ _ _ _ _ _ _ rfl ?_
  refine zw_W (G := G) (hs 18 _ rfl) (t := 7) (vs := [.null, .int 0, .int 0]) (m := 3) rfl rfl rfl (by omega) (by omega) fun hz479 az480 ez481 lz482 gz483 cz484 => ?_
  refine hs 19 _ rfl _ _ _ _ _ _ _ rfl ?_
  refine zw_cmn (hs 20 _ rfl) (a := [.ref az480]) (st := [.ref az480, .ref q]) 1 10 rfl rfl (Nat.le_of_ble_eq_true rfl) ⟨_, _, _, rfl, (cz484), rfl⟩ (by omega) (by omega) (⟨zi_big_M (td := 50) g (cz484) rfl rfl (by omega) (by omega) (by omega) fun hs7_ lb7_ ks7_ qb7_ rb7_ => ?_, fun _ _ h9 => h9⟩)
  have lk7_ := ks7_.1
  show S 45 [some (.ref q)] [.ref az480, .ref q] _ _ _
  refine zw_U (hs 21 _ rfl) (by omega) ((ks7_.2 _ _ ((gz483.2 _ _ wz478.at)) (by omega))) ht (Or.inl ⟨_, rfl⟩) fun hz485 wz486 => ?_
  have wz486 : hd_w G hs7_ hz485 q (t, [.ref az456, .ref az464, .ref az472, .ref az480, x4, x5, x6]) := wz486
  have lwz486 := wz486.1
  refine hs 22 _ rfl _ _ _ _ _ _ _ rfl ?_
  refine zw_W (G := G) (hs 23 _ rfl) (t := 7) (vs := [.null, .int 0, .int 0]) (m := 3) rfl rfl rfl (by omega) (by omega) fun hz487 az488 ez489 lz490 gz491 cz492 => ?_
  refine hs 24 _ rfl _ _ _ _ _ _ _ rfl ?_
  refine zw_cmn (hs 25 _ rfl) (a := [.ref az488]) (st := [.ref az488, .ref q]) 1 10 rfl rfl (Nat.le_of_ble_eq_true rfl) ⟨_, _, _, rfl, (cz492), rfl⟩ (by omega) (by omega) (⟨zi_big_M (td := 50) g (cz492) rfl rfl (by omega) (by omega) (by omega) fun hs8_ lb8_ ks8_ qb8_ rb8_ => ?_, fun _ _ h9 => h9⟩)
  have lk8_ := ks8_.1
  show S 56 [some (.ref q)] [.ref az488, .ref q] _ _ _
  refine zw_U (hs 26 _ rfl) (by omega) ((ks8_.2 _ _ ((gz491.2 _ _ wz486.at)) (by omega))) ht (Or.inl ⟨_, rfl⟩) fun hz493 wz494 => ?_
  have wz494 : hd_w G hs8_ hz493 q (t, [.ref az456, .ref az464, .ref az472, .ref az480, .ref az488, x5, x6]) := wz494
  have lwz494 := wz494.1
  refine hs 27 _ rfl _ _ _ _ _ _ _ rfl ?_
  refine zw_W (G := G) (hs 28 _ rfl) (t := 7) (vs := [.null, .int 0, .int 0]) (m := 3) rfl rfl rfl (by omega) (by omega) fun hz495 az496 ez497 lz498 gz499 cz500 => ?_
  refine hs 29 _ rfl _ _ _ _ _ _ _ rfl ?_
  refine zw_cmn (hs 30 _ rfl) (a := [.ref az496]) (st := [.ref az496, .ref q]) 1 10 rfl rfl (Nat.le_of_ble_eq_true rfl) ⟨_, _, _, rfl, (cz500), rfl⟩ (by omega) (by omega) (⟨zi_big_M (td := 50) g (cz500) rfl rfl (by omega) (by omega) (by omega) fun hs9_ lb9_ ks9_ qb9_ rb9_ => ?_, fun _ _ h9 => h9⟩)
  have lk9_ := ks9_.1
  show S 67 [some (.ref q)] [.ref az496, .ref q] _ _ _
  refine zw_U (hs 31 _ rfl) (by omega) ((ks9_.2 _ _ ((gz499.2 _ _ wz494.at)) (by omega))) ht (Or.inl ⟨_, rfl⟩) fun hz501 wz502 => ?_
  have wz502 : hd_w G hs9_ hz501 q (t, [.ref az456, .ref az464, .ref az472, .ref az480, .ref az488, .ref az496, x6]) := wz502
  have lwz502 := wz502.1
  refine hs 32 _ rfl _ _ _ _ _ _ _ rfl ?_
  refine zw_W (G := G) (hs 33 _ rfl) (t := 7) (vs := [.null, .int 0, .int 0]) (m := 3) rfl rfl rfl (by omega) (by omega) fun hz503 az504 ez505 lz506 gz507 cz508 => ?_
  refine hs 34 _ rfl _ _ _ _ _ _ _ rfl ?_
  refine zw_cmn (hs 35 _ rfl) (a := [.ref az504]) (st := [.ref az504, .ref q]) 1 10 rfl rfl (Nat.le_of_ble_eq_true rfl) ⟨_, _, _, rfl, (cz508), rfl⟩ (by omega) (by omega) (⟨zi_big_M (td := 50) g (cz508) rfl rfl (by omega) (by omega) (by omega) fun hs10_ lb10_ ks10_ qb10_ rb10_ => ?_, fun _ _ h9 => h9⟩)
  have lk10_ := ks10_.1
  show S 78 [some (.ref q)] [.ref az504, .ref q] _ _ _
  refine zw_U (hs 36 _ rfl) (by omega) ((ks10_.2 _ _ ((gz507.2 _ _ wz502.at)) (by omega))) ht (Or.inl ⟨_, rfl⟩) fun hz509 wz510 => ?_
  have wz510 : hd_w G hs10_ hz509 q (t, [.ref az456, .ref az464, .ref az472, .ref az480, .ref az488, .ref az496, .ref az504]) := wz510
  have lwz510 := wz510.1
  exact hs 37 _ rfl _ _ _ _ (by omega) (by omega) (hP _ (((((((((((((((((((((zk.g (D := fun y => y = q) gz459).tr2 (ks4_ : zk _ _ _ (fun y => y = az456)) (fun p_ y1_ (y2_ : p_ = az456) => absurd y1_ (by omega))).tr (zk.w (D := fun y => y = q) wz462 (by first | exact Or.inl rfl | exact Or.inl (Or.inl rfl)))).tr (zk.g (D := fun y => y = q) gz467)).tr2 (ks5_ : zk _ _ _ (fun y => y = az464)) (fun p_ y1_ (y2_ : p_ = az464) => absurd y1_ (by omega))).tr (zk.w (D := fun y => y = q) wz470 (by first | exact Or.inl rfl | exact Or.inl (Or.inl rfl)))).tr (zk.g (D := fun y => y = q) gz475)).tr2 (ks6_ : zk _ _ _ (fun y => y = az472)) (fun p_ y1_ (y2_ : p_ = az472) => absurd y1_ (by omega))).tr (zk.w (D := fun y => y = q) wz478 (by first | exact Or.inl rfl | exact Or.inl (Or.inl rfl)))).tr (zk.g (D := fun y => y = q) gz483)).tr2 (ks7_ : zk _ _ _ (fun y => y = az480)) (fun p_ y1_ (y2_ : p_ = az480) => absurd y1_ (by omega))).tr (zk.w (D := fun y => y = q) wz486 (by first | exact Or.inl rfl | exact Or.inl (Or.inl rfl)))).tr (zk.g (D := fun y => y = q) gz491)).tr2 (ks8_ : zk _ _ _ (fun y => y = az488)) (fun p_ y1_ (y2_ : p_ = az488) => absurd y1_ (by omega))).tr (zk.w (D := fun y => y = q) wz494 (by first | exact Or.inl rfl | exact Or.inl (Or.inl rfl)))).tr (zk.g (D := fun y => y = q) gz499)).tr2 (ks9_ : zk _ _ _ (fun y => y = az496)) (fun p_ y1_ (y2_ : p_ = az496) => absurd y1_ (by omega))).tr (zk.w (D := fun y => y = q) wz502 (by first | exact Or.inl rfl | exact Or.inl (Or.inl rfl)))).tr (zk.g (D := fun y => y = q) gz507)).tr2 (ks10_ : zk _ _ _ (fun y => y = az504)) (fun p_ y1_ (y2_ : p_ = az504) => absurd y1_ (by omega))).tr (zk.w (D := fun y => y = q) wz510 (by first | exact Or.inl rfl | exact Or.inl (Or.inl rfl)))))
set_option maxHeartbeats 4000000 in
theorem zi_prow_M {l : Launch} {G : am_G} {X : ck_XT} (g : gM l G X) {q t : Nat} {x0 x1 x2 x3 : Value} {h : List am_C} (hg : am_g G h q = some (t, [x0, x1, x2, x3])) (ht : t % 100 = 13) (hq : 1000 ≤ q) {mc ms : Nat} {Post : am_O → List am_C → Prop} (hmc : 2 ≤ mc) (hms : 800 ≤ ms)
    (hP : ∀ h', zk G h h' (fun y => y = q) → Post (.inl none) h') :
    am_M l G yX6_init (.code yX6_init prog_8_method_1_code 1 none) 1 20 mc ms [.ref q] h Post := by
  refine gh_yX6_init_X g (Nat.le_of_ble_eq_true rfl) fun S SX hs hr hw hx => ?_
  have rv : ∀ x : Int32, ck_fv 0 (.int x) := fun x => ⟨_, rfl⟩
  have lq_ := zg_lt hg
  refine hs 0 _ rfl _ _ _ _ _ _ _ rfl ?_
  refine hs 1 _ rfl _ _ _ _ _ _ rfl (Nat.le_of_ble_eq_true rfl) ?_
  refine hs 2 _ rfl _ _ _ _ _ _ _ rfl ?_
  refine hs 3 _ rfl _ _ _ _ _ _ _ rfl ?_
  refine zw_E (G := G) (hs 4 _ rfl) (t := 50) (N := 400) rfl (by omega) (by omega) (by omega) (by omega) fun hz511 az512 ez513 lz514 gz515 cz516 => ?_
  refine zw_U (hs 5 _ rfl) (by omega) ((gz515.2 _ _ hg)) ht (Or.inl ⟨_, rfl⟩) fun hz517 wz518 => ?_
  have wz518 : hd_w G hz511 hz517 q (t, [.ref az512, x1, x2, x3]) := wz518
  have lwz518 := wz518.1
  refine hs 6 _ rfl _ _ _ _ _ _ _ rfl ?_
  refine hs 7 _ rfl _ _ _ _ _ _ _ rfl ?_
  refine zw_E (G := G) (hs 8 _ rfl) (t := 50) (N := 400) rfl (by omega) (by omega) (by omega) (by omega) fun hz519 az520 ez521 lz522 gz523 cz524 => ?_
  refine zw_U (hs 9 _ rfl) (by omega) ((gz523.2 _ _ wz518.at)) ht (Or.inl ⟨_, rfl⟩) fun hz525 wz526 => ?_
  have wz526 : hd_w G hz519 hz525 q (t, [.ref az512, .ref az520, x2, x3]) := wz526
  have lwz526 := wz526.1
  exact hs 10 _ rfl _ _ _ _ (by omega) (by omega) (hP _ ((((zk.g (D := fun y => y = q) gz515).tr (zk.w (D := fun y => y = q) wz518 (by first | exact Or.inl rfl | exact Or.inl (Or.inl rfl)))).tr (zk.g (D := fun y => y = q) gz523)).tr (zk.w (D := fun y => y = q) wz526 (by first | exact Or.inl rfl | exact Or.inl (Or.inl rfl)))))
set_option maxHeartbeats 4000000 in
theorem zi_gen_M {l : Launch} {G : am_G} {X : ck_XT} (g : gM l G X) {q t : Nat} {x0 x1 x2 x3 : Value} {h : List am_C} (hg : am_g G h q = some (t, [x0, x1, x2, x3])) (ht : t % 100 = 10) (hq : 1000 ≤ q) {mc ms : Nat} {Post : am_O → List am_C → Prop} (hmc : 1 ≤ mc) (hms : 4 ≤ ms)
    (hP : ∀ h', zk G h h' (fun y => y = q) → Post (.inl none) h') :
    am_M l G yX3_init (.code yX3_init prog_5_method_1_code 1 none) 1 20 mc ms [.ref q] h Post := by
  refine gh_yX3_init_X g (Nat.le_of_ble_eq_true rfl) fun S SX hs hr hw hx => ?_
  have rv : ∀ x : Int32, ck_fv 0 (.int x) := fun x => ⟨_, rfl⟩
  have lq_ := zg_lt hg
  refine hs 0 _ rfl _ _ _ _ _ _ _ rfl ?_
  refine hs 1 _ rfl _ _ _ _ _ _ rfl (Nat.le_of_ble_eq_true rfl) ?_
  refine hs 2 _ rfl _ _ _ _ _ _ _ rfl ?_
  refine hs 3 _ rfl _ _ _ _ _ _ _ rfl ?_
  refine zw_E (G := G) (hs 4 _ rfl) (t := 50) (N := 4) rfl (by omega) (by omega) (by omega) (by omega) fun hz527 az528 ez529 lz530 gz531 cz532 => ?_
  refine zw_U (hs 5 _ rfl) (by omega) ((gz531.2 _ _ hg)) ht (Or.inl ⟨_, rfl⟩) fun hz533 wz534 => ?_
  have wz534 : hd_w G hz527 hz533 q (t, [.ref az528, x1, x2, x3]) := wz534
  have lwz534 := wz534.1
  exact hs 6 _ rfl _ _ _ _ (by omega) (by omega) (hP _ ((zk.g (D := fun y => y = q) gz531).tr (zk.w (D := fun y => y = q) wz534 (by first | exact Or.inl rfl | exact Or.inl (Or.inl rfl)))))
set_option maxHeartbeats 4000000 in
theorem zi_join_M {l : Launch} {G : am_G} {X : ck_XT} (g : gM l G X) {q t : Nat} {x0 x1 x2 : Value} {h : List am_C} (hg : am_g G h q = some (t, [x0, x1, x2])) (ht : t % 100 = 11) {mc ms : Nat} {Post : am_O → List am_C → Prop} (hP : Post (.inl none) h) :
    am_M l G yX4_init (.code yX4_init prog_6_method_1_code 1 none) 1 20 mc ms [.ref q] h Post := by
  refine gh_yX4_init_X g (Nat.le_of_ble_eq_true rfl) fun S SX hs hr hw hx => ?_
  have rv : ∀ x : Int32, ck_fv 0 (.int x) := fun x => ⟨_, rfl⟩
  refine hs 0 _ rfl _ _ _ _ _ _ _ rfl ?_
  refine hs 1 _ rfl _ _ _ _ _ _ rfl (Nat.le_of_ble_eq_true rfl) ?_
  exact hs 2 _ rfl _ _ _ _ (Nat.zero_le _) (Nat.zero_le _) hP
set_option maxHeartbeats 4000000 in
theorem zi_abs_M {l : Launch} {G : am_G} {X : ck_XT} (g : gM l G X) {q t : Nat} {x0 x1 x2 x3 : Value} {h : List am_C} (hg : am_g G h q = some (t, [x0, x1, x2, x3])) (ht : t % 100 = 1) (hq : 1000 ≤ q) {mc ms : Nat} {Post : am_O → List am_C → Prop} (hmc : 1 ≤ mc) (hms : 16 ≤ ms)
    (hP : ∀ h', zk G h h' (fun y => y = q) → Post (.inl none) h') :
    am_M l G yJ5_init_d00df (.code yJ5_init_d00df prog_18_method_2_code 2 none) 1 20 mc ms [.ref q, .int (Int32.ofInt 16)] h Post := by
  refine gh_yJ5_init_d00df_X g (Nat.le_of_ble_eq_true rfl) fun S SX hs hr hw hx => ?_
  have rv : ∀ x : Int32, ck_fv 0 (.int x) := fun x => ⟨_, rfl⟩
  have lq_ := zg_lt hg
  refine hs 0 _ rfl _ _ _ _ _ _ _ rfl ?_
  refine hs 1 _ rfl _ _ _ _ _ _ rfl (Nat.le_of_ble_eq_true rfl) ?_
  refine hs 2 _ rfl _ _ _ _ _ _ _ rfl ?_
  refine hs 3 _ rfl _ _ _ _ _ _ (fun zq => absurd (hd_c1z (c := 0) (by omega) (by omega) zq) (by omega : ¬ ((1 : Int) = 0))) (fun _ => ?_)
  refine hs 4 _ rfl _ _ _ _ _ _ _ rfl ?_
  refine hs 5 _ rfl _ _ _ _ _ _ _ rfl ?_
  refine zw_E (G := G) (hs 6 _ rfl) (t := 51) (N := 16) rfl (by omega) (by omega) (by omega) (by omega) fun hz535 az536 ez537 lz538 gz539 cz540 => ?_
  refine zw_U (hs 7 _ rfl) (by omega) ((gz539.2 _ _ hg)) ht (Or.inl ⟨_, rfl⟩) fun hz541 wz542 => ?_
  have wz542 : hd_w G hz535 hz541 q (t, [.ref az536, x1, x2, x3]) := wz542
  have lwz542 := wz542.1
  refine hs 8 _ rfl _ _ _ _ _ _ _ rfl ?_
  refine hs 9 _ rfl _ _ _ _ _ _ _ rfl ?_
  refine zw_U (hs 10 _ rfl) (by omega) (wz542.at) ht ⟨_, rfl, by decide, by decide⟩ fun hz543 wz544 => ?_
  have wz544 : hd_w G hz541 hz543 q (t, [.ref az536, .int (Int32.ofInt (0 : Int)), x2, x3]) := wz544
  have lwz544 := wz544.1
  refine hs 11 _ rfl _ _ _ _ _ ?_
  exact hs 14 _ rfl _ _ _ _ (by omega) (by omega) (hP _ (((zk.g (D := fun y => y = q) gz539).tr (zk.w (D := fun y => y = q) wz542 (by first | exact Or.inl rfl | exact Or.inl (Or.inl rfl)))).tr (zk.w (D := fun y => y = q) wz544 (by first | exact Or.inl rfl | exact Or.inl (Or.inl rfl)))))
set_option maxHeartbeats 4000000 in
theorem zi_sb_M {l : Launch} {G : am_G} {X : ck_XT} (g : gM l G X) {q t : Nat} {x0 x1 x2 x3 : Value} {h : List am_C} (hg : am_g G h q = some (t, [x0, x1, x2, x3])) (ht : t % 100 = 1) (hq : 1000 ≤ q) {mc ms : Nat} {Post : am_O → List am_C → Prop} (hmc : 1 ≤ mc) (hms : 16 ≤ ms)
    (hP : ∀ h', zk G h h' (fun y => y = q) → Post (.inl none) h') :
    am_M l G yJ4_init_da8c8 (.code yJ4_init_da8c8 prog_36_method_1_code 1 none) 2 41 mc ms [.ref q] h Post := by
  refine gh_yJ4_init_da8c8_X g (Nat.le_of_ble_eq_true rfl) fun S SX hs hr hw hx => ?_
  have rv : ∀ x : Int32, ck_fv 0 (.int x) := fun x => ⟨_, rfl⟩
  refine hs 0 _ rfl _ _ _ _ _ _ _ rfl ?_
  refine hs 1 _ rfl _ _ _ _ _ _ _ rfl ?_
  refine zw_cmn (hs 2 _ rfl) (a := [.ref q, .int (Int32.ofInt (16 : Int))]) (st := []) 1 16 rfl rfl (Nat.le_of_ble_eq_true rfl) ⟨_, _, _, rfl, (hg), ht⟩ (by omega) (by omega) (⟨zi_abs_M g hg ht hq (by omega) (by omega) fun hs_ ks_ => ?_, fun _ _ h9 => h9⟩)
  show S 6 [some (.ref q)] [] _ _ _
  exact hs 3 _ rfl _ _ _ _ (by omega) (by omega) (hP _ ks_)
set_option maxHeartbeats 4000000 in
theorem zi_class_M {l : Launch} {G : am_G} {X : ck_XT} (g : gM l G X) {x : Nat} {h : List am_C} (hg : am_g G h x = some (1015, [.null, .null, .int 0, .int 0, .int 0, .null, .null, .null, .null, .null, .null, .null, .null])) (hx_ : 1000 ≤ x) (hl_ : x + 1 = 1000 + h.length) {mc ms : Nat} {Post : am_O → List am_C → Prop} (hmc : 257 ≤ mc) (hms : 2420 ≤ ms)
    (hP : ∀ (h' : List am_C) (r : Nat → Nat), zk G h h' (fun y => y = x) → zc_X G h' x r 0 0 0 sp_0 [] → Post (.inl none) h') :
    am_M l G yX10_init (.code yX10_init prog_1_method_1_code 1 none) 4 82 mc ms [.ref x] h Post := by
  refine gh_yX10_init_X g (Nat.le_of_ble_eq_true rfl) fun S SX hs hr hw hx => ?_
  have rv : ∀ x : Int32, ck_fv 0 (.int x) := fun x => ⟨_, rfl⟩
  refine hs 0 _ rfl _ _ _ _ _ _ _ rfl ?_
  refine hs 1 _ rfl _ _ _ _ _ _ rfl (Nat.le_of_ble_eq_true rfl) ?_
  refine hs 2 _ rfl _ _ _ _ _ _ _ rfl ?_
  refine zw_W (G := G) (hs 3 _ rfl) (t := 1014) (vs := [.int 0, .null, .int 0, .null, .null, .int 0, .null]) (m := 7) rfl rfl rfl (by omega) (by omega) fun hz545 az546 ez547 lz548 gz549 cz550 => ?_
  refine hs 4 _ rfl _ _ _ _ _ _ _ rfl ?_
  refine zw_cmn (hs 5 _ rfl) (a := [.ref az546]) (st := [.ref az546, .ref x]) 16 101 rfl rfl (Nat.le_of_ble_eq_true rfl) ⟨_, _, _, rfl, (cz550), rfl⟩ (by omega) (by omega) (⟨zi_state_M g (cz550) (by omega) (by omega) (by omega) (by omega) fun hs11_ lb11_ ks11_ sS_ => ?_, fun _ _ h9 => h9⟩)
  have lk11_ := ks11_.1
  show S 12 [some (.ref x)] [.ref az546, .ref x] _ _ _
  refine zw_U (hs 6 _ rfl) (by omega) ((ks11_.2 _ _ ((gz549.2 _ _ hg)) (by omega))) rfl (Or.inl ⟨_, rfl⟩) fun hz551 wz552 => ?_
  have wz552 : hd_w G hs11_ hz551 x (1015, [.ref az546, .null, .int 0, .int 0, .int 0, .null, .null, .null, .null, .null, .null, .null, .null]) := wz552
  have lwz552 := wz552.1
  refine hs 7 _ rfl _ _ _ _ _ _ _ rfl ?_
  refine zw_W (G := G) (hs 8 _ rfl) (t := 1012) (vs := [.null, .int 0, .int 0]) (m := 3) rfl rfl rfl (by omega) (by omega) fun hz553 az554 ez555 lz556 gz557 cz558 => ?_
  refine hs 9 _ rfl _ _ _ _ _ _ _ rfl ?_
  refine zw_cmn (hs 10 _ rfl) (a := [.ref az554]) (st := [.ref az554, .ref x]) 205 1308 rfl rfl (Nat.le_of_ble_eq_true rfl) ⟨_, _, _, rfl, (cz558), rfl⟩ (by omega) (by omega) (⟨zi_past_M g (cz558) (by omega) (by omega) (by omega) (by omega) fun hs12_ lb12_ ks12_ sP_ => ?_, fun _ _ h9 => h9⟩)
  have lk12_ := ks12_.1
  show S 23 [some (.ref x)] [.ref az554, .ref x] _ _ _
  refine zw_U (hs 11 _ rfl) (by omega) ((ks12_.2 _ _ ((gz557.2 _ _ wz552.at)) (by omega))) rfl (Or.inl ⟨_, rfl⟩) fun hz559 wz560 => ?_
  have wz560 : hd_w G hs12_ hz559 x (1015, [.ref az546, .ref az554, .int 0, .int 0, .int 0, .null, .null, .null, .null, .null, .null, .null, .null]) := wz560
  have lwz560 := wz560.1
  refine hs 12 _ rfl _ _ _ _ _ _ _ rfl ?_
  refine zw_W (G := G) (hs 13 _ rfl) (t := 1007) (vs := [.null, .int 0, .int 0]) (m := 3) rfl rfl rfl (by omega) (by omega) fun hz561 az562 ez563 lz564 gz565 cz566 => ?_
  refine hs 14 _ rfl _ _ _ _ _ _ _ rfl ?_
  refine zw_cmn (hs 15 _ rfl) (a := [.ref az562]) (st := [.ref az562, .ref x]) 1 10 rfl rfl (Nat.le_of_ble_eq_true rfl) ⟨_, _, _, rfl, (cz566), rfl⟩ (by omega) (by omega) (⟨zi_big_M (td := 1050) g (cz566) rfl rfl (by omega) (by omega) (by omega) fun hs13_ lb13_ ks13_ qb13_ rb13_ => ?_, fun _ _ h9 => h9⟩)
  have lk13_ := ks13_.1
  show S 34 [some (.ref x)] [.ref az562, .ref x] _ _ _
  refine zw_U (hs 16 _ rfl) (by omega) ((ks13_.2 _ _ ((gz565.2 _ _ wz560.at)) (by omega))) rfl (Or.inl ⟨_, rfl⟩) fun hz567 wz568 => ?_
  have wz568 : hd_w G hs13_ hz567 x (1015, [.ref az546, .ref az554, .int 0, .int 0, .int 0, .ref az562, .null, .null, .null, .null, .null, .null, .null]) := wz568
  have lwz568 := wz568.1
  refine hs 17 _ rfl _ _ _ _ _ _ _ rfl ?_
  refine zw_W (G := G) (hs 18 _ rfl) (t := 1007) (vs := [.null, .int 0, .int 0]) (m := 3) rfl rfl rfl (by omega) (by omega) fun hz569 az570 ez571 lz572 gz573 cz574 => ?_
  refine hs 19 _ rfl _ _ _ _ _ _ _ rfl ?_
  refine zw_cmn (hs 20 _ rfl) (a := [.ref az570]) (st := [.ref az570, .ref x]) 1 10 rfl rfl (Nat.le_of_ble_eq_true rfl) ⟨_, _, _, rfl, (cz574), rfl⟩ (by omega) (by omega) (⟨zi_big_M (td := 1050) g (cz574) rfl rfl (by omega) (by omega) (by omega) fun hs14_ lb14_ ks14_ qb14_ rb14_ => ?_, fun _ _ h9 => h9⟩)
  have lk14_ := ks14_.1
  show S 45 [some (.ref x)] [.ref az570, .ref x] _ _ _
  refine zw_U (hs 21 _ rfl) (by omega) ((ks14_.2 _ _ ((gz573.2 _ _ wz568.at)) (by omega))) rfl (Or.inl ⟨_, rfl⟩) fun hz575 wz576 => ?_
  have wz576 : hd_w G hs14_ hz575 x (1015, [.ref az546, .ref az554, .int 0, .int 0, .int 0, .ref az562, .ref az570, .null, .null, .null, .null, .null, .null]) := wz576
  have lwz576 := wz576.1
  refine hs 22 _ rfl _ _ _ _ _ _ _ rfl ?_
  refine zw_W (G := G) (hs 23 _ rfl) (t := 1007) (vs := [.null, .int 0, .int 0]) (m := 3) rfl rfl rfl (by omega) (by omega) fun hz577 az578 ez579 lz580 gz581 cz582 => ?_
  refine hs 24 _ rfl _ _ _ _ _ _ _ rfl ?_
  refine zw_cmn (hs 25 _ rfl) (a := [.ref az578]) (st := [.ref az578, .ref x]) 1 10 rfl rfl (Nat.le_of_ble_eq_true rfl) ⟨_, _, _, rfl, (cz582), rfl⟩ (by omega) (by omega) (⟨zi_big_M (td := 1050) g (cz582) rfl rfl (by omega) (by omega) (by omega) fun hs15_ lb15_ ks15_ qb15_ rb15_ => ?_, fun _ _ h9 => h9⟩)
  have lk15_ := ks15_.1
  show S 56 [some (.ref x)] [.ref az578, .ref x] _ _ _
  refine zw_U (hs 26 _ rfl) (by omega) ((ks15_.2 _ _ ((gz581.2 _ _ wz576.at)) (by omega))) rfl (Or.inl ⟨_, rfl⟩) fun hz583 wz584 => ?_
  have wz584 : hd_w G hs15_ hz583 x (1015, [.ref az546, .ref az554, .int 0, .int 0, .int 0, .ref az562, .ref az570, .ref az578, .null, .null, .null, .null, .null]) := wz584
  have lwz584 := wz584.1
  refine hs 27 _ rfl _ _ _ _ _ _ _ rfl ?_
  refine zw_W (G := G) (hs 28 _ rfl) (t := 8) (vs := [.null, .null, .null, .null, .null, .null, .null]) (m := 7) rfl rfl rfl (by omega) (by omega) fun hz585 az586 ez587 lz588 gz589 cz590 => ?_
  refine hs 29 _ rfl _ _ _ _ _ _ _ rfl ?_
  refine zw_cmn (hs 30 _ rfl) (a := [.ref az586]) (st := [.ref az586, .ref x]) 19 120 rfl rfl (Nat.le_of_ble_eq_true rfl) ⟨_, _, _, rfl, (cz590), rfl⟩ (by omega) (by omega) (⟨zi_bround_M g (cz590) rfl (by omega) (by omega) (by omega) fun hs16_ ks16_ => ?_, fun _ _ h9 => h9⟩)
  have lk16_ := ks16_.1
  show S 67 [some (.ref x)] [.ref az586, .ref x] _ _ _
  refine zw_U (hs 31 _ rfl) (by omega) ((ks16_.2 _ _ ((gz589.2 _ _ wz584.at)) (by omega))) rfl (Or.inl ⟨_, rfl⟩) fun hz591 wz592 => ?_
  have wz592 : hd_w G hs16_ hz591 x (1015, [.ref az546, .ref az554, .int 0, .int 0, .int 0, .ref az562, .ref az570, .ref az578, .ref az586, .null, .null, .null, .null]) := wz592
  have lwz592 := wz592.1
  refine hs 32 _ rfl _ _ _ _ _ _ _ rfl ?_
  refine zw_W (G := G) (hs 33 _ rfl) (t := 13) (vs := [.null, .null, .int 0, .int 0]) (m := 4) rfl rfl rfl (by omega) (by omega) fun hz593 az594 ez595 lz596 gz597 cz598 => ?_
  refine hs 34 _ rfl _ _ _ _ _ _ _ rfl ?_
  refine zw_cmn (hs 35 _ rfl) (a := [.ref az594]) (st := [.ref az594, .ref x]) 2 800 rfl rfl (Nat.le_of_ble_eq_true rfl) ⟨_, _, _, rfl, (cz598), rfl⟩ (by omega) (by omega) (⟨zi_prow_M g (cz598) rfl (by omega) (by omega) (by omega) fun hs17_ ks17_ => ?_, fun _ _ h9 => h9⟩)
  have lk17_ := ks17_.1
  show S 78 [some (.ref x)] [.ref az594, .ref x] _ _ _
  refine zw_U (hs 36 _ rfl) (by omega) ((ks17_.2 _ _ ((gz597.2 _ _ wz592.at)) (by omega))) rfl (Or.inl ⟨_, rfl⟩) fun hz599 wz600 => ?_
  have wz600 : hd_w G hs17_ hz599 x (1015, [.ref az546, .ref az554, .int 0, .int 0, .int 0, .ref az562, .ref az570, .ref az578, .ref az586, .ref az594, .null, .null, .null]) := wz600
  have lwz600 := wz600.1
  refine hs 37 _ rfl _ _ _ _ _ _ _ rfl ?_
  refine zw_W (G := G) (hs 38 _ rfl) (t := 10) (vs := [.null, .int 0, .int 0, .int 0]) (m := 4) rfl rfl rfl (by omega) (by omega) fun hz601 az602 ez603 lz604 gz605 cz606 => ?_
  refine hs 39 _ rfl _ _ _ _ _ _ _ rfl ?_
  refine zw_cmn (hs 40 _ rfl) (a := [.ref az602]) (st := [.ref az602, .ref x]) 1 4 rfl rfl (Nat.le_of_ble_eq_true rfl) ⟨_, _, _, rfl, (cz606), rfl⟩ (by omega) (by omega) (⟨zi_gen_M g (cz606) rfl (by omega) (by omega) (by omega) fun hs18_ ks18_ => ?_, fun _ _ h9 => h9⟩)
  have lk18_ := ks18_.1
  show S 89 [some (.ref x)] [.ref az602, .ref x] _ _ _
  refine zw_U (hs 41 _ rfl) (by omega) ((ks18_.2 _ _ ((gz605.2 _ _ wz600.at)) (by omega))) rfl (Or.inl ⟨_, rfl⟩) fun hz607 wz608 => ?_
  have wz608 : hd_w G hs18_ hz607 x (1015, [.ref az546, .ref az554, .int 0, .int 0, .int 0, .ref az562, .ref az570, .ref az578, .ref az586, .ref az594, .ref az602, .null, .null]) := wz608
  have lwz608 := wz608.1
  refine hs 42 _ rfl _ _ _ _ _ _ _ rfl ?_
  refine zw_W (G := G) (hs 43 _ rfl) (t := 1011) (vs := [.int 0, .long 0, .long 0]) (m := 3) rfl rfl rfl (by omega) (by omega) fun hz609 az610 ez611 lz612 gz613 cz614 => ?_
  refine hs 44 _ rfl _ _ _ _ _ _ _ rfl ?_
  refine zw_cn (hs 45 _ rfl) (a := [.ref az610]) (st := [.ref az610, .ref x]) rfl rfl (Nat.le_of_ble_eq_true rfl) ⟨_, _, _, rfl, (cz614), rfl⟩ (by omega) (by omega) (⟨zi_join_M g (cz614) rfl ?_, fun _ _ h9 => h9⟩)
  show S 100 [some (.ref x)] [.ref az610, .ref x] _ _ _
  refine zw_U (hs 46 _ rfl) (by omega) ((gz613.2 _ _ wz608.at)) rfl (Or.inl ⟨_, rfl⟩) fun hz615 wz616 => ?_
  have wz616 : hd_w G hz609 hz615 x (1015, [.ref az546, .ref az554, .int 0, .int 0, .int 0, .ref az562, .ref az570, .ref az578, .ref az586, .ref az594, .ref az602, .ref az610, .null]) := wz616
  have lwz616 := wz616.1
  refine hs 47 _ rfl _ _ _ _ _ _ _ rfl ?_
  refine zw_W (G := G) (hs 48 _ rfl) (t := 1) (vs := [.null, .int 0, .int 0, .int 0]) (m := 4) rfl rfl rfl (by omega) (by omega) fun hz617 az618 ez619 lz620 gz621 cz622 => ?_
  refine hs 49 _ rfl _ _ _ _ _ _ _ rfl ?_
  refine zw_cmn (hs 50 _ rfl) (a := [.ref az618]) (st := [.ref az618, .ref x]) 1 16 rfl rfl (Nat.le_of_ble_eq_true rfl) ⟨_, _, _, rfl, (cz622), rfl⟩ (by omega) (by omega) (⟨zi_sb_M g (cz622) rfl (by omega) (by omega) (by omega) fun hs19_ ks19_ => ?_, fun _ _ h9 => h9⟩)
  have lk19_ := ks19_.1
  show S 111 [some (.ref x)] [.ref az618, .ref x] _ _ _
  refine zw_U (hs 51 _ rfl) (by omega) ((ks19_.2 _ _ ((gz621.2 _ _ wz616.at)) (by omega))) rfl (Or.inl ⟨_, rfl⟩) fun hz623 wz624 => ?_
  have wz624 : hd_w G hs19_ hz623 x (1015, [.ref az546, .ref az554, .int 0, .int 0, .int 0, .ref az562, .ref az570, .ref az578, .ref az586, .ref az594, .ref az602, .ref az610, .ref az618]) := wz624
  have lwz624 := wz624.1
  have a11_ : az546 = x + 1 := by omega
  have a12_ : az554 = x + 18 := by omega
  have a13_ : az562 = x + 224 := by omega
  have a14_ : az570 = x + 226 := by omega
  have b13_ : 1000 + hz561.length = x + 224 + 1 := by omega
  have b14_ : 1000 + hz569.length = x + 226 + 1 := by omega
  have z1_ := sS_.k (((((((((((((((((((((((((((zk.w (D := fun y => y = x ∨ x + 18 ≤ y) wz552 (Or.inl (Or.inl rfl))).tr (zk.g (D := fun y => y = x ∨ x + 18 ≤ y) gz557)).tr (ks12_.mono fun p_ (y_ : p_ = az554) => (Or.inr (by omega) : p_ = x ∨ x + 18 ≤ p_))).tr (zk.w (D := fun y => y = x ∨ x + 18 ≤ y) wz560 (Or.inl (Or.inl rfl)))).tr (zk.g (D := fun y => y = x ∨ x + 18 ≤ y) gz565)).tr (ks13_.mono fun p_ (y_ : p_ = az562) => (Or.inr (by omega) : p_ = x ∨ x + 18 ≤ p_))).tr (zk.w (D := fun y => y = x ∨ x + 18 ≤ y) wz568 (Or.inl (Or.inl rfl)))).tr (zk.g (D := fun y => y = x ∨ x + 18 ≤ y) gz573)).tr (ks14_.mono fun p_ (y_ : p_ = az570) => (Or.inr (by omega) : p_ = x ∨ x + 18 ≤ p_))).tr (zk.w (D := fun y => y = x ∨ x + 18 ≤ y) wz576 (Or.inl (Or.inl rfl)))).tr (zk.g (D := fun y => y = x ∨ x + 18 ≤ y) gz581)).tr (ks15_.mono fun p_ (y_ : p_ = az578) => (Or.inr (by omega) : p_ = x ∨ x + 18 ≤ p_))).tr (zk.w (D := fun y => y = x ∨ x + 18 ≤ y) wz584 (Or.inl (Or.inl rfl)))).tr (zk.g (D := fun y => y = x ∨ x + 18 ≤ y) gz589)).tr (ks16_.mono fun p_ (y_ : p_ = az586) => (Or.inr (by omega) : p_ = x ∨ x + 18 ≤ p_))).tr (zk.w (D := fun y => y = x ∨ x + 18 ≤ y) wz592 (Or.inl (Or.inl rfl)))).tr (zk.g (D := fun y => y = x ∨ x + 18 ≤ y) gz597)).tr (ks17_.mono fun p_ (y_ : p_ = az594) => (Or.inr (by omega) : p_ = x ∨ x + 18 ≤ p_))).tr (zk.w (D := fun y => y = x ∨ x + 18 ≤ y) wz600 (Or.inl (Or.inl rfl)))).tr (zk.g (D := fun y => y = x ∨ x + 18 ≤ y) gz605)).tr (ks18_.mono fun p_ (y_ : p_ = az602) => (Or.inr (by omega) : p_ = x ∨ x + 18 ≤ p_))).tr (zk.w (D := fun y => y = x ∨ x + 18 ≤ y) wz608 (Or.inl (Or.inl rfl)))).tr (zk.g (D := fun y => y = x ∨ x + 18 ≤ y) gz613)).tr (zk.w (D := fun y => y = x ∨ x + 18 ≤ y) wz616 (Or.inl (Or.inl rfl)))).tr (zk.g (D := fun y => y = x ∨ x + 18 ≤ y) gz621)).tr (ks19_.mono fun p_ (y_ : p_ = az618) => (Or.inr (by omega) : p_ = x ∨ x + 18 ≤ p_))).tr (zk.w (D := fun y => y = x ∨ x + 18 ≤ y) wz624 (Or.inl (Or.inl rfl)))) (fun y h1 h2 (h3 : y = x ∨ x + 18 ≤ y) => by omega)
  have z2_ := sP_.k ((((((((((((((((((((((((zk.w (D := fun y => y = x ∨ x + 224 ≤ y) wz560 (Or.inl (Or.inl rfl))).tr (zk.g (D := fun y => y = x ∨ x + 224 ≤ y) gz565)).tr (ks13_.mono fun p_ (y_ : p_ = az562) => (Or.inr (by omega) : p_ = x ∨ x + 224 ≤ p_))).tr (zk.w (D := fun y => y = x ∨ x + 224 ≤ y) wz568 (Or.inl (Or.inl rfl)))).tr (zk.g (D := fun y => y = x ∨ x + 224 ≤ y) gz573)).tr (ks14_.mono fun p_ (y_ : p_ = az570) => (Or.inr (by omega) : p_ = x ∨ x + 224 ≤ p_))).tr (zk.w (D := fun y => y = x ∨ x + 224 ≤ y) wz576 (Or.inl (Or.inl rfl)))).tr (zk.g (D := fun y => y = x ∨ x + 224 ≤ y) gz581)).tr (ks15_.mono fun p_ (y_ : p_ = az578) => (Or.inr (by omega) : p_ = x ∨ x + 224 ≤ p_))).tr (zk.w (D := fun y => y = x ∨ x + 224 ≤ y) wz584 (Or.inl (Or.inl rfl)))).tr (zk.g (D := fun y => y = x ∨ x + 224 ≤ y) gz589)).tr (ks16_.mono fun p_ (y_ : p_ = az586) => (Or.inr (by omega) : p_ = x ∨ x + 224 ≤ p_))).tr (zk.w (D := fun y => y = x ∨ x + 224 ≤ y) wz592 (Or.inl (Or.inl rfl)))).tr (zk.g (D := fun y => y = x ∨ x + 224 ≤ y) gz597)).tr (ks17_.mono fun p_ (y_ : p_ = az594) => (Or.inr (by omega) : p_ = x ∨ x + 224 ≤ p_))).tr (zk.w (D := fun y => y = x ∨ x + 224 ≤ y) wz600 (Or.inl (Or.inl rfl)))).tr (zk.g (D := fun y => y = x ∨ x + 224 ≤ y) gz605)).tr (ks18_.mono fun p_ (y_ : p_ = az602) => (Or.inr (by omega) : p_ = x ∨ x + 224 ≤ p_))).tr (zk.w (D := fun y => y = x ∨ x + 224 ≤ y) wz608 (Or.inl (Or.inl rfl)))).tr (zk.g (D := fun y => y = x ∨ x + 224 ≤ y) gz613)).tr (zk.w (D := fun y => y = x ∨ x + 224 ≤ y) wz616 (Or.inl (Or.inl rfl)))).tr (zk.g (D := fun y => y = x ∨ x + 224 ≤ y) gz621)).tr (ks19_.mono fun p_ (y_ : p_ = az618) => (Or.inr (by omega) : p_ = x ∨ x + 224 ≤ p_))).tr (zk.w (D := fun y => y = x ∨ x + 224 ≤ y) wz624 (Or.inl (Or.inl rfl)))) (fun y h1 h2 (h3 : y = x ∨ x + 224 ≤ y) => by omega)
  rw [a11_] at z1_
  rw [a12_] at z2_
  rw [b13_] at qb13_ rb13_
  rw [a13_] at qb13_
  rw [b14_] at qb14_ rb14_
  rw [a14_] at qb14_
  have u1_ : zc_w G _ (x + 224) := ⟨0, 0, _, qb13_, rb13_, zi_sb0.1, by decide⟩
  have u2_ : zc_w G _ (x + 226) := ⟨0, 0, _, qb14_, rb14_, zi_sb0.1, by decide⟩
  have z3_ := u1_.k (((((((((((((((((((((zk.w (D := fun y => y = x ∨ x + 226 ≤ y) wz568 (Or.inl (Or.inl rfl))).tr (zk.g (D := fun y => y = x ∨ x + 226 ≤ y) gz573)).tr (ks14_.mono fun p_ (y_ : p_ = az570) => (Or.inr (by omega) : p_ = x ∨ x + 226 ≤ p_))).tr (zk.w (D := fun y => y = x ∨ x + 226 ≤ y) wz576 (Or.inl (Or.inl rfl)))).tr (zk.g (D := fun y => y = x ∨ x + 226 ≤ y) gz581)).tr (ks15_.mono fun p_ (y_ : p_ = az578) => (Or.inr (by omega) : p_ = x ∨ x + 226 ≤ p_))).tr (zk.w (D := fun y => y = x ∨ x + 226 ≤ y) wz584 (Or.inl (Or.inl rfl)))).tr (zk.g (D := fun y => y = x ∨ x + 226 ≤ y) gz589)).tr (ks16_.mono fun p_ (y_ : p_ = az586) => (Or.inr (by omega) : p_ = x ∨ x + 226 ≤ p_))).tr (zk.w (D := fun y => y = x ∨ x + 226 ≤ y) wz592 (Or.inl (Or.inl rfl)))).tr (zk.g (D := fun y => y = x ∨ x + 226 ≤ y) gz597)).tr (ks17_.mono fun p_ (y_ : p_ = az594) => (Or.inr (by omega) : p_ = x ∨ x + 226 ≤ p_))).tr (zk.w (D := fun y => y = x ∨ x + 226 ≤ y) wz600 (Or.inl (Or.inl rfl)))).tr (zk.g (D := fun y => y = x ∨ x + 226 ≤ y) gz605)).tr (ks18_.mono fun p_ (y_ : p_ = az602) => (Or.inr (by omega) : p_ = x ∨ x + 226 ≤ p_))).tr (zk.w (D := fun y => y = x ∨ x + 226 ≤ y) wz608 (Or.inl (Or.inl rfl)))).tr (zk.g (D := fun y => y = x ∨ x + 226 ≤ y) gz613)).tr (zk.w (D := fun y => y = x ∨ x + 226 ≤ y) wz616 (Or.inl (Or.inl rfl)))).tr (zk.g (D := fun y => y = x ∨ x + 226 ≤ y) gz621)).tr (ks19_.mono fun p_ (y_ : p_ = az618) => (Or.inr (by omega) : p_ = x ∨ x + 226 ≤ p_))).tr (zk.w (D := fun y => y = x ∨ x + 226 ≤ y) wz624 (Or.inl (Or.inl rfl)))) (fun (h3 : x + 224 = x ∨ x + 226 ≤ x + 224) => by omega) (fun (h3 : x + 224 + 1 = x ∨ x + 226 ≤ x + 224 + 1) => by omega)
  have z4_ := u2_.k ((((((((((((((((((zk.w (D := fun y => y = x ∨ x + 228 ≤ y) wz576 (Or.inl (Or.inl rfl))).tr (zk.g (D := fun y => y = x ∨ x + 228 ≤ y) gz581)).tr (ks15_.mono fun p_ (y_ : p_ = az578) => (Or.inr (by omega) : p_ = x ∨ x + 228 ≤ p_))).tr (zk.w (D := fun y => y = x ∨ x + 228 ≤ y) wz584 (Or.inl (Or.inl rfl)))).tr (zk.g (D := fun y => y = x ∨ x + 228 ≤ y) gz589)).tr (ks16_.mono fun p_ (y_ : p_ = az586) => (Or.inr (by omega) : p_ = x ∨ x + 228 ≤ p_))).tr (zk.w (D := fun y => y = x ∨ x + 228 ≤ y) wz592 (Or.inl (Or.inl rfl)))).tr (zk.g (D := fun y => y = x ∨ x + 228 ≤ y) gz597)).tr (ks17_.mono fun p_ (y_ : p_ = az594) => (Or.inr (by omega) : p_ = x ∨ x + 228 ≤ p_))).tr (zk.w (D := fun y => y = x ∨ x + 228 ≤ y) wz600 (Or.inl (Or.inl rfl)))).tr (zk.g (D := fun y => y = x ∨ x + 228 ≤ y) gz605)).tr (ks18_.mono fun p_ (y_ : p_ = az602) => (Or.inr (by omega) : p_ = x ∨ x + 228 ≤ p_))).tr (zk.w (D := fun y => y = x ∨ x + 228 ≤ y) wz608 (Or.inl (Or.inl rfl)))).tr (zk.g (D := fun y => y = x ∨ x + 228 ≤ y) gz613)).tr (zk.w (D := fun y => y = x ∨ x + 228 ≤ y) wz616 (Or.inl (Or.inl rfl)))).tr (zk.g (D := fun y => y = x ∨ x + 228 ≤ y) gz621)).tr (ks19_.mono fun p_ (y_ : p_ = az618) => (Or.inr (by omega) : p_ = x ∨ x + 228 ≤ p_))).tr (zk.w (D := fun y => y = x ∨ x + 228 ≤ y) wz624 (Or.inl (Or.inl rfl)))) (fun (h3 : x + 226 = x ∨ x + 228 ≤ x + 226) => by omega) (fun (h3 : x + 226 + 1 = x ∨ x + 228 ≤ x + 226 + 1) => by omega)
  have fx_ := (wz624.at)
  rw [a11_, a12_, a13_, a14_] at fx_
  have kk_ : zk G h hz623 (fun y => y = x) := (((((((((((((((((((((((((((((zk.g (D := fun y => y = x) gz549).tr2 (ks11_ : zk _ _ _ (fun y => y = az546)) (fun p_ y1_ (y2_ : p_ = az546) => absurd y1_ (by omega))).tr (zk.w (D := fun y => y = x) wz552 (by first | exact Or.inl rfl | exact Or.inl (Or.inl rfl)))).tr (zk.g (D := fun y => y = x) gz557)).tr2 (ks12_ : zk _ _ _ (fun y => y = az554)) (fun p_ y1_ (y2_ : p_ = az554) => absurd y1_ (by omega))).tr (zk.w (D := fun y => y = x) wz560 (by first | exact Or.inl rfl | exact Or.inl (Or.inl rfl)))).tr (zk.g (D := fun y => y = x) gz565)).tr2 (ks13_ : zk _ _ _ (fun y => y = az562)) (fun p_ y1_ (y2_ : p_ = az562) => absurd y1_ (by omega))).tr (zk.w (D := fun y => y = x) wz568 (by first | exact Or.inl rfl | exact Or.inl (Or.inl rfl)))).tr (zk.g (D := fun y => y = x) gz573)).tr2 (ks14_ : zk _ _ _ (fun y => y = az570)) (fun p_ y1_ (y2_ : p_ = az570) => absurd y1_ (by omega))).tr (zk.w (D := fun y => y = x) wz576 (by first | exact Or.inl rfl | exact Or.inl (Or.inl rfl)))).tr (zk.g (D := fun y => y = x) gz581)).tr2 (ks15_ : zk _ _ _ (fun y => y = az578)) (fun p_ y1_ (y2_ : p_ = az578) => absurd y1_ (by omega))).tr (zk.w (D := fun y => y = x) wz584 (by first | exact Or.inl rfl | exact Or.inl (Or.inl rfl)))).tr (zk.g (D := fun y => y = x) gz589)).tr2 (ks16_ : zk _ _ _ (fun y => y = az586)) (fun p_ y1_ (y2_ : p_ = az586) => absurd y1_ (by omega))).tr (zk.w (D := fun y => y = x) wz592 (by first | exact Or.inl rfl | exact Or.inl (Or.inl rfl)))).tr (zk.g (D := fun y => y = x) gz597)).tr2 (ks17_ : zk _ _ _ (fun y => y = az594)) (fun p_ y1_ (y2_ : p_ = az594) => absurd y1_ (by omega))).tr (zk.w (D := fun y => y = x) wz600 (by first | exact Or.inl rfl | exact Or.inl (Or.inl rfl)))).tr (zk.g (D := fun y => y = x) gz605)).tr2 (ks18_ : zk _ _ _ (fun y => y = az602)) (fun p_ y1_ (y2_ : p_ = az602) => absurd y1_ (by omega))).tr (zk.w (D := fun y => y = x) wz608 (by first | exact Or.inl rfl | exact Or.inl (Or.inl rfl)))).tr (zk.g (D := fun y => y = x) gz613)).tr (zk.w (D := fun y => y = x) wz616 (by first | exact Or.inl rfl | exact Or.inl (Or.inl rfl)))).tr (zk.g (D := fun y => y = x) gz621)).tr2 (ks19_ : zk _ _ _ (fun y => y = az618)) (fun p_ y1_ (y2_ : p_ = az618) => absurd y1_ (by omega))).tr (zk.w (D := fun y => y = x) wz624 (by first | exact Or.inl rfl | exact Or.inl (Or.inl rfl))))
  have hj_ := ((wz624.ne (by omega)).trans ((ks19_.2 _ _ ((gz621.2 _ _ ((wz616.ne (by omega)).trans cz614))) (by omega))))
  refine hs 52 _ rfl _ _ _ _ _ _ _ rfl ?_
  refine hs 53 _ rfl _ _ _ _ _ _ _ _ _ (fx_) rfl rfl ?_
  refine hs 54 _ rfl _ _ _ _ _ _ _ rfl ?_
  refine zw_U (hs 55 _ rfl) (by omega) (z1_.d) rfl ⟨_, rfl⟩ fun hz625 wz626 => ?_
  have wz626 : hd_w G hz623 hz625 (x + 1) (1014, [.int (Int32.ofInt (12 : Int)), .ref (x + 1 + 1), .int (Int32.ofInt (sp_z.2.2.1.length : Int)), .ref (x + 1 + 2), .ref (x + 1 + 3), .int (Int32.ofInt (sp_z.2.2.2.length : Int)), .ref (x + 1 + 4)]) := wz626
  have lwz626 := wz626.1
  have kw_ : zk G _ _ (fun y => y = x + 1) := zk.w wz626 (Or.inl rfl)
  have hj2_ := kw_.2 _ _ hj_ (by omega)
  refine hs 56 _ rfl _ _ _ _ (by omega) (by omega) (hP _ (fun i => [az578, az586, az594, az602, az610, az618].getD i 0) (kk_.tr2 kw_ fun p_ y1_ (y2_ : p_ = x + 1) => absurd y1_ (by omega)) ⟨fun _ => sp_z, 0, 0, ⟨kw_.2 _ _ fx_ (by omega), z1_.dial wz626, ⟨⟨by decide, by decide⟩, sp_z_ok.2⟩, z2_.k kw_ (fun y h1 h2 (h3 : y = x + 1) => by omega), ⟨z3_.k kw_ (by omega) (by omega), z4_.k kw_ (by omega) (by omega)⟩, ⟨_, _, _, hj2_⟩, ?_, hx_⟩, rfl⟩)
  show x + 228 ≤ az610
  omega
