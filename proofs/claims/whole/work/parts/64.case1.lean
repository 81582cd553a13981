set_option maxHeartbeats 4000000 in
set_option maxRecDepth 100000 in
theorem lk_run {p : Program} {l : Launch} {e : Env} {s : State} {m : MethodId} {below : List Frame} {meth : Method} {c : Code} {b L : Nat} {xs : Nat → Int32} {D : va_G} {y : Nat → ClassId} {Q : State → Prop} (C : LX p l s m c b L xs D y) {z : CS} {t : MS} {n qo j cs sl : Nat} {f : Nat → Int64} {H : Heap} {locs : List Loc} {ls : Array Slot} (hR : RR z t n) (hL : LW D y (lA s) z t qo f H) (hS : va_S (lA s) s.heap H locs) (hj : 6 * j + 6 ≤ L) (hcs : cs ≤ 600000) (hsl : sl ≤ 7000000) (hl : lv_has ls 8 [(4, .int (nI (6 * j))), (0, .ref b), (1, .ref (cA z 6 0)), (2, .ref (mA t 0 0)), (3, .ref qo)]) (kk : LKK p l e s m below meth c b D y Q qo (j + 1) (cs + 1001) (sl + 3006)) : W p l e room_1 s m #[Value.ref b] below meth c H locs cs sl Q (F0 m 428 ls []) := by
  obtain ⟨hx, hb, hml, hown, hts, hX, hbl, h3072, hK, hZ, hN, hl0⟩ := C
  have hA : ∀ q, s.heap.size ≤ q → lA s q := fun _ h => h
  have hbA : ¬ lA s b := Nat.not_le.mpr hbl
  refine lv_aload_n hx hb dL_law_428 rfl (lv_at hl 2 rfl) ?_
  refine lv_aload_n hx hb dL_law_429 rfl (lv_at hl 1 rfl) ?_
  refine lv_iload hx hb dL_law_430 (lv_at hl 0 rfl) ?_
  refine lv_iconst (v := 1) hx hb dL_law_432 (by decide) ?_
  refine lv_iadd hx hb dL_law_433 ?_
  refine s_ld (k := 6 * j + 1) hx hb hX hbl hbA hS (nI_add (6 * j) 1) (by omega) h3072 dL_law_434 ?_
  refine lv_aload_n hx hb dL_law_435 rfl (lv_at hl 4 rfl) ?_
  refine lc_h (vx_runSW (As := [.ref (cA z 6 0), .int (xs (6 * j + 1)), .ref qo]) (rest := []) ⟨hx, hb, hml, hown, hts⟩ (l_run l hl0 D y z qo _ (xs (6 * j + 1)) (Jc z t) (Jc_0 hR) Jc_s) (vx_cwSW 3 hts gL_law_L_run rfl rfl rfl (by decide +kernel) ⟨Nat.le_of_ble_eq_true rfl, Nat.le_of_ble_eq_true rfl⟩) (hL.pre hK hZ hN hS hA [.ref (cA z 6 0), .int (xs (6 * j + 1)), .ref qo]) rfl rfl hl.1 rfl (lv_room (Nat.le_of_ble_eq_true rfl)) dL_law_436 ⟨by show cs + 1001 ≤ 601024; omega, by show sl + 3006 ≤ 7293034; omega⟩) hL hS hA (fun w u f1 H locs hc hL hS => ?_)
  refine lv_istore (lv' := [(5, _), (4, _), (0, _), (1, _), (2, _), (3, _)]) hx hb dL_law_439 hl (by decide) rfl (fun ls hl => ?_)
  refine lv_aload_n hx hb dL_law_441 rfl (lv_at hl 4 rfl) ?_
  refine lv_aload_n hx hb dL_law_442 rfl (lv_at hl 2 rfl) ?_
  refine lv_iload hx hb dL_law_443 (lv_at hl 1 rfl) ?_
  refine lv_iconst (v := 1) hx hb dL_law_445 (by decide) ?_
  refine lv_iadd hx hb dL_law_446 ?_
  refine s_ld (k := 6 * j + 1) hx hb hX hbl hbA hS (nI_add (6 * j) 1) (by omega) h3072 dL_law_447 ?_
  refine lc_m (va_runV (As := [.int (xs (6 * j + 1))]) (rest := []) ⟨hx, hb, hml, hown, hts⟩ (m7_run l D y t _ (xs (6 * j + 1)) (Jm t) (Jm_0 hR) Jm_s) (cwV 1 hts gL_law_X7_run rfl rfl rfl (by decide +kernel) ⟨Nat.le_of_ble_eq_true rfl, Nat.le_of_ble_eq_true rfl⟩) (hL.preM hK [.int (xs (6 * j + 1))]) rfl rfl hl.1 rfl (lv_room (Nat.le_of_ble_eq_true rfl)) dL_law_448 ⟨by show cs + 1001 + 0 ≤ 601024; omega, by show sl + 3006 + 0 ≤ 7293034; omega⟩) hL hS hA (fun v7 u7 H locs hm hL hS => ?_)
  obtain ⟨⟨ag1, ⟨n9, hR9⟩, ag3, ag4⟩, x9, hv9, hval⟩ := Ag_run hR (xs (6 * j + 1)) hc hm
  subst hv9
  refine lv_istore (lv' := [(6, _), (5, _), (4, _), (0, _), (1, _), (2, _), (3, _)]) hx hb dL_law_451 hl (by decide) rfl (fun ls hl => ?_)
  rw [← ag3, ← ag4] at hl
  refine lv_aload_n hx hb dL_law_453 rfl (lv_at hl 5 rfl) ?_
  refine lc_m (va_runV (As := []) (rest := []) ⟨hx, hb, hml, hown, hts⟩ (m7_thrown l D y u7 _) (cwV 0 hts gL_law_X7_thrown rfl rfl rfl (by decide +kernel) ⟨Nat.le_of_ble_eq_true rfl, Nat.le_of_ble_eq_true rfl⟩) (hL.preM hK []) rfl rfl hl.1 rfl (lv_room (Nat.le_of_ble_eq_true rfl)) dL_law_454 ⟨by show cs + 1001 + 0 + 0 ≤ 601024; omega, by show sl + 3006 + 0 + 0 ≤ 7293034; omega⟩) hL hS hA (fun v8 u8 H locs hm8 hL hS => ?_)
  obtain ⟨rfl, e8⟩ := hm8
  replace e8 := e8.symm
  subst e8
  refine lv_iload hx hb dL_law_457 (lv_at hl 1 rfl) ?_
  refine lv_icmp_eq (tgt := 464) hx hb dL_law_459 (by decide) (fun _ => ?_) (fun h9 => absurd ag1 h9)
  refine lv_iload hx hb dL_law_464 (lv_at hl 1 rfl) ?_
  refine lv_if_ne (tgt := 481) hx hb dL_law_466 (by decide) (fun _ => ?_) (fun h0 => ?_)
  · refine W.widen (k := cs + 1001) (n := sl + 3006) (by omega) (by omega) ?_
    refine lv_goto (tgt := 1174) hx hb dL_law_481 (by decide) ?_
    refine lv_iinc (v := nI (6 * (j + 1))) (lv' := [(4, _), (6, _), (5, _), (0, _), (1, _), (2, _), (3, _)]) hx hb dL_law_1174 hl (k := 2) rfl (nI_add (6 * j) 6) (by decide) rfl (fun ls hl => ?_)
    refine lv_goto (tgt := 23) hx hb dL_law_1177 (by decide) ?_
    exact kk _ _ _ _ H locs ls hR9 hL hS (lv_sub hl [0, 3, 4, 5, 6] rfl)
  · refine lv_aload_n hx hb dL_law_469 rfl (lv_at hl 6 rfl) ?_
    refine lv_iconst (v := 0) hx hb dL_law_470 (by decide) ?_
    refine out_ld hx hb hK.1 hL.2.2.1 dL_law_471 ?_
    refine lv_iload hx hb dL_law_472 (lv_at hl 0 rfl) ?_
    refine lv_i2l hx hb dL_law_474 rfl ?_
    refine W.lcmp hx hb dL_law_475 ?_
    refine lv_if_eq (tgt := 481) hx hb dL_law_476 (by decide) (fun _ => ?_) (fun h9 => absurd ((lg_cmp_eq _ _).mpr (hval h0)) h9)
    refine W.widen (k := cs + 1001) (n := sl + 3006) (by omega) (by omega) ?_
    refine lv_goto (tgt := 1174) hx hb dL_law_481 (by decide) ?_
    refine lv_iinc (v := nI (6 * (j + 1))) (lv' := [(4, _), (6, _), (5, _), (0, _), (1, _), (2, _), (3, _)]) hx hb dL_law_1174 hl (k := 2) rfl (nI_add (6 * j) 6) (by decide) rfl (fun ls hl => ?_)
    refine lv_goto (tgt := 23) hx hb dL_law_1177 (by decide) ?_
    exact kk _ _ _ _ H locs ls hR9 hL hS (lv_sub hl [0, 3, 4, 5, 6] rfl)
set_option maxHeartbeats 4000000 in
set_option maxRecDepth 100000 in
theorem lk_lose {p : Program} {l : Launch} {e : Env} {s : State} {m : MethodId} {below : List Frame} {meth : Method} {c : Code} {b L : Nat} {xs : Nat → Int32} {D : va_G} {y : Nat → ClassId} {Q : State → Prop} (C : LX p l s m c b L xs D y) {z : CS} {t : MS} {n qo j cs sl : Nat} {f : Nat → Int64} {H : Heap} {locs : List Loc} {ls : Array Slot} (hR : RR z t n) (hL : LW D y (lA s) z t qo f H) (hS : va_S (lA s) s.heap H locs) (hj : 6 * j + 6 ≤ L) (hcs : cs ≤ 600000) (hsl : sl ≤ 7000000) (hl : lv_has ls 8 [(4, .int (nI (6 * j))), (0, .ref b), (1, .ref (cA z 6 0)), (2, .ref (mA t 0 0)), (3, .ref qo)]) (kk : LKK p l e s m below meth c b D y Q qo (j + 1) (cs + 1001) (sl + 3006)) : W p l e room_1 s m #[Value.ref b] below meth c H locs cs sl Q (F0 m 484 ls []) := by
  obtain ⟨hx, hb, hml, hown, hts, hX, hbl, h3072, hK, hZ, hN, hl0⟩ := C
  have hA : ∀ q, s.heap.size ≤ q → lA s q := fun _ h => h
  have hbA : ¬ lA s b := Nat.not_le.mpr hbl
  refine lv_aload_n hx hb dL_law_484 rfl (lv_at hl 2 rfl) ?_
  refine lv_aload_n hx hb dL_law_485 rfl (lv_at hl 1 rfl) ?_
  refine lv_iload hx hb dL_law_486 (lv_at hl 0 rfl) ?_
  refine lv_iconst (v := 1) hx hb dL_law_488 (by decide) ?_
  refine lv_iadd hx hb dL_law_489 ?_
  refine s_ld (k := 6 * j + 1) hx hb hX hbl hbA hS (nI_add (6 * j) 1) (by omega) h3072 dL_law_490 ?_
  refine lv_aload_n hx hb dL_law_491 rfl (lv_at hl 4 rfl) ?_
  refine lc_h (vx_runSW (As := [.ref (cA z 6 0), .int (xs (6 * j + 1)), .ref qo]) (rest := []) ⟨hx, hb, hml, hown, hts⟩ (l_lose l hl0 D y z qo _ (xs (6 * j + 1)) n hR.1.1) (vx_cwSW 3 hts gL_law_L_lose rfl rfl rfl (by decide +kernel) ⟨Nat.le_of_ble_eq_true rfl, Nat.le_of_ble_eq_true rfl⟩) (hL.pre hK hZ hN hS hA [.ref (cA z 6 0), .int (xs (6 * j + 1)), .ref qo]) rfl rfl hl.1 rfl (lv_room (Nat.le_of_ble_eq_true rfl)) dL_law_492 ⟨by show cs + 1 ≤ 601024; omega, by show sl + 6 ≤ 7293034; omega⟩) hL hS hA (fun w u f1 H locs hc hL hS => ?_)
  refine lv_istore (lv' := [(5, _), (4, _), (0, _), (1, _), (2, _), (3, _)]) hx hb dL_law_495 hl (by decide) rfl (fun ls hl => ?_)
  refine lv_aload_n hx hb dL_law_497 rfl (lv_at hl 4 rfl) ?_
  refine lv_aload_n hx hb dL_law_498 rfl (lv_at hl 2 rfl) ?_
  refine lv_iload hx hb dL_law_499 (lv_at hl 1 rfl) ?_
  refine lv_iconst (v := 1) hx hb dL_law_501 (by decide) ?_
  refine lv_iadd hx hb dL_law_502 ?_
  refine s_ld (k := 6 * j + 1) hx hb hX hbl hbA hS (nI_add (6 * j) 1) (by omega) h3072 dL_law_503 ?_
  refine lc_m (va_runV (As := [.int (xs (6 * j + 1))]) (rest := []) ⟨hx, hb, hml, hown, hts⟩ (m7_lose l D y t _ (xs (6 * j + 1)) n hR.n36.1 hR.n36.2.1 hR.2.2.1) (cwV 1 hts gL_law_X7_lose rfl rfl rfl (by decide +kernel) ⟨Nat.le_of_ble_eq_true rfl, Nat.le_of_ble_eq_true rfl⟩) (hL.preM hK [.int (xs (6 * j + 1))]) rfl rfl hl.1 rfl (lv_room (Nat.le_of_ble_eq_true rfl)) dL_law_504 ⟨by show cs + 1 + 0 ≤ 601024; omega, by show sl + 6 + 0 ≤ 7293034; omega⟩) hL hS hA (fun v7 u7 H locs hm hL hS => ?_)
  obtain ⟨⟨ag1, ⟨n9, hR9⟩, ag3, ag4⟩, x9, hv9, hval⟩ := Ag_lose hR (xs (6 * j + 1)) hc hm
  subst hv9
  refine lv_istore (lv' := [(6, _), (5, _), (4, _), (0, _), (1, _), (2, _), (3, _)]) hx hb dL_law_507 hl (by decide) rfl (fun ls hl => ?_)
  rw [← ag3, ← ag4] at hl
  refine lv_aload_n hx hb dL_law_509 rfl (lv_at hl 5 rfl) ?_
  refine lc_m (va_runV (As := []) (rest := []) ⟨hx, hb, hml, hown, hts⟩ (m7_thrown l D y u7 _) (cwV 0 hts gL_law_X7_thrown rfl rfl rfl (by decide +kernel) ⟨Nat.le_of_ble_eq_true rfl, Nat.le_of_ble_eq_true rfl⟩) (hL.preM hK []) rfl rfl hl.1 rfl (lv_room (Nat.le_of_ble_eq_true rfl)) dL_law_510 ⟨by show cs + 1 + 0 + 0 ≤ 601024; omega, by show sl + 6 + 0 + 0 ≤ 7293034; omega⟩) hL hS hA (fun v8 u8 H locs hm8 hL hS => ?_)
  obtain ⟨rfl, e8⟩ := hm8
  replace e8 := e8.symm
  subst e8
  refine lv_iload hx hb dL_law_513 (lv_at hl 1 rfl) ?_
  refine lv_icmp_eq (tgt := 520) hx hb dL_law_515 (by decide) (fun _ => ?_) (fun h9 => absurd ag1 h9)
  refine lv_iload hx hb dL_law_520 (lv_at hl 1 rfl) ?_
  refine lv_if_ne (tgt := 537) hx hb dL_law_522 (by decide) (fun _ => ?_) (fun h0 => ?_)
  · refine W.widen (k := cs + 1001) (n := sl + 3006) (by omega) (by omega) ?_
    refine lv_goto (tgt := 1174) hx hb dL_law_537 (by decide) ?_
    refine lv_iinc (v := nI (6 * (j + 1))) (lv' := [(4, _), (6, _), (5, _), (0, _), (1, _), (2, _), (3, _)]) hx hb dL_law_1174 hl (k := 2) rfl (nI_add (6 * j) 6) (by decide) rfl (fun ls hl => ?_)
    refine lv_goto (tgt := 23) hx hb dL_law_1177 (by decide) ?_
    exact kk _ _ _ _ H locs ls hR9 hL hS (lv_sub hl [0, 3, 4, 5, 6] rfl)
  · refine lv_aload_n hx hb dL_law_525 rfl (lv_at hl 6 rfl) ?_
    refine lv_iconst (v := 0) hx hb dL_law_526 (by decide) ?_
    refine out_ld hx hb hK.1 hL.2.2.1 dL_law_527 ?_
    refine lv_iload hx hb dL_law_528 (lv_at hl 0 rfl) ?_
    refine lv_i2l hx hb dL_law_530 rfl ?_
    refine W.lcmp hx hb dL_law_531 ?_
    refine lv_if_eq (tgt := 537) hx hb dL_law_532 (by decide) (fun _ => ?_) (fun h9 => absurd ((lg_cmp_eq _ _).mpr (hval h0)) h9)
    refine W.widen (k := cs + 1001) (n := sl + 3006) (by omega) (by omega) ?_
    refine lv_goto (tgt := 1174) hx hb dL_law_537 (by decide) ?_
    refine lv_iinc (v := nI (6 * (j + 1))) (lv' := [(4, _), (6, _), (5, _), (0, _), (1, _), (2, _), (3, _)]) hx hb dL_law_1174 hl (k := 2) rfl (nI_add (6 * j) 6) (by decide) rfl (fun ls hl => ?_)
    refine lv_goto (tgt := 23) hx hb dL_law_1177 (by decide) ?_
    exact kk _ _ _ _ H locs ls hR9 hL hS (lv_sub hl [0, 3, 4, 5, 6] rfl)
set_option maxHeartbeats 4000000 in
set_option maxRecDepth 100000 in
theorem lk_twice {p : Program} {l : Launch} {e : Env} {s : State} {m : MethodId} {below : List Frame} {meth : Method} {c : Code} {b L : Nat} {xs : Nat → Int32} {D : va_G} {y : Nat → ClassId} {Q : State → Prop} (C : LX p l s m c b L xs D y) {z : CS} {t : MS} {n qo j cs sl : Nat} {f : Nat → Int64} {H : Heap} {locs : List Loc} {ls : Array Slot} (hR : RR z t n) (hL : LW D y (lA s) z t qo f H) (hS : va_S (lA s) s.heap H locs) (hj : 6 * j + 6 ≤ L) (hcs : cs ≤ 600000) (hsl : sl ≤ 7000000) (hl : lv_has ls 8 [(4, .int (nI (6 * j))), (0, .ref b), (1, .ref (cA z 6 0)), (2, .ref (mA t 0 0)), (3, .ref qo)]) (kk : LKK p l e s m below meth c b D y Q qo (j + 1) (cs + 1001) (sl + 3006)) : W p l e room_1 s m #[Value.ref b] below meth c H locs cs sl Q (F0 m 540 ls []) := by
  obtain ⟨hx, hb, hml, hown, hts, hX, hbl, h3072, hK, hZ, hN, hl0⟩ := C
  have hA : ∀ q, s.heap.size ≤ q → lA s q := fun _ h => h
  have hbA : ¬ lA s b := Nat.not_le.mpr hbl
  refine lv_aload_n hx hb dL_law_540 rfl (lv_at hl 2 rfl) ?_
  refine lv_aload_n hx hb dL_law_541 rfl (lv_at hl 1 rfl) ?_
  refine lv_iload hx hb dL_law_542 (lv_at hl 0 rfl) ?_
  refine lv_iconst (v := 1) hx hb dL_law_544 (by decide) ?_
  refine lv_iadd hx hb dL_law_545 ?_
  refine s_ld (k := 6 * j + 1) hx hb hX hbl hbA hS (nI_add (6 * j) 1) (by omega) h3072 dL_law_546 ?_
  refine lv_aload_n hx hb dL_law_547 rfl (lv_at hl 4 rfl) ?_
  refine lc_h (vx_runSW (As := [.ref (cA z 6 0), .int (xs (6 * j + 1)), .ref qo]) (rest := []) ⟨hx, hb, hml, hown, hts⟩ (l_twice l hl0 D y z qo _ (xs (6 * j + 1)) n hR.1.1) (vx_cwSW 3 hts gL_law_L_twice rfl rfl rfl (by decide +kernel) ⟨Nat.le_of_ble_eq_true rfl, Nat.le_of_ble_eq_true rfl⟩) (hL.pre hK hZ hN hS hA [.ref (cA z 6 0), .int (xs (6 * j + 1)), .ref qo]) rfl rfl hl.1 rfl (lv_room (Nat.le_of_ble_eq_true rfl)) dL_law_548 ⟨by show cs + 1 ≤ 601024; omega, by show sl + 6 ≤ 7293034; omega⟩) hL hS hA (fun w u f1 H locs hc hL hS => ?_)
  refine lv_istore (lv' := [(5, _), (4, _), (0, _), (1, _), (2, _), (3, _)]) hx hb dL_law_551 hl (by decide) rfl (fun ls hl => ?_)
  refine lv_aload_n hx hb dL_law_553 rfl (lv_at hl 4 rfl) ?_
  refine lv_aload_n hx hb dL_law_554 rfl (lv_at hl 2 rfl) ?_
  refine lv_iload hx hb dL_law_555 (lv_at hl 1 rfl) ?_
  refine lv_iconst (v := 1) hx hb dL_law_557 (by decide) ?_
  refine lv_iadd hx hb dL_law_558 ?_
  refine s_ld (k := 6 * j + 1) hx hb hX hbl hbA hS (nI_add (6 * j) 1) (by omega) h3072 dL_law_559 ?_
  refine lc_m (va_runV (As := [.int (xs (6 * j + 1))]) (rest := []) ⟨hx, hb, hml, hown, hts⟩ (m7_twice l D y t _ (xs (6 * j + 1)) n hR.n36.1 hR.n36.2.1 hR.2.2.1) (cwV 1 hts gL_law_X7_twice rfl rfl rfl (by decide +kernel) ⟨Nat.le_of_ble_eq_true rfl, Nat.le_of_ble_eq_true rfl⟩) (hL.preM hK [.int (xs (6 * j + 1))]) rfl rfl hl.1 rfl (lv_room (Nat.le_of_ble_eq_true rfl)) dL_law_560 ⟨by show cs + 1 + 0 ≤ 601024; omega, by show sl + 6 + 0 ≤ 7293034; omega⟩) hL hS hA (fun v7 u7 H locs hm hL hS => ?_)
  obtain ⟨⟨ag1, ⟨n9, hR9⟩, ag3, ag4⟩, x9, hv9, hval⟩ := Ag_twice hR (xs (6 * j + 1)) hc hm
  subst hv9
  refine lv_istore (lv' := [(6, _), (5, _), (4, _), (0, _), (1, _), (2, _), (3, _)]) hx hb dL_law_563 hl (by decide) rfl (fun ls hl => ?_)
  rw [← ag3, ← ag4] at hl
  refine lv_aload_n hx hb dL_law_565 rfl (lv_at hl 5 rfl) ?_
  refine lc_m (va_runV (As := []) (rest := []) ⟨hx, hb, hml, hown, hts⟩ (m7_thrown l D y u7 _) (cwV 0 hts gL_law_X7_thrown rfl rfl rfl (by decide +kernel) ⟨Nat.le_of_ble_eq_true rfl, Nat.le_of_ble_eq_true rfl⟩) (hL.preM hK []) rfl rfl hl.1 rfl (lv_room (Nat.le_of_ble_eq_true rfl)) dL_law_566 ⟨by show cs + 1 + 0 + 0 ≤ 601024; omega, by show sl + 6 + 0 + 0 ≤ 7293034; omega⟩) hL hS hA (fun v8 u8 H locs hm8 hL hS => ?_)
  obtain ⟨rfl, e8⟩ := hm8
  replace e8 := e8.symm
  subst e8
  refine lv_iload hx hb dL_law_569 (lv_at hl 1 rfl) ?_
  refine lv_icmp_eq (tgt := 576) hx hb dL_law_571 (by decide) (fun _ => ?_) (fun h9 => absurd ag1 h9)
  refine lv_iload hx hb dL_law_576 (lv_at hl 1 rfl) ?_
  refine lv_if_ne (tgt := 593) hx hb dL_law_578 (by decide) (fun _ => ?_) (fun h0 => ?_)
  · refine W.widen (k := cs + 1001) (n := sl + 3006) (by omega) (by omega) ?_
    refine lv_goto (tgt := 1174) hx hb dL_law_593 (by decide) ?_
    refine lv_iinc (v := nI (6 * (j + 1))) (lv' := [(4, _), (6, _), (5, _), (0, _), (1, _), (2, _), (3, _)]) hx hb dL_law_1174 hl (k := 2) rfl (nI_add (6 * j) 6) (by decide) rfl (fun ls hl => ?_)
    refine lv_goto (tgt := 23) hx hb dL_law_1177 (by decide) ?_
    exact kk _ _ _ _ H locs ls hR9 hL hS (lv_sub hl [0, 3, 4, 5, 6] rfl)
  · refine lv_aload_n hx hb dL_law_581 rfl (lv_at hl 6 rfl) ?_
    refine lv_iconst (v := 0) hx hb dL_law_582 (by decide) ?_
    refine out_ld hx hb hK.1 hL.2.2.1 dL_law_583 ?_
    refine lv_iload hx hb dL_law_584 (lv_at hl 0 rfl) ?_
    refine lv_i2l hx hb dL_law_586 rfl ?_
    refine W.lcmp hx hb dL_law_587 ?_
    refine lv_if_eq (tgt := 593) hx hb dL_law_588 (by decide) (fun _ => ?_) (fun h9 => absurd ((lg_cmp_eq _ _).mpr (hval h0)) h9)
    refine W.widen (k := cs + 1001) (n := sl + 3006) (by omega) (by omega) ?_
    refine lv_goto (tgt := 1174) hx hb dL_law_593 (by decide) ?_
    refine lv_iinc (v := nI (6 * (j + 1))) (lv' := [(4, _), (6, _), (5, _), (0, _), (1, _), (2, _), (3, _)]) hx hb dL_law_1174 hl (k := 2) rfl (nI_add (6 * j) 6) (by decide) rfl (fun ls hl => ?_)
    refine lv_goto (tgt := 23) hx hb dL_law_1177 (by decide) ?_
    exact kk _ _ _ _ H locs ls hR9 hL hS (lv_sub hl [0, 3, 4, 5, 6] rfl)
set_option maxHeartbeats 4000000 in
set_option maxRecDepth 100000 in
theorem lk_down {p : Program} {l : Launch} {e : Env} {s : State} {m : MethodId} {below : List Frame} {meth : Method} {c : Code} {b L : Nat} {xs : Nat → Int32} {D : va_G} {y : Nat → ClassId} {Q : State → Prop} (C : LX p l s m c b L xs D y) {z : CS} {t : MS} {n qo j cs sl : Nat} {f : Nat → Int64} {H : Heap} {locs : List Loc} {ls : Array Slot} (hR : RR z t n) (hL : LW D y (lA s) z t qo f H) (hS : va_S (lA s) s.heap H locs) (hj : 6 * j + 6 ≤ L) (hcs : cs ≤ 600000) (hsl : sl ≤ 7000000) (hl : lv_has ls 8 [(4, .int (nI (6 * j))), (0, .ref b), (1, .ref (cA z 6 0)), (2, .ref (mA t 0 0)), (3, .ref qo)]) (kk : LKK p l e s m below meth c b D y Q qo (j + 1) (cs + 1001) (sl + 3006)) : W p l e room_1 s m #[Value.ref b] below meth c H locs cs sl Q (F0 m 596 ls []) := by
  obtain ⟨hx, hb, hml, hown, hts, hX, hbl, h3072, hK, hZ, hN, hl0⟩ := C
  have hA : ∀ q, s.heap.size ≤ q → lA s q := fun _ h => h
  have hbA : ¬ lA s b := Nat.not_le.mpr hbl
  by_cases h2 : xs (6 * j + 2) = 0
  · refine lv_aload_n hx hb dL_law_596 rfl (lv_at hl 2 rfl) ?_
    refine lv_aload_n hx hb dL_law_597 rfl (lv_at hl 1 rfl) ?_
    refine lv_iload hx hb dL_law_598 (lv_at hl 0 rfl) ?_
    refine lv_iconst (v := 1) hx hb dL_law_600 (by decide) ?_
    refine lv_iadd hx hb dL_law_601 ?_
    refine s_ld (k := 6 * j + 1) hx hb hX hbl hbA hS (nI_add (6 * j) 1) (by omega) h3072 dL_law_602 ?_
    refine lv_aload_n hx hb dL_law_603 rfl (lv_at hl 1 rfl) ?_
    refine lv_iload hx hb dL_law_604 (lv_at hl 0 rfl) ?_
    refine lv_iconst (v := 2) hx hb dL_law_606 (by decide) ?_
    refine lv_iadd hx hb dL_law_607 ?_
    refine s_ld (k := 6 * j + 2) hx hb hX hbl hbA hS (nI_add (6 * j) 2) (by omega) h3072 dL_law_608 ?_
    refine lv_if_eq (tgt := 616) hx hb dL_law_609 (by decide) (fun _ => ?_) (fun h9 => absurd h2 h9)
    refine lv_iconst (v := 0) hx hb dL_law_616 (by decide) ?_
    refine lv_aload_n hx hb dL_law_617 rfl (lv_at hl 4 rfl) ?_
    refine lc_h (vx_runSW (As := [.ref (cA z 6 0), .int (xs (6 * j + 1)), .int 0, .ref qo]) (rest := []) ⟨hx, hb, hml, hown, hts⟩ (l_down l hl0 D y z qo _ (xs (6 * j + 1)) 0 (Or.inl rfl) (fun k hk => by rw [show cI z 29 k = mI t 8 k from hR.2.2.2.2.2.1 k hk]; exact hR.2.2.1.2.2.2.2 k)) (vx_cwSW 4 hts gL_law_L_down rfl rfl rfl (by decide +kernel) ⟨Nat.le_of_ble_eq_true rfl, Nat.le_of_ble_eq_true rfl⟩) (hL.pre hK hZ hN hS hA [.ref (cA z 6 0), .int (xs (6 * j + 1)), .int 0, .ref qo]) rfl rfl hl.1 rfl (lv_room (Nat.le_of_ble_eq_true rfl)) dL_law_618 ⟨by show cs + 1 ≤ 601024; omega, by show sl + 6 ≤ 7293034; omega⟩) hL hS hA (fun w u f1 H locs hc hL hS => ?_)
    refine lv_istore (lv' := [(5, _), (4, _), (0, _), (1, _), (2, _), (3, _)]) hx hb dL_law_621 hl (by decide) rfl (fun ls hl => ?_)
    refine lv_aload_n hx hb dL_law_623 rfl (lv_at hl 4 rfl) ?_
    refine lv_aload_n hx hb dL_law_624 rfl (lv_at hl 2 rfl) ?_
    refine lv_iload hx hb dL_law_625 (lv_at hl 1 rfl) ?_
    refine lv_iconst (v := 1) hx hb dL_law_627 (by decide) ?_
    refine lv_iadd hx hb dL_law_628 ?_
    refine s_ld (k := 6 * j + 1) hx hb hX hbl hbA hS (nI_add (6 * j) 1) (by omega) h3072 dL_law_629 ?_
    refine lv_aload_n hx hb dL_law_630 rfl (lv_at hl 2 rfl) ?_
    refine lv_iload hx hb dL_law_631 (lv_at hl 1 rfl) ?_
    refine lv_iconst (v := 2) hx hb dL_law_633 (by decide) ?_
    refine lv_iadd hx hb dL_law_634 ?_
    refine s_ld (k := 6 * j + 2) hx hb hX hbl hbA hS (nI_add (6 * j) 2) (by omega) h3072 dL_law_635 ?_
    refine lv_if_eq (tgt := 643) hx hb dL_law_636 (by decide) (fun _ => ?_) (fun h9 => absurd h2 h9)
    refine lv_iconst (v := 0) hx hb dL_law_643 (by decide) ?_
    refine lc_m (va_runV (As := [.int (xs (6 * j + 1)), .int 0]) (rest := []) ⟨hx, hb, hml, hown, hts⟩ (m7_down l D y t _ (xs (6 * j + 1)) 0 (Or.inl rfl) hR.2.2.1) (cwV 2 hts gL_law_X7_down rfl rfl rfl (by decide +kernel) ⟨Nat.le_of_ble_eq_true rfl, Nat.le_of_ble_eq_true rfl⟩) (hL.preM hK [.int (xs (6 * j + 1)), .int 0]) rfl rfl hl.1 rfl (lv_room (Nat.le_of_ble_eq_true rfl)) dL_law_644 ⟨by show cs + 1 + 0 ≤ 601024; omega, by show sl + 6 + 0 ≤ 7293034; omega⟩) hL hS hA (fun v7 u7 H locs hm hL hS => ?_)
    obtain ⟨⟨ag1, ⟨n9, hR9⟩, ag3, ag4⟩, x9, hv9, hval⟩ := Ag_down hR (xs (6 * j + 1)) 0 (Or.inl rfl) hc hm
    subst hv9
    refine lv_istore (lv' := [(6, _), (5, _), (4, _), (0, _), (1, _), (2, _), (3, _)]) hx hb dL_law_647 hl (by decide) rfl (fun ls hl => ?_)
    rw [← ag3, ← ag4] at hl
    refine lv_aload_n hx hb dL_law_649 rfl (lv_at hl 5 rfl) ?_
    refine lc_m (va_runV (As := []) (rest := []) ⟨hx, hb, hml, hown, hts⟩ (m7_thrown l D y u7 _) (cwV 0 hts gL_law_X7_thrown rfl rfl rfl (by decide +kernel) ⟨Nat.le_of_ble_eq_true rfl, Nat.le_of_ble_eq_true rfl⟩) (hL.preM hK []) rfl rfl hl.1 rfl (lv_room (Nat.le_of_ble_eq_true rfl)) dL_law_650 ⟨by show cs + 1 + 0 + 0 ≤ 601024; omega, by show sl + 6 + 0 + 0 ≤ 7293034; omega⟩) hL hS hA (fun v8 u8 H locs hm8 hL hS => ?_)
    obtain ⟨rfl, e8⟩ := hm8
    replace e8 := e8.symm
    subst e8
    refine lv_iload hx hb dL_law_653 (lv_at hl 1 rfl) ?_
    refine lv_icmp_eq (tgt := 660) hx hb dL_law_655 (by decide) (fun _ => ?_) (fun h9 => absurd ag1 h9)
    refine lv_iload hx hb dL_law_660 (lv_at hl 1 rfl) ?_
    refine lv_if_ne (tgt := 684) hx hb dL_law_662 (by decide) (fun _ => ?_) (fun h0 => ?_)
    · refine W.widen (k := cs + 1001) (n := sl + 3006) (by omega) (by omega) ?_
      refine lv_goto (tgt := 1174) hx hb dL_law_684 (by decide) ?_
      refine lv_iinc (v := nI (6 * (j + 1))) (lv' := [(4, _), (6, _), (5, _), (0, _), (1, _), (2, _), (3, _)]) hx hb dL_law_1174 hl (k := 2) rfl (nI_add (6 * j) 6) (by decide) rfl (fun ls hl => ?_)
      refine lv_goto (tgt := 23) hx hb dL_law_1177 (by decide) ?_
      exact kk _ _ _ _ H locs ls hR9 hL hS (lv_sub hl [0, 3, 4, 5, 6] rfl)
    · refine lv_aload_n hx hb dL_law_665 rfl (lv_at hl 6 rfl) ?_
      refine lv_iconst (v := 0) hx hb dL_law_666 (by decide) ?_
      refine out_ld hx hb hK.1 hL.2.2.1 dL_law_667 ?_
      refine lv_iload hx hb dL_law_668 (lv_at hl 0 rfl) ?_
      refine lv_if_eq (tgt := 677) hx hb dL_law_670 (by decide) (fun h8 => ?_) (fun h8 => ?_)
      · refine lv_lconst (v := 0) hx hb dL_law_677 (by decide) ?_
        refine W.lcmp hx hb dL_law_678 ?_
        refine lv_if_eq (tgt := 684) hx hb dL_law_679 (by decide) (fun _ => ?_) (fun h9 => absurd ((lg_cmp_eq _ _).mpr ((hval h0).trans (if_pos h8))) h9)
        refine W.widen (k := cs + 1001) (n := sl + 3006) (by omega) (by omega) ?_
        refine lv_goto (tgt := 1174) hx hb dL_law_684 (by decide) ?_
        refine lv_iinc (v := nI (6 * (j + 1))) (lv' := [(4, _), (6, _), (5, _), (0, _), (1, _), (2, _), (3, _)]) hx hb dL_law_1174 hl (k := 2) rfl (nI_add (6 * j) 6) (by decide) rfl (fun ls hl => ?_)
        refine lv_goto (tgt := 23) hx hb dL_law_1177 (by decide) ?_
        exact kk _ _ _ _ H locs ls hR9 hL hS (lv_sub hl [0, 3, 4, 5, 6] rfl)
      · refine lv_lconst (v := 1) hx hb dL_law_673 (by decide) ?_
        refine lv_goto (tgt := 678) hx hb dL_law_674 (by decide) ?_
        refine W.lcmp hx hb dL_law_678 ?_
        refine lv_if_eq (tgt := 684) hx hb dL_law_679 (by decide) (fun _ => ?_) (fun h9 => absurd ((lg_cmp_eq _ _).mpr ((hval h0).trans (if_neg h8))) h9)
        refine W.widen (k := cs + 1001) (n := sl + 3006) (by omega) (by omega) ?_
        refine lv_goto (tgt := 1174) hx hb dL_law_684 (by decide) ?_
        refine lv_iinc (v := nI (6 * (j + 1))) (lv' := [(4, _), (6, _), (5, _), (0, _), (1, _), (2, _), (3, _)]) hx hb dL_law_1174 hl (k := 2) rfl (nI_add (6 * j) 6) (by decide) rfl (fun ls hl => ?_)
        refine lv_goto (tgt := 23) hx hb dL_law_1177 (by decide) ?_
        exact kk _ _ _ _ H locs ls hR9 hL hS (lv_sub hl [0, 3, 4, 5, 6] rfl)
  · refine lv_aload_n hx hb dL_law_596 rfl (lv_at hl 2 rfl) ?_
    refine lv_aload_n hx hb dL_law_597 rfl (lv_at hl 1 rfl) ?_
    refine lv_iload hx hb dL_law_598 (lv_at hl 0 rfl) ?_
    refine lv_iconst (v := 1) hx hb dL_law_600 (by decide) ?_
    refine lv_iadd hx hb dL_law_601 ?_
    refine s_ld (k := 6 * j + 1) hx hb hX hbl hbA hS (nI_add (6 * j) 1) (by omega) h3072 dL_law_602 ?_
    refine lv_aload_n hx hb dL_law_603 rfl (lv_at hl 1 rfl) ?_
    refine lv_iload hx hb dL_law_604 (lv_at hl 0 rfl) ?_
    refine lv_iconst (v := 2) hx hb dL_law_606 (by decide) ?_
    refine lv_iadd hx hb dL_law_607 ?_
    refine s_ld (k := 6 * j + 2) hx hb hX hbl hbA hS (nI_add (6 * j) 2) (by omega) h3072 dL_law_608 ?_
    refine lv_if_eq (tgt := 616) hx hb dL_law_609 (by decide) (fun h9 => absurd h9 h2) (fun _ => ?_)
    refine lv_iconst (v := 1) hx hb dL_law_612 (by decide) ?_
    refine lv_goto (tgt := 617) hx hb dL_law_613 (by decide) ?_
    refine lv_aload_n hx hb dL_law_617 rfl (lv_at hl 4 rfl) ?_
    refine lc_h (vx_runSW (As := [.ref (cA z 6 0), .int (xs (6 * j + 1)), .int 1, .ref qo]) (rest := []) ⟨hx, hb, hml, hown, hts⟩ (l_down l hl0 D y z qo _ (xs (6 * j + 1)) 1 (Or.inr rfl) (fun k hk => by rw [show cI z 29 k = mI t 8 k from hR.2.2.2.2.2.1 k hk]; exact hR.2.2.1.2.2.2.2 k)) (vx_cwSW 4 hts gL_law_L_down rfl rfl rfl (by decide +kernel) ⟨Nat.le_of_ble_eq_true rfl, Nat.le_of_ble_eq_true rfl⟩) (hL.pre hK hZ hN hS hA [.ref (cA z 6 0), .int (xs (6 * j + 1)), .int 1, .ref qo]) rfl rfl hl.1 rfl (lv_room (Nat.le_of_ble_eq_true rfl)) dL_law_618 ⟨by show cs + 1 ≤ 601024; omega, by show sl + 6 ≤ 7293034; omega⟩) hL hS hA (fun w u f1 H locs hc hL hS => ?_)
    refine lv_istore (lv' := [(5, _), (4, _), (0, _), (1, _), (2, _), (3, _)]) hx hb dL_law_621 hl (by decide) rfl (fun ls hl => ?_)
    refine lv_aload_n hx hb dL_law_623 rfl (lv_at hl 4 rfl) ?_
    refine lv_aload_n hx hb dL_law_624 rfl (lv_at hl 2 rfl) ?_
    refine lv_iload hx hb dL_law_625 (lv_at hl 1 rfl) ?_
    refine lv_iconst (v := 1) hx hb dL_law_627 (by decide) ?_
    refine lv_iadd hx hb dL_law_628 ?_
    refine s_ld (k := 6 * j + 1) hx hb hX hbl hbA hS (nI_add (6 * j) 1) (by omega) h3072 dL_law_629 ?_
    refine lv_aload_n hx hb dL_law_630 rfl (lv_at hl 2 rfl) ?_
    refine lv_iload hx hb dL_law_631 (lv_at hl 1 rfl) ?_
    refine lv_iconst (v := 2) hx hb dL_law_633 (by decide) ?_
    refine lv_iadd hx hb dL_law_634 ?_
    refine s_ld (k := 6 * j + 2) hx hb hX hbl hbA hS (nI_add (6 * j) 2) (by omega) h3072 dL_law_635 ?_
    refine lv_if_eq (tgt := 643) hx hb dL_law_636 (by decide) (fun h9 => absurd h9 h2) (fun _ => ?_)
    refine lv_iconst (v := 1) hx hb dL_law_639 (by decide) ?_
    refine lv_goto (tgt := 644) hx hb dL_law_640 (by decide) ?_
    refine lc_m (va_runV (As := [.int (xs (6 * j + 1)), .int 1]) (rest := []) ⟨hx, hb, hml, hown, hts⟩ (m7_down l D y t _ (xs (6 * j + 1)) 1 (Or.inr rfl) hR.2.2.1) (cwV 2 hts gL_law_X7_down rfl rfl rfl (by decide +kernel) ⟨Nat.le_of_ble_eq_true rfl, Nat.le_of_ble_eq_true rfl⟩) (hL.preM hK [.int (xs (6 * j + 1)), .int 1]) rfl rfl hl.1 rfl (lv_room (Nat.le_of_ble_eq_true rfl)) dL_law_644 ⟨by show cs + 1 + 0 ≤ 601024; omega, by show sl + 6 + 0 ≤ 7293034; omega⟩) hL hS hA (fun v7 u7 H locs hm hL hS => ?_)
    obtain ⟨⟨ag1, ⟨n9, hR9⟩, ag3, ag4⟩, x9, hv9, hval⟩ := Ag_down hR (xs (6 * j + 1)) 1 (Or.inr rfl) hc hm
    subst hv9
    refine lv_istore (lv' := [(6, _), (5, _), (4, _), (0, _), (1, _), (2, _), (3, _)]) hx hb dL_law_647 hl (by decide) rfl (fun ls hl => ?_)
    rw [← ag3, ← ag4] at hl
    refine lv_aload_n hx hb dL_law_649 rfl (lv_at hl 5 rfl) ?_
    refine lc_m (va_runV (As := []) (rest := []) ⟨hx, hb, hml, hown, hts⟩ (m7_thrown l D y u7 _) (cwV 0 hts gL_law_X7_thrown rfl rfl rfl (by decide +kernel) ⟨Nat.le_of_ble_eq_true rfl, Nat.le_of_ble_eq_true rfl⟩) (hL.preM hK []) rfl rfl hl.1 rfl (lv_room (Nat.le_of_ble_eq_true rfl)) dL_law_650 ⟨by show cs + 1 + 0 + 0 ≤ 601024; omega, by show sl + 6 + 0 + 0 ≤ 7293034; omega⟩) hL hS hA (fun v8 u8 H locs hm8 hL hS => ?_)
    obtain ⟨rfl, e8⟩ := hm8
    replace e8 := e8.symm
    subst e8
    refine lv_iload hx hb dL_law_653 (lv_at hl 1 rfl) ?_
    refine lv_icmp_eq (tgt := 660) hx hb dL_law_655 (by decide) (fun _ => ?_) (fun h9 => absurd ag1 h9)
    refine lv_iload hx hb dL_law_660 (lv_at hl 1 rfl) ?_
    refine lv_if_ne (tgt := 684) hx hb dL_law_662 (by decide) (fun _ => ?_) (fun h0 => ?_)
    · refine W.widen (k := cs + 1001) (n := sl + 3006) (by omega) (by omega) ?_
      refine lv_goto (tgt := 1174) hx hb dL_law_684 (by decide) ?_
      refine lv_iinc (v := nI (6 * (j + 1))) (lv' := [(4, _), (6, _), (5, _), (0, _), (1, _), (2, _), (3, _)]) hx hb dL_law_1174 hl (k := 2) rfl (nI_add (6 * j) 6) (by decide) rfl (fun ls hl => ?_)
      refine lv_goto (tgt := 23) hx hb dL_law_1177 (by decide) ?_
      exact kk _ _ _ _ H locs ls hR9 hL hS (lv_sub hl [0, 3, 4, 5, 6] rfl)
    · refine lv_aload_n hx hb dL_law_665 rfl (lv_at hl 6 rfl) ?_
      refine lv_iconst (v := 0) hx hb dL_law_666 (by decide) ?_
      refine out_ld hx hb hK.1 hL.2.2.1 dL_law_667 ?_
      refine lv_iload hx hb dL_law_668 (lv_at hl 0 rfl) ?_
      refine lv_if_eq (tgt := 677) hx hb dL_law_670 (by decide) (fun h8 => ?_) (fun h8 => ?_)
      · refine lv_lconst (v := 0) hx hb dL_law_677 (by decide) ?_
        refine W.lcmp hx hb dL_law_678 ?_
        refine lv_if_eq (tgt := 684) hx hb dL_law_679 (by decide) (fun _ => ?_) (fun h9 => absurd ((lg_cmp_eq _ _).mpr ((hval h0).trans (if_pos h8))) h9)
        refine W.widen (k := cs + 1001) (n := sl + 3006) (by omega) (by omega) ?_
        refine lv_goto (tgt := 1174) hx hb dL_law_684 (by decide) ?_
        refine lv_iinc (v := nI (6 * (j + 1))) (lv' := [(4, _), (6, _), (5, _), (0, _), (1, _), (2, _), (3, _)]) hx hb dL_law_1174 hl (k := 2) rfl (nI_add (6 * j) 6) (by decide) rfl (fun ls hl => ?_)
        refine lv_goto (tgt := 23) hx hb dL_law_1177 (by decide) ?_
        exact kk _ _ _ _ H locs ls hR9 hL hS (lv_sub hl [0, 3, 4, 5, 6] rfl)
      · refine lv_lconst (v := 1) hx hb dL_law_673 (by decide) ?_
        refine lv_goto (tgt := 678) hx hb dL_law_674 (by decide) ?_
        refine W.lcmp hx hb dL_law_678 ?_
        refine lv_if_eq (tgt := 684) hx hb dL_law_679 (by decide) (fun _ => ?_) (fun h9 => absurd ((lg_cmp_eq _ _).mpr ((hval h0).trans (if_neg h8))) h9)
        refine W.widen (k := cs + 1001) (n := sl + 3006) (by omega) (by omega) ?_
        refine lv_goto (tgt := 1174) hx hb dL_law_684 (by decide) ?_
        refine lv_iinc (v := nI (6 * (j + 1))) (lv' := [(4, _), (6, _), (5, _), (0, _), (1, _), (2, _), (3, _)]) hx hb dL_law_1174 hl (k := 2) rfl (nI_add (6 * j) 6) (by decide) rfl (fun ls hl => ?_)
        refine lv_goto (tgt := 23) hx hb dL_law_1177 (by decide) ?_
        exact kk _ _ _ _ H locs ls hR9 hL hS (lv_sub hl [0, 3, 4, 5, 6] rfl)
set_option maxHeartbeats 4000000 in
set_option maxRecDepth 100000 in
theorem lk_copy {p : Program} {l : Launch} {e : Env} {s : State} {m : MethodId} {below : List Frame} {meth : Method} {c : Code} {b L : Nat} {xs : Nat → Int32} {D : va_G} {y : Nat → ClassId} {Q : State → Prop} (C : LX p l s m c b L xs D y) {z : CS} {t : MS} {n qo j cs sl : Nat} {f : Nat → Int64} {H : Heap} {locs : List Loc} {ls : Array Slot} (hR : RR z t n) (hL : LW D y (lA s) z t qo f H) (hS : va_S (lA s) s.heap H locs) (hj : 6 * j + 6 ≤ L) (hcs : cs ≤ 600000) (hsl : sl ≤ 7000000) (hl : lv_has ls 8 [(4, .int (nI (6 * j))), (0, .ref b), (1, .ref (cA z 6 0)), (2, .ref (mA t 0 0)), (3, .ref qo)]) (kk : LKK p l e s m below meth c b D y Q qo (j + 1) (cs + 1001) (sl + 3006)) : W p l e room_1 s m #[Value.ref b] below meth c H locs cs sl Q (F0 m 687 ls []) := by
  obtain ⟨hx, hb, hml, hown, hts, hX, hbl, h3072, hK, hZ, hN, hl0⟩ := C
  have hA : ∀ q, s.heap.size ≤ q → lA s q := fun _ h => h
  have hbA : ¬ lA s b := Nat.not_le.mpr hbl
  refine lv_aload_n hx hb dL_law_687 rfl (lv_at hl 2 rfl) ?_
  refine lv_aload_n hx hb dL_law_688 rfl (lv_at hl 1 rfl) ?_
  refine lv_iload hx hb dL_law_689 (lv_at hl 0 rfl) ?_
  refine lv_iconst (v := 1) hx hb dL_law_691 (by decide) ?_
  refine lv_iadd hx hb dL_law_692 ?_
  refine s_ld (k := 6 * j + 1) hx hb hX hbl hbA hS (nI_add (6 * j) 1) (by omega) h3072 dL_law_693 ?_
  refine lv_aload_n hx hb dL_law_694 rfl (lv_at hl 1 rfl) ?_
  refine lv_iload hx hb dL_law_695 (lv_at hl 0 rfl) ?_
  refine lv_iconst (v := 2) hx hb dL_law_697 (by decide) ?_
  refine lv_iadd hx hb dL_law_698 ?_
  refine s_ld (k := 6 * j + 2) hx hb hX hbl hbA hS (nI_add (6 * j) 2) (by omega) h3072 dL_law_699 ?_
  refine lv_aload_n hx hb dL_law_700 rfl (lv_at hl 4 rfl) ?_
  refine lc_h (vx_runSW (As := [.ref (cA z 6 0), .int (xs (6 * j + 1)), .int (xs (6 * j + 2)), .ref qo]) (rest := []) ⟨hx, hb, hml, hown, hts⟩ (l_copy l hl0 D y z qo _ (xs (6 * j + 1)) (xs (6 * j + 2)) ) (vx_cwSW 4 hts gL_law_L_copy rfl rfl rfl (by decide +kernel) ⟨Nat.le_of_ble_eq_true rfl, Nat.le_of_ble_eq_true rfl⟩) (hL.pre hK hZ hN hS hA [.ref (cA z 6 0), .int (xs (6 * j + 1)), .int (xs (6 * j + 2)), .ref qo]) rfl rfl hl.1 rfl (lv_room (Nat.le_of_ble_eq_true rfl)) dL_law_701 ⟨by show cs + 2 ≤ 601024; omega, by show sl + 12 ≤ 7293034; omega⟩) hL hS hA (fun w u f1 H locs hc hL hS => ?_)
  refine lv_istore (lv' := [(5, _), (4, _), (0, _), (1, _), (2, _), (3, _)]) hx hb dL_law_704 hl (by decide) rfl (fun ls hl => ?_)
  refine lv_aload_n hx hb dL_law_706 rfl (lv_at hl 4 rfl) ?_
  refine lv_aload_n hx hb dL_law_707 rfl (lv_at hl 2 rfl) ?_
  refine lv_iload hx hb dL_law_708 (lv_at hl 1 rfl) ?_
  refine lv_iconst (v := 1) hx hb dL_law_710 (by decide) ?_
  refine lv_iadd hx hb dL_law_711 ?_
  refine s_ld (k := 6 * j + 1) hx hb hX hbl hbA hS (nI_add (6 * j) 1) (by omega) h3072 dL_law_712 ?_
  refine lv_aload_n hx hb dL_law_713 rfl (lv_at hl 2 rfl) ?_
  refine lv_iload hx hb dL_law_714 (lv_at hl 1 rfl) ?_
  refine lv_iconst (v := 2) hx hb dL_law_716 (by decide) ?_
  refine lv_iadd hx hb dL_law_717 ?_
  refine s_ld (k := 6 * j + 2) hx hb hX hbl hbA hS (nI_add (6 * j) 2) (by omega) h3072 dL_law_718 ?_
  refine lc_m (va_runV (As := [.int (xs (6 * j + 1)), .int (xs (6 * j + 2))]) (rest := []) ⟨hx, hb, hml, hown, hts⟩ (m7_copy l D y t _ (xs (6 * j + 1)) (xs (6 * j + 2)) hR.2.2.1) (cwV 2 hts gL_law_X7_copy rfl rfl rfl (by decide +kernel) ⟨Nat.le_of_ble_eq_true rfl, Nat.le_of_ble_eq_true rfl⟩) (hL.preM hK [.int (xs (6 * j + 1)), .int (xs (6 * j + 2))]) rfl rfl hl.1 rfl (lv_room (Nat.le_of_ble_eq_true rfl)) dL_law_719 ⟨by show cs + 2 + 0 ≤ 601024; omega, by show sl + 12 + 0 ≤ 7293034; omega⟩) hL hS hA (fun v7 u7 H locs hm hL hS => ?_)
  obtain ⟨⟨ag1, ⟨n9, hR9⟩, ag3, ag4⟩, x9, hv9, hval⟩ := Ag_copy hR (xs (6 * j + 1)) (xs (6 * j + 2)) hc hm
  subst hv9
  refine lv_istore (lv' := [(6, _), (5, _), (4, _), (0, _), (1, _), (2, _), (3, _)]) hx hb dL_law_722 hl (by decide) rfl (fun ls hl => ?_)
  rw [← ag3, ← ag4] at hl
  refine lv_aload_n hx hb dL_law_724 rfl (lv_at hl 5 rfl) ?_
  refine lc_m (va_runV (As := []) (rest := []) ⟨hx, hb, hml, hown, hts⟩ (m7_thrown l D y u7 _) (cwV 0 hts gL_law_X7_thrown rfl rfl rfl (by decide +kernel) ⟨Nat.le_of_ble_eq_true rfl, Nat.le_of_ble_eq_true rfl⟩) (hL.preM hK []) rfl rfl hl.1 rfl (lv_room (Nat.le_of_ble_eq_true rfl)) dL_law_725 ⟨by show cs + 2 + 0 + 0 ≤ 601024; omega, by show sl + 12 + 0 + 0 ≤ 7293034; omega⟩) hL hS hA (fun v8 u8 H locs hm8 hL hS => ?_)
  obtain ⟨rfl, e8⟩ := hm8
  replace e8 := e8.symm
  subst e8
  refine lv_iload hx hb dL_law_728 (lv_at hl 1 rfl) ?_
  refine lv_icmp_eq (tgt := 735) hx hb dL_law_730 (by decide) (fun _ => ?_) (fun h9 => absurd ag1 h9)
  refine lv_iload hx hb dL_law_735 (lv_at hl 1 rfl) ?_
  refine lv_if_ne (tgt := 752) hx hb dL_law_737 (by decide) (fun _ => ?_) (fun h0 => ?_)
  · refine W.widen (k := cs + 1001) (n := sl + 3006) (by omega) (by omega) ?_
    refine lv_goto (tgt := 1174) hx hb dL_law_752 (by decide) ?_
    refine lv_iinc (v := nI (6 * (j + 1))) (lv' := [(4, _), (6, _), (5, _), (0, _), (1, _), (2, _), (3, _)]) hx hb dL_law_1174 hl (k := 2) rfl (nI_add (6 * j) 6) (by decide) rfl (fun ls hl => ?_)
    refine lv_goto (tgt := 23) hx hb dL_law_1177 (by decide) ?_
    exact kk _ _ _ _ H locs ls hR9 hL hS (lv_sub hl [0, 3, 4, 5, 6] rfl)
  · refine lv_aload_n hx hb dL_law_740 rfl (lv_at hl 6 rfl) ?_
    refine lv_iconst (v := 0) hx hb dL_law_741 (by decide) ?_
    refine out_ld hx hb hK.1 hL.2.2.1 dL_law_742 ?_
    refine lv_iload hx hb dL_law_743 (lv_at hl 0 rfl) ?_
    refine lv_i2l hx hb dL_law_745 rfl ?_
    refine W.lcmp hx hb dL_law_746 ?_
    refine lv_if_eq (tgt := 752) hx hb dL_law_747 (by decide) (fun _ => ?_) (fun h9 => absurd ((lg_cmp_eq _ _).mpr (hval h0)) h9)
    refine W.widen (k := cs + 1001) (n := sl + 3006) (by omega) (by omega) ?_
    refine lv_goto (tgt := 1174) hx hb dL_law_752 (by decide) ?_
    refine lv_iinc (v := nI (6 * (j + 1))) (lv' := [(4, _), (6, _), (5, _), (0, _), (1, _), (2, _), (3, _)]) hx hb dL_law_1174 hl (k := 2) rfl (nI_add (6 * j) 6) (by decide) rfl (fun ls hl => ?_)
    refine lv_goto (tgt := 23) hx hb dL_law_1177 (by decide) ?_
    exact kk _ _ _ _ H locs ls hR9 hL hS (lv_sub hl [0, 3, 4, 5, 6] rfl)
