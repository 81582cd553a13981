set_option maxHeartbeats 4000000 in
set_option maxRecDepth 100000 in
theorem lk_asker {p : Program} {l : Launch} {e : Env} {s : State} {m : MethodId} {below : List Frame} {meth : Method} {c : Code} {b L : Nat} {xs : Nat → Int32} {D : va_G} {y : Nat → ClassId} {Q : State → Prop} (C : LX p l s m c b L xs D y) {z : CS} {t : MS} {n qo j cs sl : Nat} {f : Nat → Int64} {H : Heap} {locs : List Loc} {ls : Array Slot} (hR : RR z t n) (hL : LW D y (lA s) z t qo f H) (hS : va_S (lA s) s.heap H locs) (hj : 6 * j + 6 ≤ L) (hcs : cs ≤ 600000) (hsl : sl ≤ 7000000) (hl : lv_has ls 8 [(4, .int (nI (6 * j))), (0, .ref b), (1, .ref (cA z 6 0)), (2, .ref (mA t 0 0)), (3, .ref qo)]) (kk : LKK p l e s m below meth c b D y Q qo (j + 1) (cs + 1001) (sl + 3006)) : W p l e room_1 s m #[Value.ref b] below meth c H locs cs sl Q (F0 m 983 ls []) := by
  obtain ⟨hx, hb, hml, hown, hts, hX, hbl, h3072, hK, hZ, hN, hl0⟩ := C
  have hA : ∀ q, s.heap.size ≤ q → lA s q := fun _ h => h
  have hbA : ¬ lA s b := Nat.not_le.mpr hbl
  refine lv_aload_n hx hb dL_law_983 rfl (lv_at hl 2 rfl) ?_
  refine lv_aload_n hx hb dL_law_984 rfl (lv_at hl 1 rfl) ?_
  refine lv_iload hx hb dL_law_985 (lv_at hl 0 rfl) ?_
  refine lv_iconst (v := 1) hx hb dL_law_987 (by decide) ?_
  refine lv_iadd hx hb dL_law_988 ?_
  refine s_ld (k := 6 * j + 1) hx hb hX hbl hbA hS (nI_add (6 * j) 1) (by omega) h3072 dL_law_989 ?_
  refine lv_aload_n hx hb dL_law_990 rfl (lv_at hl 1 rfl) ?_
  refine lv_iload hx hb dL_law_991 (lv_at hl 0 rfl) ?_
  refine lv_iconst (v := 2) hx hb dL_law_993 (by decide) ?_
  refine lv_iadd hx hb dL_law_994 ?_
  refine s_ld (k := 6 * j + 2) hx hb hX hbl hbA hS (nI_add (6 * j) 2) (by omega) h3072 dL_law_995 ?_
  refine lv_aload_n hx hb dL_law_996 rfl (lv_at hl 4 rfl) ?_
  refine lc_h (vx_runSW (As := [.ref (cA z 6 0), .int (xs (6 * j + 1)), .int (xs (6 * j + 2)), .ref qo]) (rest := []) ⟨hx, hb, hml, hown, hts⟩ (l_asker l hl0 D y z qo _ (xs (6 * j + 1)) (xs (6 * j + 2)) hR.2.1.1.2.2.2.2.1) (vx_cwSW 4 hts gL_law_L_asker rfl rfl rfl (by decide +kernel) ⟨Nat.le_of_ble_eq_true rfl, Nat.le_of_ble_eq_true rfl⟩) (hL.pre hK hZ hN hS hA [.ref (cA z 6 0), .int (xs (6 * j + 1)), .int (xs (6 * j + 2)), .ref qo]) rfl rfl hl.1 rfl (lv_room (Nat.le_of_ble_eq_true rfl)) dL_law_997 ⟨by show cs + 2 ≤ 601024; omega, by show sl + 12 ≤ 7293034; omega⟩) hL hS hA (fun w u f1 H locs hc hL hS => ?_)
  refine lv_istore (lv' := [(5, _), (4, _), (0, _), (1, _), (2, _), (3, _)]) hx hb dL_law_1000 hl (by decide) rfl (fun ls hl => ?_)
  refine lv_aload_n hx hb dL_law_1002 rfl (lv_at hl 4 rfl) ?_
  refine lv_aload_n hx hb dL_law_1003 rfl (lv_at hl 2 rfl) ?_
  refine lv_iload hx hb dL_law_1004 (lv_at hl 1 rfl) ?_
  refine lv_iconst (v := 1) hx hb dL_law_1006 (by decide) ?_
  refine lv_iadd hx hb dL_law_1007 ?_
  refine s_ld (k := 6 * j + 1) hx hb hX hbl hbA hS (nI_add (6 * j) 1) (by omega) h3072 dL_law_1008 ?_
  refine lv_aload_n hx hb dL_law_1009 rfl (lv_at hl 2 rfl) ?_
  refine lv_iload hx hb dL_law_1010 (lv_at hl 1 rfl) ?_
  refine lv_iconst (v := 2) hx hb dL_law_1012 (by decide) ?_
  refine lv_iadd hx hb dL_law_1013 ?_
  refine s_ld (k := 6 * j + 2) hx hb hX hbl hbA hS (nI_add (6 * j) 2) (by omega) h3072 dL_law_1014 ?_
  refine lc_m (va_runV (As := [.int (xs (6 * j + 1)), .int (xs (6 * j + 2))]) (rest := []) ⟨hx, hb, hml, hown, hts⟩ (m7_asker l D y t _ (xs (6 * j + 1)) (xs (6 * j + 2)) ) (cwV 2 hts gL_law_X7_asker rfl rfl rfl (by decide +kernel) ⟨Nat.le_of_ble_eq_true rfl, Nat.le_of_ble_eq_true rfl⟩) (hL.preM hK [.int (xs (6 * j + 1)), .int (xs (6 * j + 2))]) rfl rfl hl.1 rfl (lv_room (Nat.le_of_ble_eq_true rfl)) dL_law_1015 ⟨by show cs + 2 + 0 ≤ 601024; omega, by show sl + 12 + 0 ≤ 7293034; omega⟩) hL hS hA (fun v7 u7 H locs hm hL hS => ?_)
  obtain ⟨⟨ag1, ⟨n9, hR9⟩, ag3, ag4⟩, x9, hv9, hval⟩ := Ag_asker hR (xs (6 * j + 1)) (xs (6 * j + 2)) hc hm
  subst hv9
  refine lv_istore (lv' := [(6, _), (5, _), (4, _), (0, _), (1, _), (2, _), (3, _)]) hx hb dL_law_1018 hl (by decide) rfl (fun ls hl => ?_)
  rw [← ag3, ← ag4] at hl
  refine lv_aload_n hx hb dL_law_1020 rfl (lv_at hl 5 rfl) ?_
  refine lc_m (va_runV (As := []) (rest := []) ⟨hx, hb, hml, hown, hts⟩ (m7_thrown l D y u7 _) (cwV 0 hts gL_law_X7_thrown rfl rfl rfl (by decide +kernel) ⟨Nat.le_of_ble_eq_true rfl, Nat.le_of_ble_eq_true rfl⟩) (hL.preM hK []) rfl rfl hl.1 rfl (lv_room (Nat.le_of_ble_eq_true rfl)) dL_law_1021 ⟨by show cs + 2 + 0 + 0 ≤ 601024; omega, by show sl + 12 + 0 + 0 ≤ 7293034; omega⟩) hL hS hA (fun v8 u8 H locs hm8 hL hS => ?_)
  obtain ⟨rfl, e8⟩ := hm8
  replace e8 := e8.symm
  subst e8
  refine lv_iload hx hb dL_law_1024 (lv_at hl 1 rfl) ?_
  refine lv_icmp_eq (tgt := 1031) hx hb dL_law_1026 (by decide) (fun _ => ?_) (fun h9 => absurd ag1 h9)
  refine lv_iload hx hb dL_law_1031 (lv_at hl 1 rfl) ?_
  refine lv_if_ne (tgt := 1048) hx hb dL_law_1033 (by decide) (fun _ => ?_) (fun h0 => ?_)
  · refine W.widen (k := cs + 1001) (n := sl + 3006) (by omega) (by omega) ?_
    refine lv_goto (tgt := 1174) hx hb dL_law_1048 (by decide) ?_
    refine lv_iinc (v := nI (6 * (j + 1))) (lv' := [(4, _), (6, _), (5, _), (0, _), (1, _), (2, _), (3, _)]) hx hb dL_law_1174 hl (k := 2) rfl (nI_add (6 * j) 6) (by decide) rfl (fun ls hl => ?_)
    refine lv_goto (tgt := 23) hx hb dL_law_1177 (by decide) ?_
    exact kk _ _ _ _ H locs ls hR9 hL hS (lv_sub hl [0, 3, 4, 5, 6] rfl)
  · refine lv_aload_n hx hb dL_law_1036 rfl (lv_at hl 6 rfl) ?_
    refine lv_iconst (v := 0) hx hb dL_law_1037 (by decide) ?_
    refine out_ld hx hb hK.1 hL.2.2.1 dL_law_1038 ?_
    refine lv_iload hx hb dL_law_1039 (lv_at hl 0 rfl) ?_
    refine lv_i2l hx hb dL_law_1041 rfl ?_
    refine W.lcmp hx hb dL_law_1042 ?_
    refine lv_if_eq (tgt := 1048) hx hb dL_law_1043 (by decide) (fun _ => ?_) (fun h9 => absurd ((lg_cmp_eq _ _).mpr (hval h0)) h9)
    refine W.widen (k := cs + 1001) (n := sl + 3006) (by omega) (by omega) ?_
    refine lv_goto (tgt := 1174) hx hb dL_law_1048 (by decide) ?_
    refine lv_iinc (v := nI (6 * (j + 1))) (lv' := [(4, _), (6, _), (5, _), (0, _), (1, _), (2, _), (3, _)]) hx hb dL_law_1174 hl (k := 2) rfl (nI_add (6 * j) 6) (by decide) rfl (fun ls hl => ?_)
    refine lv_goto (tgt := 23) hx hb dL_law_1177 (by decide) ?_
    exact kk _ _ _ _ H locs ls hR9 hL hS (lv_sub hl [0, 3, 4, 5, 6] rfl)
set_option maxHeartbeats 4000000 in
set_option maxRecDepth 100000 in
theorem lk_request {p : Program} {l : Launch} {e : Env} {s : State} {m : MethodId} {below : List Frame} {meth : Method} {c : Code} {b L : Nat} {xs : Nat → Int32} {D : va_G} {y : Nat → ClassId} {Q : State → Prop} (C : LX p l s m c b L xs D y) {z : CS} {t : MS} {n qo j cs sl : Nat} {f : Nat → Int64} {H : Heap} {locs : List Loc} {ls : Array Slot} (hR : RR z t n) (hL : LW D y (lA s) z t qo f H) (hS : va_S (lA s) s.heap H locs) (hj : 6 * j + 6 ≤ L) (hcs : cs ≤ 600000) (hsl : sl ≤ 7000000) (hl : lv_has ls 8 [(4, .int (nI (6 * j))), (0, .ref b), (1, .ref (cA z 6 0)), (2, .ref (mA t 0 0)), (3, .ref qo)]) (kk : LKK p l e s m below meth c b D y Q qo (j + 1) (cs + 1001) (sl + 3006)) : W p l e room_1 s m #[Value.ref b] below meth c H locs cs sl Q (F0 m 1051 ls []) := by
  obtain ⟨hx, hb, hml, hown, hts, hX, hbl, h3072, hK, hZ, hN, hl0⟩ := C
  have hA : ∀ q, s.heap.size ≤ q → lA s q := fun _ h => h
  have hbA : ¬ lA s b := Nat.not_le.mpr hbl
  refine lv_aload_n hx hb dL_law_1051 rfl (lv_at hl 2 rfl) ?_
  refine lv_aload_n hx hb dL_law_1052 rfl (lv_at hl 1 rfl) ?_
  refine lv_iload hx hb dL_law_1053 (lv_at hl 0 rfl) ?_
  refine lv_iconst (v := 1) hx hb dL_law_1055 (by decide) ?_
  refine lv_iadd hx hb dL_law_1056 ?_
  refine s_ld (k := 6 * j + 1) hx hb hX hbl hbA hS (nI_add (6 * j) 1) (by omega) h3072 dL_law_1057 ?_
  refine lv_aload_n hx hb dL_law_1058 rfl (lv_at hl 1 rfl) ?_
  refine lv_iload hx hb dL_law_1059 (lv_at hl 0 rfl) ?_
  refine lv_iconst (v := 2) hx hb dL_law_1061 (by decide) ?_
  refine lv_iadd hx hb dL_law_1062 ?_
  refine s_ld (k := 6 * j + 2) hx hb hX hbl hbA hS (nI_add (6 * j) 2) (by omega) h3072 dL_law_1063 ?_
  refine lv_aload_n hx hb dL_law_1064 rfl (lv_at hl 4 rfl) ?_
  refine lc_h (vx_runSW (As := [.ref (cA z 6 0), .int (xs (6 * j + 1)), .int (xs (6 * j + 2)), .ref qo]) (rest := []) ⟨hx, hb, hml, hown, hts⟩ (l_request l hl0 D y z qo _ (xs (6 * j + 1)) (xs (6 * j + 2)) hR.2.2.2.1.2.1 hR.2.2.2.1.1 (fun r hr => (hR.req hr).1) hR.2.1) (vx_cwSW 4 hts gL_law_L_request rfl rfl rfl (by decide +kernel) ⟨Nat.le_of_ble_eq_true rfl, Nat.le_of_ble_eq_true rfl⟩) (hL.pre hK hZ hN hS hA [.ref (cA z 6 0), .int (xs (6 * j + 1)), .int (xs (6 * j + 2)), .ref qo]) rfl rfl hl.1 rfl (lv_room (Nat.le_of_ble_eq_true rfl)) dL_law_1065 ⟨by show cs + 3 ≤ 601024; omega, by show sl + 18 ≤ 7293034; omega⟩) hL hS hA (fun w u f1 H locs hc hL hS => ?_)
  refine lv_istore (lv' := [(5, _), (4, _), (0, _), (1, _), (2, _), (3, _)]) hx hb dL_law_1068 hl (by decide) rfl (fun ls hl => ?_)
  refine lv_aload_n hx hb dL_law_1070 rfl (lv_at hl 4 rfl) ?_
  refine lv_aload_n hx hb dL_law_1071 rfl (lv_at hl 2 rfl) ?_
  refine lv_iload hx hb dL_law_1072 (lv_at hl 1 rfl) ?_
  refine lv_iconst (v := 1) hx hb dL_law_1074 (by decide) ?_
  refine lv_iadd hx hb dL_law_1075 ?_
  refine s_ld (k := 6 * j + 1) hx hb hX hbl hbA hS (nI_add (6 * j) 1) (by omega) h3072 dL_law_1076 ?_
  refine lv_aload_n hx hb dL_law_1077 rfl (lv_at hl 2 rfl) ?_
  refine lv_iload hx hb dL_law_1078 (lv_at hl 1 rfl) ?_
  refine lv_iconst (v := 2) hx hb dL_law_1080 (by decide) ?_
  refine lv_iadd hx hb dL_law_1081 ?_
  refine s_ld (k := 6 * j + 2) hx hb hX hbl hbA hS (nI_add (6 * j) 2) (by omega) h3072 dL_law_1082 ?_
  refine lc_m (va_runV (As := [.int (xs (6 * j + 1)), .int (xs (6 * j + 2))]) (rest := []) ⟨hx, hb, hml, hown, hts⟩ (m7_request l D y t _ (xs (6 * j + 1)) (xs (6 * j + 2)) (cNr z) hR.2.2.2.1.2.2.1 hR.2.2.2.1.1) (cwV 2 hts gL_law_X7_request rfl rfl rfl (by decide +kernel) ⟨Nat.le_of_ble_eq_true rfl, Nat.le_of_ble_eq_true rfl⟩) (hL.preM hK [.int (xs (6 * j + 1)), .int (xs (6 * j + 2))]) rfl rfl hl.1 rfl (lv_room (Nat.le_of_ble_eq_true rfl)) dL_law_1083 ⟨by show cs + 3 + 0 ≤ 601024; omega, by show sl + 18 + 0 ≤ 7293034; omega⟩) hL hS hA (fun v7 u7 H locs hm hL hS => ?_)
  obtain ⟨⟨ag1, ⟨n9, hR9⟩, ag3, ag4⟩, x9, hv9, hval⟩ := Ag_request hR (xs (6 * j + 1)) (xs (6 * j + 2)) hc hm
  subst hv9
  refine lv_istore (lv' := [(6, _), (5, _), (4, _), (0, _), (1, _), (2, _), (3, _)]) hx hb dL_law_1086 hl (by decide) rfl (fun ls hl => ?_)
  rw [← ag3, ← ag4] at hl
  refine lv_aload_n hx hb dL_law_1088 rfl (lv_at hl 5 rfl) ?_
  refine lc_m (va_runV (As := []) (rest := []) ⟨hx, hb, hml, hown, hts⟩ (m7_thrown l D y u7 _) (cwV 0 hts gL_law_X7_thrown rfl rfl rfl (by decide +kernel) ⟨Nat.le_of_ble_eq_true rfl, Nat.le_of_ble_eq_true rfl⟩) (hL.preM hK []) rfl rfl hl.1 rfl (lv_room (Nat.le_of_ble_eq_true rfl)) dL_law_1089 ⟨by show cs + 3 + 0 + 0 ≤ 601024; omega, by show sl + 18 + 0 + 0 ≤ 7293034; omega⟩) hL hS hA (fun v8 u8 H locs hm8 hL hS => ?_)
  obtain ⟨rfl, e8⟩ := hm8
  replace e8 := e8.symm
  subst e8
  refine lv_iload hx hb dL_law_1092 (lv_at hl 1 rfl) ?_
  refine lv_icmp_eq (tgt := 1099) hx hb dL_law_1094 (by decide) (fun _ => ?_) (fun h9 => absurd ag1 h9)
  refine lv_iload hx hb dL_law_1099 (lv_at hl 1 rfl) ?_
  refine lv_if_ne (tgt := 1116) hx hb dL_law_1101 (by decide) (fun _ => ?_) (fun h0 => ?_)
  · refine W.widen (k := cs + 1001) (n := sl + 3006) (by omega) (by omega) ?_
    refine lv_goto (tgt := 1174) hx hb dL_law_1116 (by decide) ?_
    refine lv_iinc (v := nI (6 * (j + 1))) (lv' := [(4, _), (6, _), (5, _), (0, _), (1, _), (2, _), (3, _)]) hx hb dL_law_1174 hl (k := 2) rfl (nI_add (6 * j) 6) (by decide) rfl (fun ls hl => ?_)
    refine lv_goto (tgt := 23) hx hb dL_law_1177 (by decide) ?_
    exact kk _ _ _ _ H locs ls hR9 hL hS (lv_sub hl [0, 3, 4, 5, 6] rfl)
  · refine lv_aload_n hx hb dL_law_1104 rfl (lv_at hl 6 rfl) ?_
    refine lv_iconst (v := 0) hx hb dL_law_1105 (by decide) ?_
    refine out_ld hx hb hK.1 hL.2.2.1 dL_law_1106 ?_
    refine lv_iload hx hb dL_law_1107 (lv_at hl 0 rfl) ?_
    refine lv_i2l hx hb dL_law_1109 rfl ?_
    refine W.lcmp hx hb dL_law_1110 ?_
    refine lv_if_eq (tgt := 1116) hx hb dL_law_1111 (by decide) (fun _ => ?_) (fun h9 => absurd ((lg_cmp_eq _ _).mpr (hval h0)) h9)
    refine W.widen (k := cs + 1001) (n := sl + 3006) (by omega) (by omega) ?_
    refine lv_goto (tgt := 1174) hx hb dL_law_1116 (by decide) ?_
    refine lv_iinc (v := nI (6 * (j + 1))) (lv' := [(4, _), (6, _), (5, _), (0, _), (1, _), (2, _), (3, _)]) hx hb dL_law_1174 hl (k := 2) rfl (nI_add (6 * j) 6) (by decide) rfl (fun ls hl => ?_)
    refine lv_goto (tgt := 23) hx hb dL_law_1177 (by decide) ?_
    exact kk _ _ _ _ H locs ls hR9 hL hS (lv_sub hl [0, 3, 4, 5, 6] rfl)
set_option maxHeartbeats 4000000 in
set_option maxRecDepth 100000 in
theorem lk_result {p : Program} {l : Launch} {e : Env} {s : State} {m : MethodId} {below : List Frame} {meth : Method} {c : Code} {b L : Nat} {xs : Nat → Int32} {D : va_G} {y : Nat → ClassId} {Q : State → Prop} (C : LX p l s m c b L xs D y) {z : CS} {t : MS} {n qo j cs sl : Nat} {f : Nat → Int64} {H : Heap} {locs : List Loc} {ls : Array Slot} (hR : RR z t n) (hL : LW D y (lA s) z t qo f H) (hS : va_S (lA s) s.heap H locs) (hj : 6 * j + 6 ≤ L) (hcs : cs ≤ 600000) (hsl : sl ≤ 7000000) (hl : lv_has ls 8 [(4, .int (nI (6 * j))), (0, .ref b), (1, .ref (cA z 6 0)), (2, .ref (mA t 0 0)), (3, .ref qo)]) (kk : LKK p l e s m below meth c b D y Q qo (j + 1) (cs + 1001) (sl + 3006)) : W p l e room_1 s m #[Value.ref b] below meth c H locs cs sl Q (F0 m 1119 ls []) := by
  obtain ⟨hx, hb, hml, hown, hts, hX, hbl, h3072, hK, hZ, hN, hl0⟩ := C
  have hA : ∀ q, s.heap.size ≤ q → lA s q := fun _ h => h
  have hbA : ¬ lA s b := Nat.not_le.mpr hbl
  refine lv_aload_n hx hb dL_law_1119 rfl (lv_at hl 2 rfl) ?_
  refine lv_aload_n hx hb dL_law_1120 rfl (lv_at hl 1 rfl) ?_
  refine lv_iload hx hb dL_law_1121 (lv_at hl 0 rfl) ?_
  refine lv_iconst (v := 1) hx hb dL_law_1123 (by decide) ?_
  refine lv_iadd hx hb dL_law_1124 ?_
  refine s_ld (k := 6 * j + 1) hx hb hX hbl hbA hS (nI_add (6 * j) 1) (by omega) h3072 dL_law_1125 ?_
  refine lv_aload_n hx hb dL_law_1126 rfl (lv_at hl 4 rfl) ?_
  refine lc_h (vx_runSW (As := [.ref (cA z 6 0), .int (xs (6 * j + 1)), .ref qo]) (rest := []) ⟨hx, hb, hml, hown, hts⟩ (l_result l hl0 D y z qo _ (xs (6 * j + 1)) hR.2.2.2.1.2.1 hR.2.2.2.1.1 (fun r hr => (hR.req hr).1) hR.2.1) (vx_cwSW 3 hts gL_law_L_result rfl rfl rfl (by decide +kernel) ⟨Nat.le_of_ble_eq_true rfl, Nat.le_of_ble_eq_true rfl⟩) (hL.pre hK hZ hN hS hA [.ref (cA z 6 0), .int (xs (6 * j + 1)), .ref qo]) rfl rfl hl.1 rfl (lv_room (Nat.le_of_ble_eq_true rfl)) dL_law_1127 ⟨by show cs + 2 ≤ 601024; omega, by show sl + 12 ≤ 7293034; omega⟩) hL hS hA (fun w u f1 H locs hc hL hS => ?_)
  refine lv_istore (lv' := [(5, _), (4, _), (0, _), (1, _), (2, _), (3, _)]) hx hb dL_law_1130 hl (by decide) rfl (fun ls hl => ?_)
  refine lv_aload_n hx hb dL_law_1132 rfl (lv_at hl 4 rfl) ?_
  refine lv_aload_n hx hb dL_law_1133 rfl (lv_at hl 2 rfl) ?_
  refine lv_iload hx hb dL_law_1134 (lv_at hl 1 rfl) ?_
  refine lv_iconst (v := 1) hx hb dL_law_1136 (by decide) ?_
  refine lv_iadd hx hb dL_law_1137 ?_
  refine s_ld (k := 6 * j + 1) hx hb hX hbl hbA hS (nI_add (6 * j) 1) (by omega) h3072 dL_law_1138 ?_
  refine lc_m (va_runV (As := [.int (xs (6 * j + 1))]) (rest := []) ⟨hx, hb, hml, hown, hts⟩ (m7_result l D y t _ (xs (6 * j + 1)) (cNr z) hR.2.2.2.1.2.2.1 hR.2.2.2.1.1) (cwV 1 hts gL_law_X7_result rfl rfl rfl (by decide +kernel) ⟨Nat.le_of_ble_eq_true rfl, Nat.le_of_ble_eq_true rfl⟩) (hL.preM hK [.int (xs (6 * j + 1))]) rfl rfl hl.1 rfl (lv_room (Nat.le_of_ble_eq_true rfl)) dL_law_1139 ⟨by show cs + 2 + 0 ≤ 601024; omega, by show sl + 12 + 0 ≤ 7293034; omega⟩) hL hS hA (fun v7 u7 H locs hm hL hS => ?_)
  obtain ⟨⟨ag1, ⟨n9, hR9⟩, ag3, ag4⟩, x9, hv9, hval⟩ := Ag_result hR (xs (6 * j + 1)) hc hm
  subst hv9
  refine lv_lstore (lv' := [(6, _), (5, _), (4, _), (0, _), (1, _), (2, _), (3, _)]) hx hb dL_law_1142 hl (by decide) rfl (fun ls hl => ?_)
  rw [← ag3, ← ag4] at hl
  refine lv_aload_n hx hb dL_law_1144 rfl (lv_at hl 5 rfl) ?_
  refine lc_m (va_runV (As := []) (rest := []) ⟨hx, hb, hml, hown, hts⟩ (m7_thrown l D y u7 _) (cwV 0 hts gL_law_X7_thrown rfl rfl rfl (by decide +kernel) ⟨Nat.le_of_ble_eq_true rfl, Nat.le_of_ble_eq_true rfl⟩) (hL.preM hK []) rfl rfl hl.1 rfl (lv_room (Nat.le_of_ble_eq_true rfl)) dL_law_1145 ⟨by show cs + 2 + 0 + 0 ≤ 601024; omega, by show sl + 12 + 0 + 0 ≤ 7293034; omega⟩) hL hS hA (fun v8 u8 H locs hm8 hL hS => ?_)
  obtain ⟨rfl, e8⟩ := hm8
  replace e8 := e8.symm
  subst e8
  refine lv_iload hx hb dL_law_1148 (lv_at hl 1 rfl) ?_
  refine lv_icmp_eq (tgt := 1155) hx hb dL_law_1150 (by decide) (fun _ => ?_) (fun h9 => absurd ag1 h9)
  refine lv_iload hx hb dL_law_1155 (lv_at hl 1 rfl) ?_
  refine lv_if_ne (tgt := 1171) hx hb dL_law_1157 (by decide) (fun _ => ?_) (fun h0 => ?_)
  · refine W.widen (k := cs + 1001) (n := sl + 3006) (by omega) (by omega) ?_
    refine lv_goto (tgt := 1174) hx hb dL_law_1171 (by decide) ?_
    refine lv_iinc (v := nI (6 * (j + 1))) (lv' := [(4, _), (6, _), (5, _), (0, _), (1, _), (2, _), (3, _)]) hx hb dL_law_1174 hl (k := 2) rfl (nI_add (6 * j) 6) (by decide) rfl (fun ls hl => ?_)
    refine lv_goto (tgt := 23) hx hb dL_law_1177 (by decide) ?_
    exact kk _ _ _ _ H locs ls hR9 hL hS (lv_sub hl [0, 3, 4, 5, 6] rfl)
  · refine lv_aload_n hx hb dL_law_1160 rfl (lv_at hl 6 rfl) ?_
    refine lv_iconst (v := 0) hx hb dL_law_1161 (by decide) ?_
    refine out_ld hx hb hK.1 hL.2.2.1 dL_law_1162 ?_
    refine lv_lload hx hb dL_law_1163 (lv_at hl 0 rfl) ?_
    refine W.lcmp hx hb dL_law_1165 ?_
    refine lv_if_eq (tgt := 1171) hx hb dL_law_1166 (by decide) (fun _ => ?_) (fun h9 => absurd ((lg_cmp_eq _ _).mpr (hval h0)) h9)
    refine W.widen (k := cs + 1001) (n := sl + 3006) (by omega) (by omega) ?_
    refine lv_goto (tgt := 1174) hx hb dL_law_1171 (by decide) ?_
    refine lv_iinc (v := nI (6 * (j + 1))) (lv' := [(4, _), (6, _), (5, _), (0, _), (1, _), (2, _), (3, _)]) hx hb dL_law_1174 hl (k := 2) rfl (nI_add (6 * j) 6) (by decide) rfl (fun ls hl => ?_)
    refine lv_goto (tgt := 23) hx hb dL_law_1177 (by decide) ?_
    exact kk _ _ _ _ H locs ls hR9 hL hS (lv_sub hl [0, 3, 4, 5, 6] rfl)
