set_option maxHeartbeats 4000000 in
set_option maxRecDepth 100000 in
theorem lk_messages {p : Program} {l : Launch} {e : Env} {s : State} {m : MethodId} {below : List Frame} {meth : Method} {c : Code} {b L : Nat} {xs : Nat → Int32} {D : va_G} {y : Nat → ClassId} {Q : State → Prop} (C : LX p l s m c b L xs D y) {z : CS} {t : MS} {n qo j cs sl : Nat} {f : Nat → Int64} {H : Heap} {locs : List Loc} {ls : Array Slot} (hR : RR z t n) (hL : LW D y (lA s) z t qo f H) (hS : va_S (lA s) s.heap H locs) (hj : 6 * j + 6 ≤ L) (hcs : cs ≤ 600000) (hsl : sl ≤ 7000000) (hl : lv_has ls 8 [(4, .int (nI (6 * j))), (0, .ref b), (1, .ref (cA z 6 0)), (2, .ref (mA t 0 0)), (3, .ref qo)]) (kk : LKK p l e s m below meth c b D y Q qo (j + 1) (cs + 1001) (sl + 3006)) : W p l e room_1 s m #[Value.ref b] below meth c H locs cs sl Q (F0 m 755 ls []) := by
  obtain ⟨hx, hb, hml, hown, hts, hX, hbl, h3072, hK, hZ, hN, hl0⟩ := C
  have hA : ∀ q, s.heap.size ≤ q → lA s q := fun _ h => h
  have hbA : ¬ lA s b := Nat.not_le.mpr hbl
  refine lv_aload_n hx hb dL_law_755 rfl (lv_at hl 2 rfl) ?_
  refine lc_c (va_runV (As := []) (rest := []) ⟨hx, hb, hml, hown, hts⟩ (m_messages l D y z _) (cwV 0 hts gL_law_X6_messages rfl rfl rfl (by decide +kernel) ⟨Nat.le_of_ble_eq_true rfl, Nat.le_of_ble_eq_true rfl⟩) (hL.preC hK []) rfl rfl hl.1 rfl (lv_room (Nat.le_of_ble_eq_true rfl)) dL_law_756 ⟨by show cs + 0 ≤ 601024; omega, by show sl + 0 ≤ 7293034; omega⟩) hL hS hA (fun v8 u8 H locs hm8 hL hS => ?_)
  obtain ⟨rfl, e8⟩ := hm8
  replace e8 := e8.symm
  subst e8
  refine lv_aload_n hx hb dL_law_759 rfl (lv_at hl 3 rfl) ?_
  refine lc_m (va_runV (As := []) (rest := [.int (cI z 25 0)]) ⟨hx, hb, hml, hown, hts⟩ (m7_messages l D y t _) (cwV 0 hts gL_law_X7_messages rfl rfl rfl (by decide +kernel) ⟨Nat.le_of_ble_eq_true rfl, Nat.le_of_ble_eq_true rfl⟩) (hL.preM hK []) rfl rfl hl.1 rfl (lv_room (Nat.le_of_ble_eq_true rfl)) dL_law_760 ⟨by show cs + 0 + 0 ≤ 601024; omega, by show sl + 0 + 0 ≤ 7293034; omega⟩) hL hS hA (fun v9 u9 H locs hm9 hL hS => ?_)
  obtain ⟨rfl, rfl⟩ := hm9
  refine lv_icmp_eq (tgt := 1174) hx hb dL_law_763 (by decide) (fun _ => ?_) (fun h9 => absurd (hR.n36.2.2.trans hR.n36.1.symm) h9)
  have hl : lv_has ls 8 [(4, .int (nI (6 * j))), (0, .ref b), (1, .ref (cA z 6 0)), (2, .ref (mA (tI t 38 0 0) 0 0)), (3, .ref qo)] := hl
  refine W.widen (k := cs + 1001) (n := sl + 3006) (by omega) (by omega) ?_
  refine lv_iinc (v := nI (6 * (j + 1))) (lv' := [(4, _), (0, _), (1, _), (2, _), (3, _)]) hx hb dL_law_1174 hl (k := 0) rfl (nI_add (6 * j) 6) (by decide) rfl (fun ls hl => ?_)
  refine lv_goto (tgt := 23) hx hb dL_law_1177 (by decide) ?_
  exact kk _ _ _ _ H locs ls (RR_t hR) hL hS (lv_sub hl [0, 1, 2, 3, 4] rfl)
set_option maxHeartbeats 4000000 in
set_option maxRecDepth 100000 in
theorem lk_message {p : Program} {l : Launch} {e : Env} {s : State} {m : MethodId} {below : List Frame} {meth : Method} {c : Code} {b L : Nat} {xs : Nat → Int32} {D : va_G} {y : Nat → ClassId} {Q : State → Prop} (C : LX p l s m c b L xs D y) {z : CS} {t : MS} {n qo j cs sl : Nat} {f : Nat → Int64} {H : Heap} {locs : List Loc} {ls : Array Slot} (hR : RR z t n) (hL : LW D y (lA s) z t qo f H) (hS : va_S (lA s) s.heap H locs) (hj : 6 * j + 6 ≤ L) (hcs : cs ≤ 600000) (hsl : sl ≤ 7000000) (hl : lv_has ls 8 [(4, .int (nI (6 * j))), (0, .ref b), (1, .ref (cA z 6 0)), (2, .ref (mA t 0 0)), (3, .ref qo)]) (kk : LKK p l e s m below meth c b D y Q qo (j + 1) (cs + 1001) (sl + 3006)) : W p l e room_1 s m #[Value.ref b] below meth c H locs cs sl Q (F0 m 768 ls []) := by
  obtain ⟨hx, hb, hml, hown, hts, hX, hbl, h3072, hK, hZ, hN, hl0⟩ := C
  have hA : ∀ q, s.heap.size ≤ q → lA s q := fun _ h => h
  have hbA : ¬ lA s b := Nat.not_le.mpr hbl
  refine lv_aload_n hx hb dL_law_768 rfl (lv_at hl 2 rfl) ?_
  refine lv_aload_n hx hb dL_law_769 rfl (lv_at hl 1 rfl) ?_
  refine lv_iload hx hb dL_law_770 (lv_at hl 0 rfl) ?_
  refine lv_iconst (v := 1) hx hb dL_law_772 (by decide) ?_
  refine lv_iadd hx hb dL_law_773 ?_
  refine s_ld (k := 6 * j + 1) hx hb hX hbl hbA hS (nI_add (6 * j) 1) (by omega) h3072 dL_law_774 ?_
  refine lv_aload_n hx hb dL_law_775 rfl (lv_at hl 1 rfl) ?_
  refine lv_iload hx hb dL_law_776 (lv_at hl 0 rfl) ?_
  refine lv_iconst (v := 2) hx hb dL_law_778 (by decide) ?_
  refine lv_iadd hx hb dL_law_779 ?_
  refine s_ld (k := 6 * j + 2) hx hb hX hbl hbA hS (nI_add (6 * j) 2) (by omega) h3072 dL_law_780 ?_
  refine lv_aload_n hx hb dL_law_781 rfl (lv_at hl 4 rfl) ?_
  refine lc_h (vx_runSW (As := [.ref (cA z 6 0), .int (xs (6 * j + 1)), .int (xs (6 * j + 2)), .ref qo]) (rest := []) ⟨hx, hb, hml, hown, hts⟩ (l_message l hl0 D y z qo _ (xs (6 * j + 1)) (xs (6 * j + 2)) n hR.1.1 hR.2.1.1) (vx_cwSW 4 hts gL_law_L_message rfl rfl rfl (by decide +kernel) ⟨Nat.le_of_ble_eq_true rfl, Nat.le_of_ble_eq_true rfl⟩) (hL.pre hK hZ hN hS hA [.ref (cA z 6 0), .int (xs (6 * j + 1)), .int (xs (6 * j + 2)), .ref qo]) rfl rfl hl.1 rfl (lv_room (Nat.le_of_ble_eq_true rfl)) dL_law_782 ⟨by show cs + 2 ≤ 601024; omega, by show sl + 12 ≤ 7293034; omega⟩) hL hS hA (fun w u f1 H locs hc hL hS => ?_)
  refine lv_istore (lv' := [(5, _), (4, _), (0, _), (1, _), (2, _), (3, _)]) hx hb dL_law_785 hl (by decide) rfl (fun ls hl => ?_)
  refine lv_aload_n hx hb dL_law_787 rfl (lv_at hl 4 rfl) ?_
  refine lv_aload_n hx hb dL_law_788 rfl (lv_at hl 2 rfl) ?_
  refine lv_iload hx hb dL_law_789 (lv_at hl 1 rfl) ?_
  refine lv_iconst (v := 1) hx hb dL_law_791 (by decide) ?_
  refine lv_iadd hx hb dL_law_792 ?_
  refine s_ld (k := 6 * j + 1) hx hb hX hbl hbA hS (nI_add (6 * j) 1) (by omega) h3072 dL_law_793 ?_
  refine lv_aload_n hx hb dL_law_794 rfl (lv_at hl 2 rfl) ?_
  refine lv_iload hx hb dL_law_795 (lv_at hl 1 rfl) ?_
  refine lv_iconst (v := 2) hx hb dL_law_797 (by decide) ?_
  refine lv_iadd hx hb dL_law_798 ?_
  refine s_ld (k := 6 * j + 2) hx hb hX hbl hbA hS (nI_add (6 * j) 2) (by omega) h3072 dL_law_799 ?_
  refine lc_m (va_runV (As := [.int (xs (6 * j + 1)), .int (xs (6 * j + 2))]) (rest := []) ⟨hx, hb, hml, hown, hts⟩ (m7_message l D y t _ (xs (6 * j + 1)) (xs (6 * j + 2)) n hR.n36.1 hR.n36.2.1) (cwV 2 hts gL_law_X7_message rfl rfl rfl (by decide +kernel) ⟨Nat.le_of_ble_eq_true rfl, Nat.le_of_ble_eq_true rfl⟩) (hL.preM hK [.int (xs (6 * j + 1)), .int (xs (6 * j + 2))]) rfl rfl hl.1 rfl (lv_room (Nat.le_of_ble_eq_true rfl)) dL_law_800 ⟨by show cs + 2 + 0 ≤ 601024; omega, by show sl + 12 + 0 ≤ 7293034; omega⟩) hL hS hA (fun v7 u7 H locs hm hL hS => ?_)
  obtain ⟨⟨ag1, ⟨n9, hR9⟩, ag3, ag4⟩, x9, hv9, hval⟩ := Ag_message hR (xs (6 * j + 1)) (xs (6 * j + 2)) hc hm
  subst hv9
  refine lv_istore (lv' := [(6, _), (5, _), (4, _), (0, _), (1, _), (2, _), (3, _)]) hx hb dL_law_803 hl (by decide) rfl (fun ls hl => ?_)
  rw [← ag3, ← ag4] at hl
  refine lv_aload_n hx hb dL_law_805 rfl (lv_at hl 5 rfl) ?_
  refine lc_m (va_runV (As := []) (rest := []) ⟨hx, hb, hml, hown, hts⟩ (m7_thrown l D y u7 _) (cwV 0 hts gL_law_X7_thrown rfl rfl rfl (by decide +kernel) ⟨Nat.le_of_ble_eq_true rfl, Nat.le_of_ble_eq_true rfl⟩) (hL.preM hK []) rfl rfl hl.1 rfl (lv_room (Nat.le_of_ble_eq_true rfl)) dL_law_806 ⟨by show cs + 2 + 0 + 0 ≤ 601024; omega, by show sl + 12 + 0 + 0 ≤ 7293034; omega⟩) hL hS hA (fun v8 u8 H locs hm8 hL hS => ?_)
  obtain ⟨rfl, e8⟩ := hm8
  replace e8 := e8.symm
  subst e8
  refine lv_iload hx hb dL_law_809 (lv_at hl 1 rfl) ?_
  refine lv_icmp_eq (tgt := 816) hx hb dL_law_811 (by decide) (fun _ => ?_) (fun h9 => absurd ag1 h9)
  refine lv_iload hx hb dL_law_816 (lv_at hl 1 rfl) ?_
  refine lv_if_ne (tgt := 833) hx hb dL_law_818 (by decide) (fun _ => ?_) (fun h0 => ?_)
  · refine W.widen (k := cs + 1001) (n := sl + 3006) (by omega) (by omega) ?_
    refine lv_goto (tgt := 1174) hx hb dL_law_833 (by decide) ?_
    refine lv_iinc (v := nI (6 * (j + 1))) (lv' := [(4, _), (6, _), (5, _), (0, _), (1, _), (2, _), (3, _)]) hx hb dL_law_1174 hl (k := 2) rfl (nI_add (6 * j) 6) (by decide) rfl (fun ls hl => ?_)
    refine lv_goto (tgt := 23) hx hb dL_law_1177 (by decide) ?_
    exact kk _ _ _ _ H locs ls hR9 hL hS (lv_sub hl [0, 3, 4, 5, 6] rfl)
  · refine lv_aload_n hx hb dL_law_821 rfl (lv_at hl 6 rfl) ?_
    refine lv_iconst (v := 0) hx hb dL_law_822 (by decide) ?_
    refine out_ld hx hb hK.1 hL.2.2.1 dL_law_823 ?_
    refine lv_iload hx hb dL_law_824 (lv_at hl 0 rfl) ?_
    refine lv_i2l hx hb dL_law_826 rfl ?_
    refine W.lcmp hx hb dL_law_827 ?_
    refine lv_if_eq (tgt := 833) hx hb dL_law_828 (by decide) (fun _ => ?_) (fun h9 => absurd ((lg_cmp_eq _ _).mpr (hval h0)) h9)
    refine W.widen (k := cs + 1001) (n := sl + 3006) (by omega) (by omega) ?_
    refine lv_goto (tgt := 1174) hx hb dL_law_833 (by decide) ?_
    refine lv_iinc (v := nI (6 * (j + 1))) (lv' := [(4, _), (6, _), (5, _), (0, _), (1, _), (2, _), (3, _)]) hx hb dL_law_1174 hl (k := 2) rfl (nI_add (6 * j) 6) (by decide) rfl (fun ls hl => ?_)
    refine lv_goto (tgt := 23) hx hb dL_law_1177 (by decide) ?_
    exact kk _ _ _ _ H locs ls hR9 hL hS (lv_sub hl [0, 3, 4, 5, 6] rfl)
set_option maxHeartbeats 4000000 in
set_option maxRecDepth 100000 in
theorem lk_keeper {p : Program} {l : Launch} {e : Env} {s : State} {m : MethodId} {below : List Frame} {meth : Method} {c : Code} {b L : Nat} {xs : Nat → Int32} {D : va_G} {y : Nat → ClassId} {Q : State → Prop} (C : LX p l s m c b L xs D y) {z : CS} {t : MS} {n qo j cs sl : Nat} {f : Nat → Int64} {H : Heap} {locs : List Loc} {ls : Array Slot} (hR : RR z t n) (hL : LW D y (lA s) z t qo f H) (hS : va_S (lA s) s.heap H locs) (hj : 6 * j + 6 ≤ L) (hcs : cs ≤ 600000) (hsl : sl ≤ 7000000) (hl : lv_has ls 8 [(4, .int (nI (6 * j))), (0, .ref b), (1, .ref (cA z 6 0)), (2, .ref (mA t 0 0)), (3, .ref qo)]) (kk : LKK p l e s m below meth c b D y Q qo (j + 1) (cs + 1001) (sl + 3006)) : W p l e room_1 s m #[Value.ref b] below meth c H locs cs sl Q (F0 m 836 ls []) := by
  obtain ⟨hx, hb, hml, hown, hts, hX, hbl, h3072, hK, hZ, hN, hl0⟩ := C
  have hA : ∀ q, s.heap.size ≤ q → lA s q := fun _ h => h
  have hbA : ¬ lA s b := Nat.not_le.mpr hbl
  refine lv_aload_n hx hb dL_law_836 rfl (lv_at hl 2 rfl) ?_
  refine lv_aload_n hx hb dL_law_837 rfl (lv_at hl 1 rfl) ?_
  refine lv_iload hx hb dL_law_838 (lv_at hl 0 rfl) ?_
  refine lv_iconst (v := 1) hx hb dL_law_840 (by decide) ?_
  refine lv_iadd hx hb dL_law_841 ?_
  refine s_ld (k := 6 * j + 1) hx hb hX hbl hbA hS (nI_add (6 * j) 1) (by omega) h3072 dL_law_842 ?_
  refine lv_aload_n hx hb dL_law_843 rfl (lv_at hl 1 rfl) ?_
  refine lv_iload hx hb dL_law_844 (lv_at hl 0 rfl) ?_
  refine lv_iconst (v := 2) hx hb dL_law_846 (by decide) ?_
  refine lv_iadd hx hb dL_law_847 ?_
  refine s_ld (k := 6 * j + 2) hx hb hX hbl hbA hS (nI_add (6 * j) 2) (by omega) h3072 dL_law_848 ?_
  refine lv_aload_n hx hb dL_law_849 rfl (lv_at hl 1 rfl) ?_
  refine lv_iload hx hb dL_law_850 (lv_at hl 0 rfl) ?_
  refine lv_iconst (v := 3) hx hb dL_law_852 (by decide) ?_
  refine lv_iadd hx hb dL_law_853 ?_
  refine s_ld (k := 6 * j + 3) hx hb hX hbl hbA hS (nI_add (6 * j) 3) (by omega) h3072 dL_law_854 ?_
  refine lv_aload_n hx hb dL_law_855 rfl (lv_at hl 4 rfl) ?_
  refine lc_h (vx_runSW (As := [.ref (cA z 6 0), .int (xs (6 * j + 1)), .int (xs (6 * j + 2)), .int (xs (6 * j + 3)), .ref qo]) (rest := []) ⟨hx, hb, hml, hown, hts⟩ (l_keeper l hl0 D y z qo _ (xs (6 * j + 1)) (xs (6 * j + 2)) (xs (6 * j + 3)) hR.2.1.1) (vx_cwSW 5 hts gL_law_L_keeper rfl rfl rfl (by decide +kernel) ⟨Nat.le_of_ble_eq_true rfl, Nat.le_of_ble_eq_true rfl⟩) (hL.pre hK hZ hN hS hA [.ref (cA z 6 0), .int (xs (6 * j + 1)), .int (xs (6 * j + 2)), .int (xs (6 * j + 3)), .ref qo]) rfl rfl hl.1 rfl (lv_room (Nat.le_of_ble_eq_true rfl)) dL_law_856 ⟨by show cs + 3 ≤ 601024; omega, by show sl + 18 ≤ 7293034; omega⟩) hL hS hA (fun w u f1 H locs hc hL hS => ?_)
  refine lv_istore (lv' := [(5, _), (4, _), (0, _), (1, _), (2, _), (3, _)]) hx hb dL_law_859 hl (by decide) rfl (fun ls hl => ?_)
  refine lv_aload_n hx hb dL_law_861 rfl (lv_at hl 4 rfl) ?_
  refine lv_aload_n hx hb dL_law_862 rfl (lv_at hl 2 rfl) ?_
  refine lv_iload hx hb dL_law_863 (lv_at hl 1 rfl) ?_
  refine lv_iconst (v := 1) hx hb dL_law_865 (by decide) ?_
  refine lv_iadd hx hb dL_law_866 ?_
  refine s_ld (k := 6 * j + 1) hx hb hX hbl hbA hS (nI_add (6 * j) 1) (by omega) h3072 dL_law_867 ?_
  refine lv_aload_n hx hb dL_law_868 rfl (lv_at hl 2 rfl) ?_
  refine lv_iload hx hb dL_law_869 (lv_at hl 1 rfl) ?_
  refine lv_iconst (v := 2) hx hb dL_law_871 (by decide) ?_
  refine lv_iadd hx hb dL_law_872 ?_
  refine s_ld (k := 6 * j + 2) hx hb hX hbl hbA hS (nI_add (6 * j) 2) (by omega) h3072 dL_law_873 ?_
  refine lv_aload_n hx hb dL_law_874 rfl (lv_at hl 2 rfl) ?_
  refine lv_iload hx hb dL_law_875 (lv_at hl 1 rfl) ?_
  refine lv_iconst (v := 3) hx hb dL_law_877 (by decide) ?_
  refine lv_iadd hx hb dL_law_878 ?_
  refine s_ld (k := 6 * j + 3) hx hb hX hbl hbA hS (nI_add (6 * j) 3) (by omega) h3072 dL_law_879 ?_
  refine lc_m (va_runV (As := [.int (xs (6 * j + 1)), .int (xs (6 * j + 2)), .int (xs (6 * j + 3))]) (rest := []) ⟨hx, hb, hml, hown, hts⟩ (m7_keeper l D y t _ (xs (6 * j + 1)) (xs (6 * j + 2)) (xs (6 * j + 3)) ) (cwV 3 hts gL_law_X7_keeper rfl rfl rfl (by decide +kernel) ⟨Nat.le_of_ble_eq_true rfl, Nat.le_of_ble_eq_true rfl⟩) (hL.preM hK [.int (xs (6 * j + 1)), .int (xs (6 * j + 2)), .int (xs (6 * j + 3))]) rfl rfl hl.1 rfl (lv_room (Nat.le_of_ble_eq_true rfl)) dL_law_880 ⟨by show cs + 3 + 0 ≤ 601024; omega, by show sl + 18 + 0 ≤ 7293034; omega⟩) hL hS hA (fun v7 u7 H locs hm hL hS => ?_)
  obtain ⟨⟨ag1, ⟨n9, hR9⟩, ag3, ag4⟩, x9, hv9, hval⟩ := Ag_keeper hR (xs (6 * j + 1)) (xs (6 * j + 2)) (xs (6 * j + 3)) hc hm
  subst hv9
  refine lv_istore (lv' := [(6, _), (5, _), (4, _), (0, _), (1, _), (2, _), (3, _)]) hx hb dL_law_883 hl (by decide) rfl (fun ls hl => ?_)
  rw [← ag3, ← ag4] at hl
  refine lv_aload_n hx hb dL_law_885 rfl (lv_at hl 5 rfl) ?_
  refine lc_m (va_runV (As := []) (rest := []) ⟨hx, hb, hml, hown, hts⟩ (m7_thrown l D y u7 _) (cwV 0 hts gL_law_X7_thrown rfl rfl rfl (by decide +kernel) ⟨Nat.le_of_ble_eq_true rfl, Nat.le_of_ble_eq_true rfl⟩) (hL.preM hK []) rfl rfl hl.1 rfl (lv_room (Nat.le_of_ble_eq_true rfl)) dL_law_886 ⟨by show cs + 3 + 0 + 0 ≤ 601024; omega, by show sl + 18 + 0 + 0 ≤ 7293034; omega⟩) hL hS hA (fun v8 u8 H locs hm8 hL hS => ?_)
  obtain ⟨rfl, e8⟩ := hm8
  replace e8 := e8.symm
  subst e8
  refine lv_iload hx hb dL_law_889 (lv_at hl 1 rfl) ?_
  refine lv_icmp_eq (tgt := 896) hx hb dL_law_891 (by decide) (fun _ => ?_) (fun h9 => absurd ag1 h9)
  refine lv_iload hx hb dL_law_896 (lv_at hl 1 rfl) ?_
  refine lv_if_ne (tgt := 913) hx hb dL_law_898 (by decide) (fun _ => ?_) (fun h0 => ?_)
  · refine W.widen (k := cs + 1001) (n := sl + 3006) (by omega) (by omega) ?_
    refine lv_goto (tgt := 1174) hx hb dL_law_913 (by decide) ?_
    refine lv_iinc (v := nI (6 * (j + 1))) (lv' := [(4, _), (6, _), (5, _), (0, _), (1, _), (2, _), (3, _)]) hx hb dL_law_1174 hl (k := 2) rfl (nI_add (6 * j) 6) (by decide) rfl (fun ls hl => ?_)
    refine lv_goto (tgt := 23) hx hb dL_law_1177 (by decide) ?_
    exact kk _ _ _ _ H locs ls hR9 hL hS (lv_sub hl [0, 3, 4, 5, 6] rfl)
  · refine lv_aload_n hx hb dL_law_901 rfl (lv_at hl 6 rfl) ?_
    refine lv_iconst (v := 0) hx hb dL_law_902 (by decide) ?_
    refine out_ld hx hb hK.1 hL.2.2.1 dL_law_903 ?_
    refine lv_iload hx hb dL_law_904 (lv_at hl 0 rfl) ?_
    refine lv_i2l hx hb dL_law_906 rfl ?_
    refine W.lcmp hx hb dL_law_907 ?_
    refine lv_if_eq (tgt := 913) hx hb dL_law_908 (by decide) (fun _ => ?_) (fun h9 => absurd ((lg_cmp_eq _ _).mpr (hval h0)) h9)
    refine W.widen (k := cs + 1001) (n := sl + 3006) (by omega) (by omega) ?_
    refine lv_goto (tgt := 1174) hx hb dL_law_913 (by decide) ?_
    refine lv_iinc (v := nI (6 * (j + 1))) (lv' := [(4, _), (6, _), (5, _), (0, _), (1, _), (2, _), (3, _)]) hx hb dL_law_1174 hl (k := 2) rfl (nI_add (6 * j) 6) (by decide) rfl (fun ls hl => ?_)
    refine lv_goto (tgt := 23) hx hb dL_law_1177 (by decide) ?_
    exact kk _ _ _ _ H locs ls hR9 hL hS (lv_sub hl [0, 3, 4, 5, 6] rfl)
set_option maxHeartbeats 4000000 in
set_option maxRecDepth 100000 in
theorem lk_kept {p : Program} {l : Launch} {e : Env} {s : State} {m : MethodId} {below : List Frame} {meth : Method} {c : Code} {b L : Nat} {xs : Nat → Int32} {D : va_G} {y : Nat → ClassId} {Q : State → Prop} (C : LX p l s m c b L xs D y) {z : CS} {t : MS} {n qo j cs sl : Nat} {f : Nat → Int64} {H : Heap} {locs : List Loc} {ls : Array Slot} (hR : RR z t n) (hL : LW D y (lA s) z t qo f H) (hS : va_S (lA s) s.heap H locs) (hj : 6 * j + 6 ≤ L) (hcs : cs ≤ 600000) (hsl : sl ≤ 7000000) (hl : lv_has ls 8 [(4, .int (nI (6 * j))), (0, .ref b), (1, .ref (cA z 6 0)), (2, .ref (mA t 0 0)), (3, .ref qo)]) (kk : LKK p l e s m below meth c b D y Q qo (j + 1) (cs + 1001) (sl + 3006)) : W p l e room_1 s m #[Value.ref b] below meth c H locs cs sl Q (F0 m 916 ls []) := by
  obtain ⟨hx, hb, hml, hown, hts, hX, hbl, h3072, hK, hZ, hN, hl0⟩ := C
  have hA : ∀ q, s.heap.size ≤ q → lA s q := fun _ h => h
  have hbA : ¬ lA s b := Nat.not_le.mpr hbl
  refine lv_aload_n hx hb dL_law_916 rfl (lv_at hl 2 rfl) ?_
  refine lv_aload_n hx hb dL_law_917 rfl (lv_at hl 1 rfl) ?_
  refine lv_iload hx hb dL_law_918 (lv_at hl 0 rfl) ?_
  refine lv_iconst (v := 1) hx hb dL_law_920 (by decide) ?_
  refine lv_iadd hx hb dL_law_921 ?_
  refine s_ld (k := 6 * j + 1) hx hb hX hbl hbA hS (nI_add (6 * j) 1) (by omega) h3072 dL_law_922 ?_
  refine lv_aload_n hx hb dL_law_923 rfl (lv_at hl 1 rfl) ?_
  refine lv_iload hx hb dL_law_924 (lv_at hl 0 rfl) ?_
  refine lv_iconst (v := 2) hx hb dL_law_926 (by decide) ?_
  refine lv_iadd hx hb dL_law_927 ?_
  refine s_ld (k := 6 * j + 2) hx hb hX hbl hbA hS (nI_add (6 * j) 2) (by omega) h3072 dL_law_928 ?_
  refine lv_aload_n hx hb dL_law_929 rfl (lv_at hl 4 rfl) ?_
  refine lc_h (vx_runSW (As := [.ref (cA z 6 0), .int (xs (6 * j + 1)), .int (xs (6 * j + 2)), .ref qo]) (rest := []) ⟨hx, hb, hml, hown, hts⟩ (l_kept l hl0 D y z qo _ (xs (6 * j + 1)) (xs (6 * j + 2)) hR.2.1.1) (vx_cwSW 4 hts gL_law_L_kept rfl rfl rfl (by decide +kernel) ⟨Nat.le_of_ble_eq_true rfl, Nat.le_of_ble_eq_true rfl⟩) (hL.pre hK hZ hN hS hA [.ref (cA z 6 0), .int (xs (6 * j + 1)), .int (xs (6 * j + 2)), .ref qo]) rfl rfl hl.1 rfl (lv_room (Nat.le_of_ble_eq_true rfl)) dL_law_930 ⟨by show cs + 2 ≤ 601024; omega, by show sl + 12 ≤ 7293034; omega⟩) hL hS hA (fun w u f1 H locs hc hL hS => ?_)
  refine lv_istore (lv' := [(5, _), (4, _), (0, _), (1, _), (2, _), (3, _)]) hx hb dL_law_933 hl (by decide) rfl (fun ls hl => ?_)
  refine lv_aload_n hx hb dL_law_935 rfl (lv_at hl 4 rfl) ?_
  refine lv_aload_n hx hb dL_law_936 rfl (lv_at hl 2 rfl) ?_
  refine lv_iload hx hb dL_law_937 (lv_at hl 1 rfl) ?_
  refine lv_iconst (v := 1) hx hb dL_law_939 (by decide) ?_
  refine lv_iadd hx hb dL_law_940 ?_
  refine s_ld (k := 6 * j + 1) hx hb hX hbl hbA hS (nI_add (6 * j) 1) (by omega) h3072 dL_law_941 ?_
  refine lv_aload_n hx hb dL_law_942 rfl (lv_at hl 2 rfl) ?_
  refine lv_iload hx hb dL_law_943 (lv_at hl 1 rfl) ?_
  refine lv_iconst (v := 2) hx hb dL_law_945 (by decide) ?_
  refine lv_iadd hx hb dL_law_946 ?_
  refine s_ld (k := 6 * j + 2) hx hb hX hbl hbA hS (nI_add (6 * j) 2) (by omega) h3072 dL_law_947 ?_
  refine lc_m (va_runV (As := [.int (xs (6 * j + 1)), .int (xs (6 * j + 2))]) (rest := []) ⟨hx, hb, hml, hown, hts⟩ (m7_kept l D y t _ (xs (6 * j + 1)) (xs (6 * j + 2)) ) (cwV 2 hts gL_law_X7_kept rfl rfl rfl (by decide +kernel) ⟨Nat.le_of_ble_eq_true rfl, Nat.le_of_ble_eq_true rfl⟩) (hL.preM hK [.int (xs (6 * j + 1)), .int (xs (6 * j + 2))]) rfl rfl hl.1 rfl (lv_room (Nat.le_of_ble_eq_true rfl)) dL_law_948 ⟨by show cs + 2 + 0 ≤ 601024; omega, by show sl + 12 + 0 ≤ 7293034; omega⟩) hL hS hA (fun v7 u7 H locs hm hL hS => ?_)
  obtain ⟨⟨ag1, ⟨n9, hR9⟩, ag3, ag4⟩, x9, hv9, hval⟩ := Ag_kept hR (xs (6 * j + 1)) (xs (6 * j + 2)) hc hm
  subst hv9
  refine lv_lstore (lv' := [(6, _), (5, _), (4, _), (0, _), (1, _), (2, _), (3, _)]) hx hb dL_law_951 hl (by decide) rfl (fun ls hl => ?_)
  rw [← ag3, ← ag4] at hl
  refine lv_aload_n hx hb dL_law_953 rfl (lv_at hl 5 rfl) ?_
  refine lc_m (va_runV (As := []) (rest := []) ⟨hx, hb, hml, hown, hts⟩ (m7_thrown l D y u7 _) (cwV 0 hts gL_law_X7_thrown rfl rfl rfl (by decide +kernel) ⟨Nat.le_of_ble_eq_true rfl, Nat.le_of_ble_eq_true rfl⟩) (hL.preM hK []) rfl rfl hl.1 rfl (lv_room (Nat.le_of_ble_eq_true rfl)) dL_law_954 ⟨by show cs + 2 + 0 + 0 ≤ 601024; omega, by show sl + 12 + 0 + 0 ≤ 7293034; omega⟩) hL hS hA (fun v8 u8 H locs hm8 hL hS => ?_)
  obtain ⟨rfl, e8⟩ := hm8
  replace e8 := e8.symm
  subst e8
  refine lv_iload hx hb dL_law_957 (lv_at hl 1 rfl) ?_
  refine lv_icmp_eq (tgt := 964) hx hb dL_law_959 (by decide) (fun _ => ?_) (fun h9 => absurd ag1 h9)
  refine lv_iload hx hb dL_law_964 (lv_at hl 1 rfl) ?_
  refine lv_if_ne (tgt := 980) hx hb dL_law_966 (by decide) (fun _ => ?_) (fun h0 => ?_)
  · refine W.widen (k := cs + 1001) (n := sl + 3006) (by omega) (by omega) ?_
    refine lv_goto (tgt := 1174) hx hb dL_law_980 (by decide) ?_
    refine lv_iinc (v := nI (6 * (j + 1))) (lv' := [(4, _), (6, _), (5, _), (0, _), (1, _), (2, _), (3, _)]) hx hb dL_law_1174 hl (k := 2) rfl (nI_add (6 * j) 6) (by decide) rfl (fun ls hl => ?_)
    refine lv_goto (tgt := 23) hx hb dL_law_1177 (by decide) ?_
    exact kk _ _ _ _ H locs ls hR9 hL hS (lv_sub hl [0, 3, 4, 5, 6] rfl)
  · refine lv_aload_n hx hb dL_law_969 rfl (lv_at hl 6 rfl) ?_
    refine lv_iconst (v := 0) hx hb dL_law_970 (by decide) ?_
    refine out_ld hx hb hK.1 hL.2.2.1 dL_law_971 ?_
    refine lv_lload hx hb dL_law_972 (lv_at hl 0 rfl) ?_
    refine W.lcmp hx hb dL_law_974 ?_
    refine lv_if_eq (tgt := 980) hx hb dL_law_975 (by decide) (fun _ => ?_) (fun h9 => absurd ((lg_cmp_eq _ _).mpr (hval h0)) h9)
    refine W.widen (k := cs + 1001) (n := sl + 3006) (by omega) (by omega) ?_
    refine lv_goto (tgt := 1174) hx hb dL_law_980 (by decide) ?_
    refine lv_iinc (v := nI (6 * (j + 1))) (lv' := [(4, _), (6, _), (5, _), (0, _), (1, _), (2, _), (3, _)]) hx hb dL_law_1174 hl (k := 2) rfl (nI_add (6 * j) 6) (by decide) rfl (fun ls hl => ?_)
    refine lv_goto (tgt := 23) hx hb dL_law_1177 (by decide) ?_
    exact kk _ _ _ _ H locs ls hR9 hL hS (lv_sub hl [0, 3, 4, 5, 6] rfl)
