set_option maxHeartbeats 4000000 in
set_option maxRecDepth 100000 in
theorem m_lose (l : Launch) (hl0 : l.stackTraces = false) (D : va_G) (y : Nat → ClassId) (z : CS) (sz : Nat) (i : Int32) (n : Nat) (hrow : RowOk z n) : vx_Met l yX6_lose wsX6_lose ({ frames := 7, cells := 1, slots := 6, locals := 105 }) (va_Pc [.ref (cA z 6 0), .int i] (cPreX D y z sz)) (cQ1 D y z sz (fun v u => ∃ j, j < n ∧ i = nI j ∧ v = .int (cI z 6 (cS z 3 j)) ∧ u = fDraw z j n)) (cX D y z sz (fun E => E = cI_ ∧ ¬ inR i (nI n))) 1 6 (cF z sz) := by
  refine vx_ofW (cc := cX6_lose) (maxL := 2) (ret := (some .int)) (by decide) rfl ?_
  intro p e s m args below meth c s₁ B hml hnt hv
  obtain ⟨rfl, hsz, hW0, hK, hZ⟩ := hv
  have hx := B.exec
  have hb := B.bytes
  have hr := B.returns
  have hts := atoms_spec (ws := wsX6_lose) B.pre
  have hown : s.vm.findClass RX6 = some m.cls := findClass_of_methodNamed B.named
  have hlocks := B.notSynchronized
  subst hsz
  have hW := hW0.self (sz := s.heap.size)
  have hA : ∀ q, s.heap.size ≤ q → cF z s.heap.size q := fun q h => Or.inr h
  have hS : va_S (cF z s.heap.size) s.heap s.heap [] := va_S.rf
  have hl := lv_entry ([.ref (cA z 6 0), .int i]) (n := 2) (Nat.le_of_ble_eq_true rfl)
  rw [lg_entry_eq]
  generalize (lg_sl ([.ref (cA z 6 0), .int i]) ++ List.replicate (2 - (lg_sl ([.ref (cA z 6 0), .int i])).length) Slot.unset).toArray = ls at hl ⊢
  have hl : lv_has ls 2 [(0, .ref (cA z 6 0)), (1, .int i)] := hl
  have hX6 : ∀ w ∈ wsX60, w ∈ wsX6_lose := by decide +kernel
  have hX4 : ∀ w ∈ wsX40, w ∈ wsX6_lose := by decide +kernel
  have hX1 : ∀ w ∈ wsX10, w ∈ wsX6_lose := by decide +kernel
  refine lv_iload_n hx hb dX6_lose_0 rfl (lv_at hl 1 rfl) ?_
  refine lv_aload_n hx hb dX6_lose_1 rfl (lv_at hl 0 rfl) ?_
  refine g_SharedRegisters_row hx hb hts hX6 hown hK.1 hW rfl (by first | assumption | omega | exact Nat.zero_lt_one | decide) (hts (.fieldLink RX6 49 "SharedRegisters" "row" "LSharedRegisters$Row;") (by decide +kernel)) dX6_lose_2 ?_
  refine gN_Row_size hx hb hts hX4 hown hK.1 hW rfl (by first | assumption | omega | exact Nat.zero_lt_one | decide) (hK.2 _ (List.mem_of_getElem? (i := 27) rfl)) dX6_lose_5 ?_
  rw [hrow.1]
  refine cx0 (vx_runS (As := [.int (i), .int (nI n)]) (rest := []) ⟨hx, hb, hml, hown, hts⟩ (m_needIndex l hl0 D y z _ (i) (nI n)) (va_cwS 2 hts gX6_lose_X6_needIndex rfl rfl rfl (by decide +kernel) ⟨Nat.le_of_ble_eq_true rfl, Nat.le_of_ble_eq_true rfl⟩) (cPreSX hW hK hZ hS hA [.int (i), .int (nI n)]) rfl rfl hl.1 rfl (lv_room (Nat.le_of_ble_eq_true rfl)) dX6_lose_8 ⟨Nat.le_of_ble_eq_true rfl, Nat.le_of_ble_eq_true rfl⟩) hW hS hA (fun E ce q9 H locs hpx hW hS h1 h2 h3 => cxo hnt hlocks (hpx) hW hS h1 h2 h3 (Nat.le_of_ble_eq_true rfl) (Nat.le_of_ble_eq_true rfl)) (fun u8 H locs hu8 hW hS => ?_)
  obtain ⟨f8, hR8⟩ := hu8
  replace f8 := f8.symm
  subst f8
  have hn300 : n ≤ 300 := hrow.2.1
  obtain ⟨j, hj, rfl⟩ := inR_nat hR8 (by omega)
  refine lv_aload_n hx hb dX6_lose_11 rfl (lv_at hl 0 rfl) ?_
  refine g_SharedRegisters_row hx hb hts hX6 hown hK.1 hW rfl (by first | assumption | omega | exact Nat.zero_lt_one | decide) (hts (.fieldLink RX6 49 "SharedRegisters" "row" "LSharedRegisters$Row;") (by decide +kernel)) dX6_lose_12 ?_
  refine lv_iload_n hx hb dX6_lose_15 rfl (lv_at hl 1 rfl) ?_
  refine cc1 (va_runVN (As := [.int (nI j)]) (rest := []) ⟨hx, hb, hml, hown, hts⟩ (m_Row_drawOut l D y z _ j n hrow.1 hj hrow.2.1 hrow.2.2) ⟨(va_cnB 1 hts gX6_lose_X4_drawOut_n105 rfl rfl rfl (hK.2 _ (List.mem_of_getElem? (i := 46) rfl)) (hts (.initialized RX4) (by decide +kernel)) (by decide +kernel) ⟨Nat.le_of_ble_eq_true rfl, Nat.le_of_ble_eq_true rfl⟩), hts (.instanceMethod yX4_drawOut) (by decide +kernel), hts (.selects RX4 yX4_drawOut yX4_drawOut) (by decide +kernel)⟩ (cPreV (k := 4) (q := (RX4, TX4, 2)) hW hK (show 0 < 1 from Nat.zero_lt_one) rfl rfl [.int (nI j)]) rfl rfl hl.1 rfl (lv_room (Nat.le_of_ble_eq_true rfl)) dX6_lose_16 ⟨Nat.le_of_ble_eq_true rfl, Nat.le_of_ble_eq_true rfl⟩) hW hS hA (fun v16 u16 H locs hu16 hW hS => ?_)
  obtain ⟨rfl, hu16⟩ := hu16
  have hA16 : cA z 1 (cS z 3 j) = cA u16 1 (cS z 3 j) := by rw [hu16, fDraw_cA]
  have hm9 : cS z 3 j < 301 := hrow.2.2 j (by omega)
  refine gN_Message_sort hx hb hts hX1 hown hK.1 hW hA16 (by first | assumption | omega | exact Nat.zero_lt_one | decide) (hK.2 _ (List.mem_of_getElem? (i := 13) rfl)) dX6_lose_19 ?_
  refine vx_ret ?_
  refine W.widen (k := 1) (n := 6) (Nat.le_of_ble_eq_true rfl) (Nat.le_of_ble_eq_true rfl) ?_
  refine W.iret hx hb hr ?_ hS.2.2 dX6_lose_22
  refine cq1 ?_ hW hS
  exact ⟨j, hj, rfl, by rw [hu16, fDraw_cI, up2_k (by decide)], hu16⟩
def fTwice (z : CS) (j : Nat) : CS := fSend z (cI z 6 (cS z 3 j)) (cI z 7 (cS z 3 j)) (cI z 8 (cS z 3 j)) (cI z 9 (cS z 3 j)) (cI z 10 (cS z 3 j)) (cI z 11 (cS z 3 j)) (cS z 2 (cS z 3 j))
set_option maxHeartbeats 4000000 in
set_option maxRecDepth 100000 in
theorem m_twice (l : Launch) (hl0 : l.stackTraces = false) (D : va_G) (y : Nat → ClassId) (z : CS) (sz : Nat) (i : Int32) (n : Nat) (hrow : RowOk z n) : vx_Met l yX6_twice wsX6_twice ({ frames := 7, cells := 1, slots := 6, locals := 105 }) (va_Pc [.ref (cA z 6 0), .int i] (cPreX D y z sz)) (cQ1 D y z sz (fun v u => ∃ j, j < n ∧ i = nI j ∧ ((¬ n < 300 ∧ v = .int (-1) ∧ u = z) ∨ (n < 300 ∧ v = .int (cI u 25 0) ∧ u = fTwice z j)))) (cX D y z sz (fun E => E = cI_ ∧ ¬ inR i (nI n))) 1 6 (cF z sz) := by
  refine vx_ofW (cc := cX6_twice) (maxL := 3) (ret := (some .int)) (by decide) rfl ?_
  intro p e s m args below meth c s₁ B hml hnt hv
  obtain ⟨rfl, hsz, hW0, hK, hZ⟩ := hv
  have hx := B.exec
  have hb := B.bytes
  have hr := B.returns
  have hts := atoms_spec (ws := wsX6_twice) B.pre
  have hown : s.vm.findClass RX6 = some m.cls := findClass_of_methodNamed B.named
  have hlocks := B.notSynchronized
  subst hsz
  have hW := hW0.self (sz := s.heap.size)
  have hA : ∀ q, s.heap.size ≤ q → cF z s.heap.size q := fun q h => Or.inr h
  have hS : va_S (cF z s.heap.size) s.heap s.heap [] := va_S.rf
  have hl := lv_entry ([.ref (cA z 6 0), .int i]) (n := 3) (Nat.le_of_ble_eq_true rfl)
  rw [lg_entry_eq]
  generalize (lg_sl ([.ref (cA z 6 0), .int i]) ++ List.replicate (3 - (lg_sl ([.ref (cA z 6 0), .int i])).length) Slot.unset).toArray = ls at hl ⊢
  have hl : lv_has ls 3 [(0, .ref (cA z 6 0)), (1, .int i)] := hl
  have hX6 : ∀ w ∈ wsX60, w ∈ wsX6_twice := by decide +kernel
  have hX4 : ∀ w ∈ wsX40, w ∈ wsX6_twice := by decide +kernel
  have hX1 : ∀ w ∈ wsX10, w ∈ wsX6_twice := by decide +kernel
  refine lv_iload_n hx hb dX6_twice_0 rfl (lv_at hl 1 rfl) ?_
  refine lv_aload_n hx hb dX6_twice_1 rfl (lv_at hl 0 rfl) ?_
  refine g_SharedRegisters_row hx hb hts hX6 hown hK.1 hW rfl (by first | assumption | omega | exact Nat.zero_lt_one | decide) (hts (.fieldLink RX6 49 "SharedRegisters" "row" "LSharedRegisters$Row;") (by decide +kernel)) dX6_twice_2 ?_
  refine gN_Row_size hx hb hts hX4 hown hK.1 hW rfl (by first | assumption | omega | exact Nat.zero_lt_one | decide) (hK.2 _ (List.mem_of_getElem? (i := 27) rfl)) dX6_twice_5 ?_
  rw [hrow.1]
  refine cx0 (vx_runS (As := [.int (i), .int (nI n)]) (rest := []) ⟨hx, hb, hml, hown, hts⟩ (m_needIndex l hl0 D y z _ (i) (nI n)) (va_cwS 2 hts gX6_twice_X6_needIndex rfl rfl rfl (by decide +kernel) ⟨Nat.le_of_ble_eq_true rfl, Nat.le_of_ble_eq_true rfl⟩) (cPreSX hW hK hZ hS hA [.int (i), .int (nI n)]) rfl rfl hl.1 rfl (lv_room (Nat.le_of_ble_eq_true rfl)) dX6_twice_8 ⟨Nat.le_of_ble_eq_true rfl, Nat.le_of_ble_eq_true rfl⟩) hW hS hA (fun E ce q9 H locs hpx hW hS h1 h2 h3 => cxo hnt hlocks (hpx) hW hS h1 h2 h3 (Nat.le_of_ble_eq_true rfl) (Nat.le_of_ble_eq_true rfl)) (fun u8 H locs hu8 hW hS => ?_)
  obtain ⟨f8, hR8⟩ := hu8
  replace f8 := f8.symm
  subst f8
  have hn300 : n ≤ 300 := hrow.2.1
  obtain ⟨j, hj, rfl⟩ := inR_nat hR8 (by omega)
  have hm9 : cS z 3 j < 301 := hrow.2.2 j (by omega)
  refine lv_aload_n hx hb dX6_twice_11 rfl (lv_at hl 0 rfl) ?_
  refine g_SharedRegisters_row hx hb hts hX6 hown hK.1 hW rfl (by first | assumption | omega | exact Nat.zero_lt_one | decide) (hts (.fieldLink RX6 49 "SharedRegisters" "row" "LSharedRegisters$Row;") (by decide +kernel)) dX6_twice_12 ?_
  refine gN_Row_size hx hb hts hX4 hown hK.1 hW rfl (by first | assumption | omega | exact Nat.zero_lt_one | decide) (hK.2 _ (List.mem_of_getElem? (i := 27) rfl)) dX6_twice_15 ?_
  rw [hrow.1]
  refine lv_sipush (v := 300) hx hb dX6_twice_18 (by decide) ?_
  refine lv_icmp_lt (tgt := 26) hx hb dX6_twice_21 (by decide) (fun c_21 => ?_) (fun c_21 => ?_)
  · refine lv_aload_n hx hb dX6_twice_26 rfl (lv_at hl 0 rfl) ?_
    refine g_SharedRegisters_row hx hb hts hX6 hown hK.1 hW rfl (by first | assumption | omega | exact Nat.zero_lt_one | decide) (hts (.fieldLink RX6 49 "SharedRegisters" "row" "LSharedRegisters$Row;") (by decide +kernel)) dX6_twice_27 ?_
    refine gN_Row_messages hx hb hts hX4 hown hK.1 hW rfl (by first | assumption | omega | exact Nat.zero_lt_one | decide) (hK.2 _ (List.mem_of_getElem? (i := 26) rfl)) dX6_twice_30 ?_
    refine lv_iload_n hx hb dX6_twice_33 rfl (lv_at hl 1 rfl) ?_
    refine al_messages hx hb hK.1 hW rfl (vp_in_nI (n := j) (by omega) (by decide)) dX6_twice_34 ?_
    rw [nI_clamp (show j < 2 ^ 31 by omega)]
    refine lv_astore_n (lv' := [(2, _), (0, _), (1, _)]) hx hb dX6_twice_35 rfl hl (by decide) rfl (fun ls hl => ?_)
    refine lv_aload_n hx hb dX6_twice_36 rfl (lv_at hl 1 rfl) ?_
    refine g_SharedRegisters_row hx hb hts hX6 hown hK.1 hW rfl (by first | assumption | omega | exact Nat.zero_lt_one | decide) (hts (.fieldLink RX6 49 "SharedRegisters" "row" "LSharedRegisters$Row;") (by decide +kernel)) dX6_twice_37 ?_
    refine lv_aload_n hx hb dX6_twice_40 rfl (lv_at hl 0 rfl) ?_
    refine gN_Message_sort hx hb hts hX1 hown hK.1 hW rfl (by first | assumption | omega | exact Nat.zero_lt_one | decide) (hK.2 _ (List.mem_of_getElem? (i := 13) rfl)) dX6_twice_41 ?_
    refine lv_aload_n hx hb dX6_twice_44 rfl (lv_at hl 0 rfl) ?_
    refine gN_Message_asker hx hb hts hX1 hown hK.1 hW rfl (by first | assumption | omega | exact Nat.zero_lt_one | decide) (hK.2 _ (List.mem_of_getElem? (i := 15) rfl)) dX6_twice_45 ?_
    refine lv_aload_n hx hb dX6_twice_48 rfl (lv_at hl 0 rfl) ?_
    refine gN_Message_keeper hx hb hts hX1 hown hK.1 hW rfl (by first | assumption | omega | exact Nat.zero_lt_one | decide) (hK.2 _ (List.mem_of_getElem? (i := 17) rfl)) dX6_twice_49 ?_
    refine lv_aload_n hx hb dX6_twice_52 rfl (lv_at hl 0 rfl) ?_
    refine gN_Message_request hx hb hts hX1 hown hK.1 hW rfl (by first | assumption | omega | exact Nat.zero_lt_one | decide) (hK.2 _ (List.mem_of_getElem? (i := 19) rfl)) dX6_twice_53 ?_
    refine lv_aload_n hx hb dX6_twice_56 rfl (lv_at hl 0 rfl) ?_
    refine gN_Message_key hx hb hts hX1 hown hK.1 hW rfl (by first | assumption | omega | exact Nat.zero_lt_one | decide) (hK.2 _ (List.mem_of_getElem? (i := 21) rfl)) dX6_twice_57 ?_
    refine lv_aload_n hx hb dX6_twice_60 rfl (lv_at hl 0 rfl) ?_
    refine gN_Message_ballot hx hb hts hX1 hown hK.1 hW rfl (by first | assumption | omega | exact Nat.zero_lt_one | decide) (hK.2 _ (List.mem_of_getElem? (i := 23) rfl)) dX6_twice_61 ?_
    refine lv_aload_n hx hb dX6_twice_64 rfl (lv_at hl 0 rfl) ?_
    refine gN_Message_state hx hb hts hX1 hown hK.1 hW rfl (by first | assumption | omega | exact Nat.zero_lt_one | decide) (hK.2 _ (List.mem_of_getElem? (i := 25) rfl)) dX6_twice_65 ?_
    refine cc0 (va_runVN (As := [.int (cI z 6 (cS z 3 j)), .int (cI z 7 (cS z 3 j)), .int (cI z 8 (cS z 3 j)), .int (cI z 9 (cS z 3 j)), .int (cI z 10 (cS z 3 j)), .int (cI z 11 (cS z 3 j)), .ref (cA z 5 (cS z 2 (cS z 3 j)))]) (rest := []) ⟨hx, hb, hml, hown, hts⟩ (m_Row_send l D y z _ (cI z 6 (cS z 3 j)) (cI z 7 (cS z 3 j)) (cI z 8 (cS z 3 j)) (cI z 9 (cS z 3 j)) (cI z 10 (cS z 3 j)) (cI z 11 (cS z 3 j)) (cS z 2 (cS z 3 j)) n hrow.1 hrow.2.1 hrow.2.2) ⟨(va_cnB 7 hts gX6_twice_X4_send_n136 rfl rfl rfl (hK.2 _ (List.mem_of_getElem? (i := 45) rfl)) (hts (.initialized RX4) (by decide +kernel)) (by decide +kernel) ⟨Nat.le_of_ble_eq_true rfl, Nat.le_of_ble_eq_true rfl⟩), hts (.instanceMethod yX4_send) (by decide +kernel), hts (.selects RX4 yX4_send yX4_send) (by decide +kernel)⟩ (cPreV (k := 4) (q := (RX4, TX4, 2)) hW hK (show 0 < 1 from Nat.zero_lt_one) rfl rfl [.int (cI z 6 (cS z 3 j)), .int (cI z 7 (cS z 3 j)), .int (cI z 8 (cS z 3 j)), .int (cI z 9 (cS z 3 j)), .int (cI z 10 (cS z 3 j)), .int (cI z 11 (cS z 3 j)), .ref (cA z 5 (cS z 2 (cS z 3 j)))]) rfl rfl hl.1 rfl (lv_room (Nat.le_of_ble_eq_true rfl)) dX6_twice_68 ⟨Nat.le_of_ble_eq_true rfl, Nat.le_of_ble_eq_true rfl⟩) hW hS hA (fun u68 H locs hu68 hW hS => ?_)
    have hu68 : u68 = fTwice z j := hu68
    have hA68 : cA u68 = cA z := by rw [hu68]; exact fSend_cA _ _ _ _ _ _ _ _
    rw [← hA68] at hl
    refine lv_aload_n hx hb dX6_twice_71 rfl (lv_at hl 1 rfl) ?_
    refine g_SharedRegisters_row hx hb hts hX6 hown hK.1 hW rfl (by first | assumption | omega | exact Nat.zero_lt_one | decide) (hts (.fieldLink RX6 49 "SharedRegisters" "row" "LSharedRegisters$Row;") (by decide +kernel)) dX6_twice_72 ?_
    refine gN_Row_size hx hb hts hX4 hown hK.1 hW rfl (by first | assumption | omega | exact Nat.zero_lt_one | decide) (hK.2 _ (List.mem_of_getElem? (i := 27) rfl)) dX6_twice_75 ?_
    refine vx_ret ?_
    refine W.widen (k := 1) (n := 6) (Nat.le_of_ble_eq_true rfl) (Nat.le_of_ble_eq_true rfl) ?_
    refine W.iret hx hb hr ?_ hS.2.2 dX6_twice_78
    refine cq1 ?_ hW hS
    exact ⟨j, hj, rfl, Or.inr ⟨(nI_ltI (by omega) (by decide)).mp c_21, rfl, hu68⟩⟩
  · refine lv_iconst (v := (-1)) hx hb dX6_twice_24 (by decide) ?_
    refine vx_ret ?_
    refine W.widen (k := 1) (n := 6) (Nat.le_of_ble_eq_true rfl) (Nat.le_of_ble_eq_true rfl) ?_
    refine W.iret hx hb hr ?_ hS.2.2 dX6_twice_25
    refine cq1 ?_ hW hS
    exact ⟨j, hj, rfl, Or.inl ⟨fun h9 => c_21 (nI_lt (b := 300) h9 (by decide)), rfl, rfl⟩⟩
set_option maxHeartbeats 4000000 in
set_option maxRecDepth 100000 in
theorem m_down (l : Launch) (hl0 : l.stackTraces = false) (D : va_G) (y : Nat → ClassId) (z : CS) (sz : Nat) (i b : Int32) (hb9 : b = 0 ∨ b = 1) (hd9 : ∀ k, k < 9 → cI z 29 k = 0 ∨ cI z 29 k = 1) : vx_Met l yX6_down wsX6_down ({ frames := 7, cells := 1, slots := 6, locals := 105 }) (va_Pc [.ref (cA z 6 0), .int i, .int b] (cPreX D y z sz)) (cQ1 D y z sz (fun v u => ∃ k, k < 9 ∧ i = nI k ∧ v = .int (cI z 29 k) ∧ u = sI z 29 k b)) (cX D y z sz (fun E => E = cI_ ∧ ¬ inR i 9)) 1 6 (cF z sz) := by
  refine vx_ofW (cc := cX6_down) (maxL := 4) (ret := (some .boolean)) (by decide) rfl ?_
  intro p e s m args below meth c s₁ B hml hnt hv
  obtain ⟨rfl, hsz, hW0, hK, hZ⟩ := hv
  have hx := B.exec
  have hb := B.bytes
  have hr := B.returns
  have hts := atoms_spec (ws := wsX6_down) B.pre
  have hown : s.vm.findClass RX6 = some m.cls := findClass_of_methodNamed B.named
  have hlocks := B.notSynchronized
  subst hsz
  have hW := hW0.self (sz := s.heap.size)
  have hA : ∀ q, s.heap.size ≤ q → cF z s.heap.size q := fun q h => Or.inr h
  have hS : va_S (cF z s.heap.size) s.heap s.heap [] := va_S.rf
  have hl := lv_entry ([.ref (cA z 6 0), .int i, .int b]) (n := 4) (Nat.le_of_ble_eq_true rfl)
  rw [lg_entry_eq]
  generalize (lg_sl ([.ref (cA z 6 0), .int i, .int b]) ++ List.replicate (4 - (lg_sl ([.ref (cA z 6 0), .int i, .int b])).length) Slot.unset).toArray = ls at hl ⊢
  have hl : lv_has ls 4 [(0, .ref (cA z 6 0)), (1, .int i), (2, .int b)] := hl
  have hX6 : ∀ w ∈ wsX60, w ∈ wsX6_down := by decide +kernel
  refine lv_iload_n hx hb dX6_down_0 rfl (lv_at hl 1 rfl) ?_
  refine lv_bipush (v := 9) hx hb dX6_down_1 (by decide) ?_
  refine cx0 (vx_runS (As := [.int (i), .int (9)]) (rest := []) ⟨hx, hb, hml, hown, hts⟩ (m_needIndex l hl0 D y z _ (i) (9)) (va_cwS 2 hts gX6_down_X6_needIndex rfl rfl rfl (by decide +kernel) ⟨Nat.le_of_ble_eq_true rfl, Nat.le_of_ble_eq_true rfl⟩) (cPreSX hW hK hZ hS hA [.int (i), .int (9)]) rfl rfl hl.1 rfl (lv_room (Nat.le_of_ble_eq_true rfl)) dX6_down_3 ⟨Nat.le_of_ble_eq_true rfl, Nat.le_of_ble_eq_true rfl⟩) hW hS hA (fun E ce q9 H locs hpx hW hS h1 h2 h3 => cxo hnt hlocks (hpx) hW hS h1 h2 h3 (Nat.le_of_ble_eq_true rfl) (Nat.le_of_ble_eq_true rfl)) (fun u3 H locs hu3 hW hS => ?_)
  obtain ⟨f3, hR3⟩ := hu3
  replace f3 := f3.symm
  subst f3
  obtain ⟨k, hk, rfl⟩ := inR_nat (n := 9) hR3 (by decide)
  refine lv_aload_n hx hb dX6_down_6 rfl (lv_at hl 0 rfl) ?_
  refine g_SharedRegisters_isDown hx hb hts hX6 hown hK.1 hW rfl (by first | assumption | omega | exact Nat.zero_lt_one | decide) (hts (.fieldLink RX6 27 "SharedRegisters" "isDown" "[Z") (by decide +kernel)) dX6_down_7 ?_
  refine lv_iload_n hx hb dX6_down_10 rfl (lv_at hl 1 rfl) ?_
  refine al_isDown hx hb hK.1 hW rfl (vp_in_nI hk (by decide)) dX6_down_11 ?_
  rw [nI_clamp (show k < 2 ^ 31 by omega)]
  refine lv_istore_n (lv' := [(3, _), (0, _), (1, _), (2, _)]) hx hb dX6_down_12 rfl hl (by decide) rfl (fun ls hl => ?_)
  refine lv_aload_n hx hb dX6_down_13 rfl (lv_at hl 1 rfl) ?_
  refine g_SharedRegisters_isDown hx hb hts hX6 hown hK.1 hW rfl (by first | assumption | omega | exact Nat.zero_lt_one | decide) (hts (.fieldLink RX6 27 "SharedRegisters" "isDown" "[Z") (by decide +kernel)) dX6_down_14 ?_
  refine lv_iload_n hx hb dX6_down_17 rfl (lv_at hl 2 rfl) ?_
  refine lv_iload_n hx hb dX6_down_18 rfl (lv_at hl 3 rfl) ?_
  refine as_isDown hx hb hK.1 hW hS rfl (vp_in_nI hk (by decide)) (by rcases hb9 with rfl | rfl <;> rfl) dX6_down_19 (fun H locs hW hS => ?_)
  rw [nI_clamp (show k < 2 ^ 31 by omega)] at hW
  refine lv_iload_n hx hb dX6_down_20 rfl (lv_at hl 0 rfl) ?_
  refine vx_ret ?_
  refine W.widen (k := 1) (n := 6) (Nat.le_of_ble_eq_true rfl) (Nat.le_of_ble_eq_true rfl) ?_
  refine W.zret hx hb hr (bo_n (hd9 k hk)) ?_ hS.2.2 dX6_down_21
  refine cq1 ?_ hW hS
  exact ⟨k, hk, rfl, rfl, rfl⟩
def msgVal (z : CS) (m w : Nat) : Int32 := match w with
  | 0 => cI z 6 m
  | 1 => cI z 7 m
  | 2 => cI z 8 m
  | 3 => cI z 9 m
  | 4 => cI z 11 m
  | _ => if cI z 26 (cS z 2 m) = 0 then -1 else cI z 27 (cS z 2 m)
set_option maxHeartbeats 4000000 in
set_option maxRecDepth 100000 in
theorem m_message (l : Launch) (hl0 : l.stackTraces = false) (D : va_G) (y : Nat → ClassId) (z : CS) (sz : Nat) (i wh : Int32) (n : Nat) (hrow : RowOk z n) (hV : cV z) : vx_Met l yX6_message wsX6_message ({ frames := 7, cells := 2, slots := 12, locals := 105 }) (va_Pc [.ref (cA z 6 0), .int i, .int wh] (cPreX D y z sz)) (cQ1 D y z sz (fun v u => ∃ j w, j < n ∧ w < 6 ∧ i = nI j ∧ wh = nI w ∧ v = .int (msgVal z (cS z 3 j) w) ∧ u = z)) (cX D y z sz (fun E => E = cI_ ∧ ¬ (inR i (nI n) ∧ inR wh 6))) 2 12 (cF z sz) := by
  refine vx_ofW (cc := cX6_message) (maxL := 4) (ret := (some .int)) (by decide) rfl ?_
  intro p e s m args below meth c s₁ B hml hnt hv
  obtain ⟨rfl, hsz, hW0, hK, hZ⟩ := hv
  have hx := B.exec
  have hb := B.bytes
  have hr := B.returns
  have hts := atoms_spec (ws := wsX6_message) B.pre
  have hown : s.vm.findClass RX6 = some m.cls := findClass_of_methodNamed B.named
  have hlocks := B.notSynchronized
  subst hsz
  have hW := hW0.self (sz := s.heap.size)
  have hA : ∀ q, s.heap.size ≤ q → cF z s.heap.size q := fun q h => Or.inr h
  have hS : va_S (cF z s.heap.size) s.heap s.heap [] := va_S.rf
  have hl := lv_entry ([.ref (cA z 6 0), .int i, .int wh]) (n := 4) (Nat.le_of_ble_eq_true rfl)
  rw [lg_entry_eq]
  generalize (lg_sl ([.ref (cA z 6 0), .int i, .int wh]) ++ List.replicate (4 - (lg_sl ([.ref (cA z 6 0), .int i, .int wh])).length) Slot.unset).toArray = ls at hl ⊢
  have hl : lv_has ls 4 [(0, .ref (cA z 6 0)), (1, .int i), (2, .int wh)] := hl
  have hX6 : ∀ w ∈ wsX60, w ∈ wsX6_message := by decide +kernel
  have hX4 : ∀ w ∈ wsX40, w ∈ wsX6_message := by decide +kernel
  have hX1 : ∀ w ∈ wsX10, w ∈ wsX6_message := by decide +kernel
  have hX5 : ∀ w ∈ wsX50, w ∈ wsX6_message := by decide +kernel
  refine lv_iload_n hx hb dX6_message_0 rfl (lv_at hl 1 rfl) ?_
  refine lv_aload_n hx hb dX6_message_1 rfl (lv_at hl 0 rfl) ?_
  refine g_SharedRegisters_row hx hb hts hX6 hown hK.1 hW rfl (by first | assumption | omega | exact Nat.zero_lt_one | decide) (hts (.fieldLink RX6 49 "SharedRegisters" "row" "LSharedRegisters$Row;") (by decide +kernel)) dX6_message_2 ?_
  refine gN_Row_size hx hb hts hX4 hown hK.1 hW rfl (by first | assumption | omega | exact Nat.zero_lt_one | decide) (hK.2 _ (List.mem_of_getElem? (i := 27) rfl)) dX6_message_5 ?_
  rw [hrow.1]
  refine cx0 (vx_runS (As := [.int (i), .int (nI n)]) (rest := []) ⟨hx, hb, hml, hown, hts⟩ (m_needIndex l hl0 D y z _ (i) (nI n)) (va_cwS 2 hts gX6_message_X6_needIndex rfl rfl rfl (by decide +kernel) ⟨Nat.le_of_ble_eq_true rfl, Nat.le_of_ble_eq_true rfl⟩) (cPreSX hW hK hZ hS hA [.int (i), .int (nI n)]) rfl rfl hl.1 rfl (lv_room (Nat.le_of_ble_eq_true rfl)) dX6_message_8 ⟨Nat.le_of_ble_eq_true rfl, Nat.le_of_ble_eq_true rfl⟩) hW hS hA (fun E ce q9 H locs hpx hW hS h1 h2 h3 => cxo hnt hlocks (⟨hpx.1, fun q => hpx.2 q.1⟩) hW hS h1 h2 h3 (Nat.le_of_ble_eq_true rfl) (Nat.le_of_ble_eq_true rfl)) (fun u8 H locs hu8 hW hS => ?_)
  obtain ⟨f8, hR8⟩ := hu8
  replace f8 := f8.symm
  subst f8
  have hn300 : n ≤ 300 := hrow.2.1
  obtain ⟨j, hj, rfl⟩ := inR_nat hR8 (by omega)
  have hm9 : cS z 3 j < 301 := hrow.2.2 j (by omega)
  have hst9 : cS z 2 (cS z 3 j) < cNs z := hV.2.2.1 _ hm9
  refine lv_aload_n hx hb dX6_message_11 rfl (lv_at hl 0 rfl) ?_
  refine g_SharedRegisters_row hx hb hts hX6 hown hK.1 hW rfl (by first | assumption | omega | exact Nat.zero_lt_one | decide) (hts (.fieldLink RX6 49 "SharedRegisters" "row" "LSharedRegisters$Row;") (by decide +kernel)) dX6_message_12 ?_
  refine gN_Row_messages hx hb hts hX4 hown hK.1 hW rfl (by first | assumption | omega | exact Nat.zero_lt_one | decide) (hK.2 _ (List.mem_of_getElem? (i := 26) rfl)) dX6_message_15 ?_
  refine lv_iload_n hx hb dX6_message_18 rfl (lv_at hl 1 rfl) ?_
  refine al_messages hx hb hK.1 hW rfl (vp_in_nI (n := j) (by omega) (by decide)) dX6_message_19 ?_
  rw [nI_clamp (show j < 2 ^ 31 by omega)]
  refine lv_astore_n (lv' := [(3, _), (0, _), (1, _), (2, _)]) hx hb dX6_message_20 rfl hl (by decide) rfl (fun ls hl => ?_)
  refine lv_iload_n hx hb dX6_message_21 rfl (lv_at hl 3 rfl) ?_
  by_cases hyes : inR wh 6
  · obtain ⟨w9, hw9, rfl⟩ := inR_nat (n := 6) hyes (by decide)
    rcases (show w9 = 0 ∨ w9 = 1 ∨ w9 = 2 ∨ w9 = 3 ∨ w9 = 4 ∨ w9 = 5 by omega) with rfl | rfl | rfl | rfl | rfl | rfl
    · refine lv_tableIn (off := 38) (tgt := 60) hx hb dX6_message_22 (by decide) (by decide) (by decide) (by decide) ?_
      refine lv_aload_n hx hb dX6_message_60 rfl (lv_at hl 0 rfl) ?_
      refine gN_Message_sort hx hb hts hX1 hown hK.1 hW rfl (by first | assumption | omega | exact Nat.zero_lt_one | decide) (hK.2 _ (List.mem_of_getElem? (i := 13) rfl)) dX6_message_61 ?_
      refine vx_ret ?_
      refine W.widen (k := 2) (n := 12) (Nat.le_of_ble_eq_true rfl) (Nat.le_of_ble_eq_true rfl) ?_
      refine W.iret hx hb hr ?_ hS.2.2 dX6_message_64
      refine cq1 ?_ hW hS
      exact ⟨j, 0, hj, by decide, rfl, rfl, rfl, rfl⟩
    · refine lv_tableIn (off := 43) (tgt := 65) hx hb dX6_message_22 (by decide) (by decide) (by decide) (by decide) ?_
      refine lv_aload_n hx hb dX6_message_65 rfl (lv_at hl 0 rfl) ?_
      refine gN_Message_asker hx hb hts hX1 hown hK.1 hW rfl (by first | assumption | omega | exact Nat.zero_lt_one | decide) (hK.2 _ (List.mem_of_getElem? (i := 15) rfl)) dX6_message_66 ?_
      refine vx_ret ?_
      refine W.widen (k := 2) (n := 12) (Nat.le_of_ble_eq_true rfl) (Nat.le_of_ble_eq_true rfl) ?_
      refine W.iret hx hb hr ?_ hS.2.2 dX6_message_69
      refine cq1 ?_ hW hS
      exact ⟨j, 1, hj, by decide, rfl, rfl, rfl, rfl⟩
    · refine lv_tableIn (off := 48) (tgt := 70) hx hb dX6_message_22 (by decide) (by decide) (by decide) (by decide) ?_
      refine lv_aload_n hx hb dX6_message_70 rfl (lv_at hl 0 rfl) ?_
      refine gN_Message_keeper hx hb hts hX1 hown hK.1 hW rfl (by first | assumption | omega | exact Nat.zero_lt_one | decide) (hK.2 _ (List.mem_of_getElem? (i := 17) rfl)) dX6_message_71 ?_
      refine vx_ret ?_
      refine W.widen (k := 2) (n := 12) (Nat.le_of_ble_eq_true rfl) (Nat.le_of_ble_eq_true rfl) ?_
      refine W.iret hx hb hr ?_ hS.2.2 dX6_message_74
      refine cq1 ?_ hW hS
      exact ⟨j, 2, hj, by decide, rfl, rfl, rfl, rfl⟩
    · refine lv_tableIn (off := 53) (tgt := 75) hx hb dX6_message_22 (by decide) (by decide) (by decide) (by decide) ?_
      refine lv_aload_n hx hb dX6_message_75 rfl (lv_at hl 0 rfl) ?_
      refine gN_Message_request hx hb hts hX1 hown hK.1 hW rfl (by first | assumption | omega | exact Nat.zero_lt_one | decide) (hK.2 _ (List.mem_of_getElem? (i := 19) rfl)) dX6_message_76 ?_
      refine vx_ret ?_
      refine W.widen (k := 2) (n := 12) (Nat.le_of_ble_eq_true rfl) (Nat.le_of_ble_eq_true rfl) ?_
      refine W.iret hx hb hr ?_ hS.2.2 dX6_message_79
      refine cq1 ?_ hW hS
      exact ⟨j, 3, hj, by decide, rfl, rfl, rfl, rfl⟩
    · refine lv_tableIn (off := 58) (tgt := 80) hx hb dX6_message_22 (by decide) (by decide) (by decide) (by decide) ?_
      refine lv_aload_n hx hb dX6_message_80 rfl (lv_at hl 0 rfl) ?_
      refine gN_Message_ballot hx hb hts hX1 hown hK.1 hW rfl (by first | assumption | omega | exact Nat.zero_lt_one | decide) (hK.2 _ (List.mem_of_getElem? (i := 23) rfl)) dX6_message_81 ?_
      refine vx_ret ?_
      refine W.widen (k := 2) (n := 12) (Nat.le_of_ble_eq_true rfl) (Nat.le_of_ble_eq_true rfl) ?_
      refine W.iret hx hb hr ?_ hS.2.2 dX6_message_84
      refine cq1 ?_ hW hS
      exact ⟨j, 4, hj, by decide, rfl, rfl, rfl, rfl⟩
    · refine lv_tableIn (off := 63) (tgt := 85) hx hb dX6_message_22 (by decide) (by decide) (by decide) (by decide) ?_
      refine lv_aload_n hx hb dX6_message_85 rfl (lv_at hl 0 rfl) ?_
      refine gN_Message_state hx hb hts hX1 hown hK.1 hW rfl (by first | assumption | omega | exact Nat.zero_lt_one | decide) (hK.2 _ (List.mem_of_getElem? (i := 25) rfl)) dX6_message_86 ?_
      refine cc1 (va_runVN (As := []) (rest := []) ⟨hx, hb, hml, hown, hts⟩ (m_State_versionOrNone l D y z _ (cS z 2 (cS z 3 j)) hst9) ⟨(va_cnB 0 hts gX6_message_X5_versionOrNone_n148 rfl rfl rfl (hK.2 _ (List.mem_of_getElem? (i := 57) rfl)) (hts (.initialized RX5) (by decide +kernel)) (by decide +kernel) ⟨Nat.le_of_ble_eq_true rfl, Nat.le_of_ble_eq_true rfl⟩), hts (.instanceMethod yX5_versionOrNone) (by decide +kernel), hts (.selects RX5 yX5_versionOrNone yX5_versionOrNone) (by decide +kernel)⟩ (cPreV (k := 5) (q := (RX5, TX5, 3)) hW hK hst9 rfl rfl []) rfl rfl hl.1 rfl (lv_room (Nat.le_of_ble_eq_true rfl)) dX6_message_89 ⟨Nat.le_of_ble_eq_true rfl, Nat.le_of_ble_eq_true rfl⟩) hW hS hA (fun v89 u89 H locs hu89 hW hS => ?_)
      obtain ⟨rfl, f89⟩ := hu89
      replace f89 := f89.symm
      subst f89
      refine vx_ret ?_
      refine W.widen (k := 2) (n := 12) (Nat.le_of_ble_eq_true rfl) (Nat.le_of_ble_eq_true rfl) ?_
      refine W.iret hx hb hr ?_ hS.2.2 dX6_message_92
      refine cq1 ?_ hW hS
      exact ⟨j, 5, hj, by decide, rfl, rfl, rfl, rfl⟩
  · have hno : ¬ inR wh 6 := hyes
    refine lv_tableOut (tgt := 93) hx hb dX6_message_22 (sw_out (n := 6) hno (by decide)) (by decide) ?_
    obtain ⟨sa9, hsa9⟩ := hZ.2.1 _ (List.mem_of_getElem? (i := 0) rfl)
    exact vx_throwS (names := ["java/lang/RuntimeException", "java/lang/Exception"]) hx hb hl0 hown (by decide) (by decide) (hts (.classLink RX6 152 "java/lang/IndexOutOfBoundsException") (by decide +kernel)) (hts (.initialized "java/lang/IndexOutOfBoundsException") (by decide +kernel)) hsa9 (thI_at hZ (fun w9 hw9 => hts w9 (List.mem_cons_of_mem _ (List.mem_append_right _ hw9)))) thI_ot hZ.2.2.1 hZ.2.2.2 hS (by rw [hml]; exact hl.1) dX6_message_93 dX6_message_96 dX6_message_97 dX6_message_99 dX6_message_102 (fun x9 hx9 => (hnt x9 hx9).elim) (Nat.le_of_ble_eq_true rfl) (Nat.le_of_ble_eq_true rfl) (Nat.le_of_ble_eq_true rfl) (Nat.le_of_ble_eq_true rfl) hlocks (fun t ht1 ht2 ht3 => ⟨⟨rfl, fun q9 => hno q9.2⟩, cw.grow hW ht3, va_Sgrow hS ht2 ht3⟩) hS.2.2 (Nat.le_of_ble_eq_true rfl) (Nat.le_of_ble_eq_true rfl)
def regVal (z : CS) (p w : Nat) : Int32 := match w with
  | 0 => cI z 0 p
  | 1 => cI z 1 p
  | _ => if cI z 26 (cS z 0 p) = 0 then -1 else cI z 27 (cS z 0 p)
set_option maxHeartbeats 4000000 in
set_option maxRecDepth 100000 in
theorem m_keeper (l : Launch) (hl0 : l.stackTraces = false) (D : va_G) (y : Nat → ClassId) (z : CS) (sz : Nat) (i j wh : Int32) (hV : cV z) : vx_Met l yX6_keeper wsX6_keeper ({ frames := 7, cells := 3, slots := 18, locals := 105 }) (va_Pc [.ref (cA z 6 0), .int i, .int j, .int wh] (cPreX D y z sz)) (cQ1 D y z sz (fun v u => ∃ k q w, k < 9 ∧ q < 4 ∧ w < 3 ∧ i = nI k ∧ j = nI q ∧ wh = nI w ∧ v = .int (regVal z (4 * k + q) w) ∧ u = z)) (cX D y z sz (fun E => E = cI_ ∧ ¬ (inR i 9 ∧ inR j 4 ∧ inR wh 3))) 3 18 (cF z sz) := by
  refine vx_ofW (cc := cX6_keeper) (maxL := 5) (ret := (some .int)) (by decide) rfl ?_
  intro p e s m args below meth c s₁ B hml hnt hv
  obtain ⟨rfl, hsz, hW0, hK, hZ⟩ := hv
  have hx := B.exec
  have hb := B.bytes
  have hr := B.returns
  have hts := atoms_spec (ws := wsX6_keeper) B.pre
  have hown : s.vm.findClass RX6 = some m.cls := findClass_of_methodNamed B.named
  have hlocks := B.notSynchronized
  subst hsz
  have hW := hW0.self (sz := s.heap.size)
  have hA : ∀ q, s.heap.size ≤ q → cF z s.heap.size q := fun q h => Or.inr h
  have hS : va_S (cF z s.heap.size) s.heap s.heap [] := va_S.rf
  have hl := lv_entry ([.ref (cA z 6 0), .int i, .int j, .int wh]) (n := 5) (Nat.le_of_ble_eq_true rfl)
  rw [lg_entry_eq]
  generalize (lg_sl ([.ref (cA z 6 0), .int i, .int j, .int wh]) ++ List.replicate (5 - (lg_sl ([.ref (cA z 6 0), .int i, .int j, .int wh])).length) Slot.unset).toArray = ls at hl ⊢
  have hl : lv_has ls 5 [(0, .ref (cA z 6 0)), (1, .int i), (2, .int j), (3, .int wh)] := hl
  have hX6 : ∀ w ∈ wsX60, w ∈ wsX6_keeper := by decide +kernel
  have hX2 : ∀ w ∈ wsX20, w ∈ wsX6_keeper := by decide +kernel
  have hX5 : ∀ w ∈ wsX50, w ∈ wsX6_keeper := by decide +kernel
  refine lv_iload_n hx hb dX6_keeper_0 rfl (lv_at hl 1 rfl) ?_
  refine lv_bipush (v := 9) hx hb dX6_keeper_1 (by decide) ?_
  refine cx0 (vx_runS (As := [.int (i), .int (9)]) (rest := []) ⟨hx, hb, hml, hown, hts⟩ (m_needIndex l hl0 D y z _ (i) (9)) (va_cwS 2 hts gX6_keeper_X6_needIndex rfl rfl rfl (by decide +kernel) ⟨Nat.le_of_ble_eq_true rfl, Nat.le_of_ble_eq_true rfl⟩) (cPreSX hW hK hZ hS hA [.int (i), .int (9)]) rfl rfl hl.1 rfl (lv_room (Nat.le_of_ble_eq_true rfl)) dX6_keeper_3 ⟨Nat.le_of_ble_eq_true rfl, Nat.le_of_ble_eq_true rfl⟩) hW hS hA (fun E ce q9 H locs hpx hW hS h1 h2 h3 => cxo hnt hlocks (⟨hpx.1, fun q => hpx.2 q.1⟩) hW hS h1 h2 h3 (Nat.le_of_ble_eq_true rfl) (Nat.le_of_ble_eq_true rfl)) (fun u3 H locs hu3 hW hS => ?_)
  obtain ⟨f3, hR3⟩ := hu3
  replace f3 := f3.symm
  subst f3
  obtain ⟨k, hk, rfl⟩ := inR_nat (n := 9) hR3 (by decide)
  refine lv_iload_n hx hb dX6_keeper_6 rfl (lv_at hl 2 rfl) ?_
  refine lv_iconst (v := 4) hx hb dX6_keeper_7 (by decide) ?_
  refine cx0 (vx_runS (As := [.int (j), .int (4)]) (rest := []) ⟨hx, hb, hml, hown, hts⟩ (m_needIndex l hl0 D y z _ (j) (4)) (va_cwS 2 hts gX6_keeper_X6_needIndex rfl rfl rfl (by decide +kernel) ⟨Nat.le_of_ble_eq_true rfl, Nat.le_of_ble_eq_true rfl⟩) (cPreSX hW hK hZ hS hA [.int (j), .int (4)]) rfl rfl hl.1 rfl (lv_room (Nat.le_of_ble_eq_true rfl)) dX6_keeper_8 ⟨Nat.le_of_ble_eq_true rfl, Nat.le_of_ble_eq_true rfl⟩) hW hS hA (fun E ce q9 H locs hpx hW hS h1 h2 h3 => cxo hnt hlocks (⟨hpx.1, fun q => hpx.2 q.2.1⟩) hW hS h1 h2 h3 (Nat.le_of_ble_eq_true rfl) (Nat.le_of_ble_eq_true rfl)) (fun u8 H locs hu8 hW hS => ?_)
  obtain ⟨f8, hR8⟩ := hu8
  replace f8 := f8.symm
  subst f8
  obtain ⟨q, hq, rfl⟩ := inR_nat (n := 4) hR8 (by decide)
  refine lv_aload_n hx hb dX6_keeper_11 rfl (lv_at hl 0 rfl) ?_
  refine lv_iload_n hx hb dX6_keeper_12 rfl (lv_at hl 1 rfl) ?_
  refine lv_iload_n hx hb dX6_keeper_13 rfl (lv_at hl 2 rfl) ?_
  refine cc1 (va_runV (As := [.int (nI k), .int (nI q)]) (rest := []) ⟨hx, hb, hml, hown, hts⟩ (m_registerOf l D y z _ k q hk hq) (cwV 2 hts gX6_keeper_X6_registerOf rfl rfl rfl (by decide +kernel) ⟨Nat.le_of_ble_eq_true rfl, Nat.le_of_ble_eq_true rfl⟩) (cPreV (k := 6) (q := (RX6, TX6, 7)) hW hK (show 0 < 1 from Nat.zero_lt_one) rfl rfl [.int (nI k), .int (nI q)]) rfl rfl hl.1 rfl (lv_room (Nat.le_of_ble_eq_true rfl)) dX6_keeper_14 ⟨Nat.le_of_ble_eq_true rfl, Nat.le_of_ble_eq_true rfl⟩) hW hS hA (fun v14 u14 H locs hu14 hW hS => ?_)
  obtain ⟨rfl, f14⟩ := hu14
  replace f14 := f14.symm
  subst f14
  have hp36 : 4 * k + q < 36 := by omega
  have hst9 : cS z 0 (4 * k + q) < cNs z := hV.2.1 _ hp36
  refine lv_astore (lv' := [(4, _), (0, _), (1, _), (2, _), (3, _)]) hx hb dX6_keeper_17 hl (by decide) rfl (fun ls hl => ?_)
  refine lv_iload_n hx hb dX6_keeper_19 rfl (lv_at hl 4 rfl) ?_
  by_cases hyes : inR wh 3
  · obtain ⟨w9, hw9, rfl⟩ := inR_nat (n := 3) hyes (by decide)
    rcases (show w9 = 0 ∨ w9 = 1 ∨ w9 = 2 by omega) with rfl | rfl | rfl
    · refine lv_tableIn (off := 28) (tgt := 48) hx hb dX6_keeper_20 (by decide) (by decide) (by decide) (by decide) ?_
      refine lv_aload hx hb dX6_keeper_48 (lv_at hl 0 rfl) ?_
      refine gN_Register_promise hx hb hts hX2 hown hK.1 hW rfl (by first | assumption | omega | exact Nat.zero_lt_one | decide) (hK.2 _ (List.mem_of_getElem? (i := 1) rfl)) dX6_keeper_50 ?_
      refine vx_ret ?_
      refine W.widen (k := 3) (n := 18) (Nat.le_of_ble_eq_true rfl) (Nat.le_of_ble_eq_true rfl) ?_
      refine W.iret hx hb hr ?_ hS.2.2 dX6_keeper_53
      refine cq1 ?_ hW hS
      exact ⟨k, q, 0, hk, hq, by decide, rfl, rfl, rfl, rfl, rfl⟩
    · refine lv_tableIn (off := 34) (tgt := 54) hx hb dX6_keeper_20 (by decide) (by decide) (by decide) (by decide) ?_
      refine lv_aload hx hb dX6_keeper_54 (lv_at hl 0 rfl) ?_
      refine gN_Register_ballot hx hb hts hX2 hown hK.1 hW rfl (by first | assumption | omega | exact Nat.zero_lt_one | decide) (hK.2 _ (List.mem_of_getElem? (i := 2) rfl)) dX6_keeper_56 ?_
      refine vx_ret ?_
      refine W.widen (k := 3) (n := 18) (Nat.le_of_ble_eq_true rfl) (Nat.le_of_ble_eq_true rfl) ?_
      refine W.iret hx hb hr ?_ hS.2.2 dX6_keeper_59
      refine cq1 ?_ hW hS
      exact ⟨k, q, 1, hk, hq, by decide, rfl, rfl, rfl, rfl, rfl⟩
    · refine lv_tableIn (off := 40) (tgt := 60) hx hb dX6_keeper_20 (by decide) (by decide) (by decide) (by decide) ?_
      refine lv_aload hx hb dX6_keeper_60 (lv_at hl 0 rfl) ?_
      refine gN_Register_state hx hb hts hX2 hown hK.1 hW rfl (by first | assumption | omega | exact Nat.zero_lt_one | decide) (hK.2 _ (List.mem_of_getElem? (i := 3) rfl)) dX6_keeper_62 ?_
      refine cc1 (va_runVN (As := []) (rest := []) ⟨hx, hb, hml, hown, hts⟩ (m_State_versionOrNone l D y z _ (cS z 0 (4 * k + q)) hst9) ⟨(va_cnB 0 hts gX6_keeper_X5_versionOrNone_n148 rfl rfl rfl (hK.2 _ (List.mem_of_getElem? (i := 57) rfl)) (hts (.initialized RX5) (by decide +kernel)) (by decide +kernel) ⟨Nat.le_of_ble_eq_true rfl, Nat.le_of_ble_eq_true rfl⟩), hts (.instanceMethod yX5_versionOrNone) (by decide +kernel), hts (.selects RX5 yX5_versionOrNone yX5_versionOrNone) (by decide +kernel)⟩ (cPreV (k := 5) (q := (RX5, TX5, 3)) hW hK hst9 rfl rfl []) rfl rfl hl.1 rfl (lv_room (Nat.le_of_ble_eq_true rfl)) dX6_keeper_65 ⟨Nat.le_of_ble_eq_true rfl, Nat.le_of_ble_eq_true rfl⟩) hW hS hA (fun v65 u65 H locs hu65 hW hS => ?_)
      obtain ⟨rfl, f65⟩ := hu65
      replace f65 := f65.symm
      subst f65
      refine vx_ret ?_
      refine W.widen (k := 3) (n := 18) (Nat.le_of_ble_eq_true rfl) (Nat.le_of_ble_eq_true rfl) ?_
      refine W.iret hx hb hr ?_ hS.2.2 dX6_keeper_68
      refine cq1 ?_ hW hS
      exact ⟨k, q, 2, hk, hq, by decide, rfl, rfl, rfl, rfl, rfl⟩
  · have hno : ¬ inR wh 3 := hyes
    refine lv_tableOut (tgt := 69) hx hb dX6_keeper_20 (sw_out (n := 3) hno (by decide)) (by decide) ?_
    obtain ⟨sa9, hsa9⟩ := hZ.2.1 _ (List.mem_of_getElem? (i := 1) rfl)
    exact vx_throwS (names := ["java/lang/RuntimeException", "java/lang/Exception"]) hx hb hl0 hown (by decide) (by decide) (hts (.classLink RX6 152 "java/lang/IndexOutOfBoundsException") (by decide +kernel)) (hts (.initialized "java/lang/IndexOutOfBoundsException") (by decide +kernel)) hsa9 (thI_at hZ (fun w9 hw9 => hts w9 (List.mem_cons_of_mem _ (List.mem_append_right _ hw9)))) thI_ot hZ.2.2.1 hZ.2.2.2 hS (by rw [hml]; exact hl.1) dX6_keeper_69 dX6_keeper_72 dX6_keeper_73 dX6_keeper_75 dX6_keeper_78 (fun x9 hx9 => (hnt x9 hx9).elim) (Nat.le_of_ble_eq_true rfl) (Nat.le_of_ble_eq_true rfl) (Nat.le_of_ble_eq_true rfl) (Nat.le_of_ble_eq_true rfl) hlocks (fun t ht1 ht2 ht3 => ⟨⟨rfl, fun q9 => hno q9.2.2⟩, cw.grow hW ht3, va_Sgrow hS ht2 ht3⟩) hS.2.2 (Nat.le_of_ble_eq_true rfl) (Nat.le_of_ble_eq_true rfl)
