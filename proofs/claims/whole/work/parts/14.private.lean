set_option maxHeartbeats 4000000 in
set_option maxRecDepth 100000 in
theorem m_registerOf (l : Launch) (D : va_G) (y : Nat → ClassId) (z : CS) (sz : Nat) (k q : Nat) (hk : k < 9) (hq : q < 4)  : Met l yX6_registerOf wsX6_registerOf ({ frames := 0, cells := 0, slots := 0, locals := 0 }) (va_Pc [.ref (cA z 6 0), .int (nI k), .int (nI q)] (cPre D y z sz)) (cQ1 D y z sz (fun v u => v = .ref (cA z 2 (4 * k + q)) ∧ u = z)) 0 0 (cF z sz) := by
  refine Met.ofW (cc := cX6_registerOf) (maxL := 3) (ret := (some (.object "SharedRegisters$Register"))) (by decide) rfl ?_
  intro p e s m args below meth c s₁ B hml hv
  obtain ⟨rfl, hsz, hW0, hK⟩ := hv
  have hx := B.exec
  have hb := B.bytes
  have hr := B.returns
  have hts := atoms_spec (ws := wsX6_registerOf) B.pre
  have hown : s.vm.findClass RX6 = some m.cls := findClass_of_methodNamed B.named
  have hlocks := B.notSynchronized
  subst hsz
  have hW := hW0.self (sz := s.heap.size)
  have hA : ∀ q, s.heap.size ≤ q → cF z s.heap.size q := fun q h => Or.inr h
  have hS : va_S (cF z s.heap.size) s.heap s.heap [] := va_S.rf
  have hl := lv_entry ([.ref (cA z 6 0), .int (nI k), .int (nI q)]) (n := 3) (Nat.le_of_ble_eq_true rfl)
  rw [lg_entry_eq]
  generalize (lg_sl ([.ref (cA z 6 0), .int (nI k), .int (nI q)]) ++ List.replicate (3 - (lg_sl ([.ref (cA z 6 0), .int (nI k), .int (nI q)])).length) Slot.unset).toArray = ls at hl ⊢
  have hl : lv_has ls 3 [(0, .ref (cA z 6 0)), (1, .int (nI k)), (2, .int (nI q))] := hl
  have hX6 : ∀ w ∈ wsX60, w ∈ wsX6_registerOf := by decide +kernel
  refine lv_aload_n hx hb dX6_registerOf_0 rfl (lv_at hl 0 rfl) ?_
  refine g_SharedRegisters_registers hx hb hts hX6 hown hK.1 hW rfl (by first | assumption | omega | exact Nat.zero_lt_one | decide) (hts (.fieldLink RX6 20 "SharedRegisters" "registers" "[LSharedRegisters$Register;") (by decide +kernel)) dX6_registerOf_1 ?_
  refine lv_iload_n hx hb dX6_registerOf_4 rfl (lv_at hl 1 rfl) ?_
  refine lv_iconst (v := 4) hx hb dX6_registerOf_5 (by decide) ?_
  refine lv_imul hx hb dX6_registerOf_6 ?_
  refine lv_iload_n hx hb dX6_registerOf_7 rfl (lv_at hl 2 rfl) ?_
  refine lv_iadd hx hb dX6_registerOf_8 ?_
  rw [show nI k * 4 + nI q = nI (4 * k + q) from by rw [show nI k * 4 = nI (k * 4) from pk_mul k 4, nI_add, Nat.mul_comm]]
  refine al_registers hx hb hK.1 hW rfl (vp_in_nI (by omega) (by decide)) dX6_registerOf_9 ?_
  rw [nI_clamp (show 4 * k + q < 2 ^ 31 by omega)]
  refine W.aret hx hb hr (Or.inl ⟨_, rfl⟩) (Or.inr ⟨_, rfl⟩) ?_ hS.2.2 dX6_registerOf_10
  refine cq1 ?_ hW hS
  exact ⟨rfl, rfl⟩
def fBack (z : CS) (so : Int32) (m : Nat) (ba : Int32) (st : Nat) : CS := fSend z so (cI z 7 m) (cI z 8 m) (cI z 9 m) (cI z 10 m) ba st
set_option maxHeartbeats 4000000 in
set_option maxRecDepth 100000 in
theorem m_sendBack (l : Launch) (D : va_G) (y : Nat → ClassId) (z : CS) (sz : Nat) (so : Int32) (m0 : Nat) (ba : Int32) (st n : Nat) (hm0 : m0 < 301) (hn : cI z 25 0 = nI n) (hn0 : n ≤ 300) (h3 : ∀ j, j < 301 → cS z 3 j < 301)  : Met l yX6_sendBack wsX6_sendBack ({ frames := 1, cells := 0, slots := 0, locals := 28 }) (va_Pc [.ref (cA z 6 0), .int so, .ref (cA z 1 m0), .int ba, .ref (cA z 5 st)] (cPre D y z sz)) (cQ0 D y z sz (fun u => u = fBack z so m0 ba st)) 0 0 (cF z sz) := by
  refine Met.ofW (cc := cX6_sendBack) (maxL := 5) (ret := none) (by decide) rfl ?_
  intro p e s m args below meth c s₁ B hml hv
  obtain ⟨rfl, hsz, hW0, hK⟩ := hv
  have hx := B.exec
  have hb := B.bytes
  have hr := B.returns
  have hts := atoms_spec (ws := wsX6_sendBack) B.pre
  have hown : s.vm.findClass RX6 = some m.cls := findClass_of_methodNamed B.named
  have hlocks := B.notSynchronized
  subst hsz
  have hW := hW0.self (sz := s.heap.size)
  have hA : ∀ q, s.heap.size ≤ q → cF z s.heap.size q := fun q h => Or.inr h
  have hS : va_S (cF z s.heap.size) s.heap s.heap [] := va_S.rf
  have hl := lv_entry ([.ref (cA z 6 0), .int so, .ref (cA z 1 m0), .int ba, .ref (cA z 5 st)]) (n := 5) (Nat.le_of_ble_eq_true rfl)
  rw [lg_entry_eq]
  generalize (lg_sl ([.ref (cA z 6 0), .int so, .ref (cA z 1 m0), .int ba, .ref (cA z 5 st)]) ++ List.replicate (5 - (lg_sl ([.ref (cA z 6 0), .int so, .ref (cA z 1 m0), .int ba, .ref (cA z 5 st)])).length) Slot.unset).toArray = ls at hl ⊢
  have hl : lv_has ls 5 [(0, .ref (cA z 6 0)), (1, .int so), (2, .ref (cA z 1 m0)), (3, .int ba), (4, .ref (cA z 5 st))] := hl
  have hX6 : ∀ w ∈ wsX60, w ∈ wsX6_sendBack := by decide +kernel
  have hX1 : ∀ w ∈ wsX10, w ∈ wsX6_sendBack := by decide +kernel
  refine lv_aload_n hx hb dX6_sendBack_0 rfl (lv_at hl 0 rfl) ?_
  refine g_SharedRegisters_row hx hb hts hX6 hown hK.1 hW rfl (by first | assumption | omega | exact Nat.zero_lt_one | decide) (hts (.fieldLink RX6 49 "SharedRegisters" "row" "LSharedRegisters$Row;") (by decide +kernel)) dX6_sendBack_1 ?_
  refine lv_iload_n hx hb dX6_sendBack_4 rfl (lv_at hl 1 rfl) ?_
  refine lv_aload_n hx hb dX6_sendBack_5 rfl (lv_at hl 2 rfl) ?_
  refine gN_Message_asker hx hb hts hX1 hown hK.1 hW rfl (by first | assumption | omega | exact Nat.zero_lt_one | decide) (hK.2 _ (List.mem_of_getElem? (i := 15) rfl)) dX6_sendBack_6 ?_
  refine lv_aload_n hx hb dX6_sendBack_9 rfl (lv_at hl 2 rfl) ?_
  refine gN_Message_keeper hx hb hts hX1 hown hK.1 hW rfl (by first | assumption | omega | exact Nat.zero_lt_one | decide) (hK.2 _ (List.mem_of_getElem? (i := 17) rfl)) dX6_sendBack_10 ?_
  refine lv_aload_n hx hb dX6_sendBack_13 rfl (lv_at hl 2 rfl) ?_
  refine gN_Message_request hx hb hts hX1 hown hK.1 hW rfl (by first | assumption | omega | exact Nat.zero_lt_one | decide) (hK.2 _ (List.mem_of_getElem? (i := 19) rfl)) dX6_sendBack_14 ?_
  refine lv_aload_n hx hb dX6_sendBack_17 rfl (lv_at hl 2 rfl) ?_
  refine gN_Message_key hx hb hts hX1 hown hK.1 hW rfl (by first | assumption | omega | exact Nat.zero_lt_one | decide) (hK.2 _ (List.mem_of_getElem? (i := 21) rfl)) dX6_sendBack_18 ?_
  refine lv_iload_n hx hb dX6_sendBack_21 rfl (lv_at hl 3 rfl) ?_
  refine lv_aload hx hb dX6_sendBack_22 (lv_at hl 4 rfl) ?_
  refine cc0 (va_runVN (As := [.int so, .int (cI z 7 m0), .int (cI z 8 m0), .int (cI z 9 m0), .int (cI z 10 m0), .int ba, .ref (cA z 5 st)]) (rest := []) ⟨hx, hb, hml, hown, hts⟩ (m_Row_send l D y z _ so (cI z 7 m0) (cI z 8 m0) (cI z 9 m0) (cI z 10 m0) ba st n hn hn0 h3) ⟨(va_cnB 7 hts gX6_sendBack_X4_send_n136 rfl rfl rfl (hK.2 _ (List.mem_of_getElem? (i := 45) rfl)) (hts (.initialized RX4) (by decide +kernel)) (by decide +kernel) ⟨Nat.le_of_ble_eq_true rfl, Nat.le_of_ble_eq_true rfl⟩), hts (.instanceMethod yX4_send) (by decide +kernel), hts (.selects RX4 yX4_send yX4_send) (by decide +kernel)⟩ (cPreV (k := 4) (q := (RX4, TX4, 2)) hW hK (show 0 < 1 from Nat.zero_lt_one) rfl rfl [.int so, .int (cI z 7 m0), .int (cI z 8 m0), .int (cI z 9 m0), .int (cI z 10 m0), .int ba, .ref (cA z 5 st)]) rfl rfl hl.1 rfl (lv_room (Nat.le_of_ble_eq_true rfl)) dX6_sendBack_24 ⟨Nat.le_of_ble_eq_true rfl, Nat.le_of_ble_eq_true rfl⟩) hW hS hA (fun u24 H locs hu24 hW hS => ?_)
  subst hu24
  refine W.vret hx hb hr ?_ hS.2.2 dX6_sendBack_27
  refine cq0 ?_ hW hS
  exact rfl
def fEnd (z : CS) (a : Nat) (en : Int32) : CS := match cR z 1 a with
  | none => z
  | some r => sR (sI z 24 r en) 1 a none
def fEndV (z : CS) (a : Nat) : Int32 := match cR z 1 a with
  | none => -1
  | some r => cI z 12 r
set_option maxHeartbeats 4000000 in
set_option maxRecDepth 100000 in
theorem m_endCurrent (l : Launch) (D : va_G) (y : Nat → ClassId) (z : CS) (sz : Nat) (a : Nat) (en : Int32) (ha : a < 4) (hcr : ∀ r, cR z 1 a = some r → r < cNr z)  : Met l yX6_endCurrent wsX6_endCurrent ({ frames := 0, cells := 0, slots := 0, locals := 0 }) (va_Pc [.ref (cA z 0 a), .int en] (cPre D y z sz)) (cQ1 D y z sz (fun v u => v = .int (fEndV z a) ∧ u = fEnd z a en)) 0 0 (cF z sz) := by
  refine Met.ofW (cc := cX6_endCurrent) (maxL := 3) (ret := (some .int)) (by decide) rfl ?_
  intro p e s m args below meth c s₁ B hml hv
  obtain ⟨rfl, hsz, hW0, hK⟩ := hv
  have hx := B.exec
  have hb := B.bytes
  have hr := B.returns
  have hts := atoms_spec (ws := wsX6_endCurrent) B.pre
  have hown : s.vm.findClass RX6 = some m.cls := findClass_of_methodNamed B.named
  have hlocks := B.notSynchronized
  subst hsz
  have hW := hW0.self (sz := s.heap.size)
  have hA : ∀ q, s.heap.size ≤ q → cF z s.heap.size q := fun q h => Or.inr h
  have hS : va_S (cF z s.heap.size) s.heap s.heap [] := va_S.rf
  have hl := lv_entry ([.ref (cA z 0 a), .int en]) (n := 3) (Nat.le_of_ble_eq_true rfl)
  rw [lg_entry_eq]
  generalize (lg_sl ([.ref (cA z 0 a), .int en]) ++ List.replicate (3 - (lg_sl ([.ref (cA z 0 a), .int en])).length) Slot.unset).toArray = ls at hl ⊢
  have hl : lv_has ls 3 [(0, .ref (cA z 0 a)), (1, .int en)] := hl
  have hX0 : ∀ w ∈ wsX00, w ∈ wsX6_endCurrent := by decide +kernel
  have hX3 : ∀ w ∈ wsX30, w ∈ wsX6_endCurrent := by decide +kernel
  cases hc : cR z 1 a with
  | none =>
    refine lv_aload_n hx hb dX6_endCurrent_0 rfl (lv_at hl 0 rfl) ?_
    refine gN_Asker_current_n hx hb hts hX0 hown hK.1 hW rfl hc (by first | assumption | omega | exact Nat.zero_lt_one | decide) (hK.2 _ (List.mem_of_getElem? (i := 11) rfl)) dX6_endCurrent_1 ?_
    refine lv_astore_nN (lv' := [(2, _), (0, _), (1, _)]) hx hb dX6_endCurrent_4 rfl hl (by decide) rfl (fun ls hl => ?_)
    refine lv_aload_nN hx hb dX6_endCurrent_5 rfl (lv_at hl 0 rfl) ?_
    refine lv_ifnonnullN hx hb dX6_endCurrent_6 ?_
    refine lv_iconst (v := (-1)) hx hb dX6_endCurrent_9 (by decide) ?_
    refine W.iret hx hb hr ?_ hS.2.2 dX6_endCurrent_10
    refine cq1 ?_ hW hS
    exact ⟨by rw [fEndV, hc], by rw [fEnd, hc]⟩
  | some r =>
    have hr0 : r < cNr z := hcr r hc
    refine lv_aload_n hx hb dX6_endCurrent_0 rfl (lv_at hl 0 rfl) ?_
    refine gN_Asker_current_s hx hb hts hX0 hown hK.1 hW rfl hc (by first | assumption | omega | exact Nat.zero_lt_one | decide) (hK.2 _ (List.mem_of_getElem? (i := 11) rfl)) dX6_endCurrent_1 ?_
    refine lv_astore_n (lv' := [(2, _), (0, _), (1, _)]) hx hb dX6_endCurrent_4 rfl hl (by decide) rfl (fun ls hl => ?_)
    refine lv_aload_n hx hb dX6_endCurrent_5 rfl (lv_at hl 0 rfl) ?_
    refine lv_ifnonnull (tgt := 11) hx hb dX6_endCurrent_6 (by decide) ?_
    refine lv_aload_n hx hb dX6_endCurrent_11 rfl (lv_at hl 0 rfl) ?_
    refine lv_iload_n hx hb dX6_endCurrent_12 rfl (lv_at hl 2 rfl) ?_
    refine pN_Request_ending hx hb hts hX3 hown hK.1 hW hS rfl (by first | assumption | omega | exact Nat.zero_lt_one | decide) (hK.2 _ (List.mem_of_getElem? (i := 38) rfl)) dX6_endCurrent_13 (fun H locs hW hS => ?_)
    refine lv_aload_n hx hb dX6_endCurrent_16 rfl (lv_at hl 1 rfl) ?_
    refine lv_null hx hb dX6_endCurrent_17 ?_
    refine pN_Asker_current (v := none) hx hb hts hX0 hown hK.1 hW hS rfl (by first | assumption | omega | exact Nat.zero_lt_one | decide) rfl (hK.2 _ (List.mem_of_getElem? (i := 11) rfl)) dX6_endCurrent_18 (fun H locs hW hS => ?_)
    refine lv_aload_n hx hb dX6_endCurrent_21 rfl (lv_at hl 0 rfl) ?_
    refine gN_Request_number hx hb hts hX3 hown hK.1 hW rfl (by first | assumption | omega | exact Nat.zero_lt_one | decide) (hK.2 _ (List.mem_of_getElem? (i := 28) rfl)) dX6_endCurrent_22 ?_
    refine W.iret hx hb hr ?_ hS.2.2 dX6_endCurrent_25
    refine cq1 ?_ hW hS
    exact ⟨by rw [fEndV, hc]; rfl, by rw [fEnd, hc]⟩
/-- the request of the asker that the message m answers, at the step acc -/
def fAwait (z : CS) (m a : Nat) (acc : Int32) : Option Nat := match cR z 1 a with
  | none => none
  | some r => if cI z 12 r = cI z 9 m then (if cI z 20 r = acc then (if cI z 21 r &&& ((1 : Int32) <<< (cI z 8 m &&& 31)) = 0 then some r else none) else none) else none
set_option maxHeartbeats 4000000 in
set_option maxRecDepth 100000 in
theorem m_awaiting (l : Launch) (D : va_G) (y : Nat → ClassId) (z : CS) (sz : Nat) (m0 a : Nat) (acc : Int32) (hm0 : m0 < 301) (ha : a < 4) (ham : cI z 7 m0 = nI a) (hcr : ∀ r, cR z 1 a = some r → r < cNr z)  : Met l yX6_awaiting wsX6_awaiting ({ frames := 1, cells := 0, slots := 0, locals := 21 }) (va_Pc [.ref (cA z 6 0), .ref (cA z 1 m0), .int acc] (cPre D y z sz)) (cQ1 D y z sz (fun v u => v = va_rf ((fAwait z m0 a acc).map (cA z 3)) ∧ u = z)) 0 0 (cF z sz) := by
  refine Met.ofW (cc := cX6_awaiting) (maxL := 4) (ret := (some (.object "SharedRegisters$Request"))) (by decide) rfl ?_
  intro p e s m args below meth c s₁ B hml hv
  obtain ⟨rfl, hsz, hW0, hK⟩ := hv
  have hx := B.exec
  have hb := B.bytes
  have hr := B.returns
  have hts := atoms_spec (ws := wsX6_awaiting) B.pre
  have hown : s.vm.findClass RX6 = some m.cls := findClass_of_methodNamed B.named
  have hlocks := B.notSynchronized
  subst hsz
  have hW := hW0.self (sz := s.heap.size)
  have hA : ∀ q, s.heap.size ≤ q → cF z s.heap.size q := fun q h => Or.inr h
  have hS : va_S (cF z s.heap.size) s.heap s.heap [] := va_S.rf
  have hl := lv_entry ([.ref (cA z 6 0), .ref (cA z 1 m0), .int acc]) (n := 4) (Nat.le_of_ble_eq_true rfl)
  rw [lg_entry_eq]
  generalize (lg_sl ([.ref (cA z 6 0), .ref (cA z 1 m0), .int acc]) ++ List.replicate (4 - (lg_sl ([.ref (cA z 6 0), .ref (cA z 1 m0), .int acc])).length) Slot.unset).toArray = ls at hl ⊢
  have hl : lv_has ls 4 [(0, .ref (cA z 6 0)), (1, .ref (cA z 1 m0)), (2, .int acc)] := hl
  have hX6 : ∀ w ∈ wsX60, w ∈ wsX6_awaiting := by decide +kernel
  have hX1 : ∀ w ∈ wsX10, w ∈ wsX6_awaiting := by decide +kernel
  have hX0 : ∀ w ∈ wsX00, w ∈ wsX6_awaiting := by decide +kernel
  have hX3 : ∀ w ∈ wsX30, w ∈ wsX6_awaiting := by decide +kernel
  cases hc : cR z 1 a with
  | none =>
    refine lv_aload_n hx hb dX6_awaiting_0 rfl (lv_at hl 0 rfl) ?_
    refine g_SharedRegisters_askers hx hb hts hX6 hown hK.1 hW rfl (by first | assumption | omega | exact Nat.zero_lt_one | decide) (hts (.fieldLink RX6 33 "SharedRegisters" "askers" "[LSharedRegisters$Asker;") (by decide +kernel)) dX6_awaiting_1 ?_
    refine lv_aload_n hx hb dX6_awaiting_4 rfl (lv_at hl 1 rfl) ?_
    refine gN_Message_asker hx hb hts hX1 hown hK.1 hW rfl (by first | assumption | omega | exact Nat.zero_lt_one | decide) (hK.2 _ (List.mem_of_getElem? (i := 15) rfl)) dX6_awaiting_5 ?_
    rw [ham]
    refine al_askers hx hb hK.1 hW rfl (vp_in_nI ha (by decide)) dX6_awaiting_8 ?_
    rw [nI_clamp (show a < 2 ^ 31 by omega)]
    refine gN_Asker_current_n hx hb hts hX0 hown hK.1 hW rfl hc (by first | assumption | omega | exact Nat.zero_lt_one | decide) (hK.2 _ (List.mem_of_getElem? (i := 11) rfl)) dX6_awaiting_9 ?_
    refine lv_astore_nN (lv' := [(3, _), (0, _), (1, _), (2, _)]) hx hb dX6_awaiting_12 rfl hl (by decide) rfl (fun ls hl => ?_)
    refine lv_aload_nN hx hb dX6_awaiting_13 rfl (lv_at hl 0 rfl) ?_
    refine lv_ifnullN (tgt := 28) hx hb dX6_awaiting_14 (by decide) ?_
    refine lv_null hx hb dX6_awaiting_28 ?_
    refine W.aret hx hb hr (Or.inl ⟨_, rfl⟩) (Or.inl rfl) ?_ hS.2.2 dX6_awaiting_29
    refine cq1 ?_ hW hS
    exact ⟨by rw [fAwait, hc]; rfl, rfl⟩
  | some r =>
    have hr0 : r < cNr z := hcr r hc
    refine lv_aload_n hx hb dX6_awaiting_0 rfl (lv_at hl 0 rfl) ?_
    refine g_SharedRegisters_askers hx hb hts hX6 hown hK.1 hW rfl (by first | assumption | omega | exact Nat.zero_lt_one | decide) (hts (.fieldLink RX6 33 "SharedRegisters" "askers" "[LSharedRegisters$Asker;") (by decide +kernel)) dX6_awaiting_1 ?_
    refine lv_aload_n hx hb dX6_awaiting_4 rfl (lv_at hl 1 rfl) ?_
    refine gN_Message_asker hx hb hts hX1 hown hK.1 hW rfl (by first | assumption | omega | exact Nat.zero_lt_one | decide) (hK.2 _ (List.mem_of_getElem? (i := 15) rfl)) dX6_awaiting_5 ?_
    rw [ham]
    refine al_askers hx hb hK.1 hW rfl (vp_in_nI ha (by decide)) dX6_awaiting_8 ?_
    rw [nI_clamp (show a < 2 ^ 31 by omega)]
    refine gN_Asker_current_s hx hb hts hX0 hown hK.1 hW rfl hc (by first | assumption | omega | exact Nat.zero_lt_one | decide) (hK.2 _ (List.mem_of_getElem? (i := 11) rfl)) dX6_awaiting_9 ?_
    refine lv_astore_n (lv' := [(3, _), (0, _), (1, _), (2, _)]) hx hb dX6_awaiting_12 rfl hl (by decide) rfl (fun ls hl => ?_)
    refine lv_aload_n hx hb dX6_awaiting_13 rfl (lv_at hl 0 rfl) ?_
    refine lv_ifnull hx hb dX6_awaiting_14 ?_
    refine lv_aload_n hx hb dX6_awaiting_17 rfl (lv_at hl 0 rfl) ?_
    refine gN_Request_number hx hb hts hX3 hown hK.1 hW rfl (by first | assumption | omega | exact Nat.zero_lt_one | decide) (hK.2 _ (List.mem_of_getElem? (i := 28) rfl)) dX6_awaiting_18 ?_
    refine lv_aload_n hx hb dX6_awaiting_21 rfl (lv_at hl 2 rfl) ?_
    refine gN_Message_request hx hb hts hX1 hown hK.1 hW rfl (by first | assumption | omega | exact Nat.zero_lt_one | decide) (hK.2 _ (List.mem_of_getElem? (i := 19) rfl)) dX6_awaiting_22 ?_
    refine lv_icmp_eq (tgt := 30) hx hb dX6_awaiting_25 (by decide) (fun c_25 => ?_) (fun c_25 => ?_)
    · refine lv_aload_n hx hb dX6_awaiting_30 rfl (lv_at hl 0 rfl) ?_
      refine gN_Request_accepting hx hb hts hX3 hown hK.1 hW rfl (by first | assumption | omega | exact Nat.zero_lt_one | decide) (hK.2 _ (List.mem_of_getElem? (i := 35) rfl)) dX6_awaiting_31 ?_
      refine lv_iload_n hx hb dX6_awaiting_34 rfl (lv_at hl 3 rfl) ?_
      refine lv_icmp_ne (tgt := 49) hx hb dX6_awaiting_35 (by decide) (fun c_35 => ?_) (fun c_35 => ?_)
      · refine lv_null hx hb dX6_awaiting_49 ?_
        refine W.aret hx hb hr (Or.inl ⟨_, rfl⟩) (Or.inl rfl) ?_ hS.2.2 dX6_awaiting_50
        refine cq1 ?_ hW hS
        exact ⟨by simp [fAwait, hc, va_rf, c_25, c_35], rfl⟩
      · refine lv_aload_n hx hb dX6_awaiting_38 rfl (lv_at hl 0 rfl) ?_
        refine lv_aload_n hx hb dX6_awaiting_39 rfl (lv_at hl 2 rfl) ?_
        refine gN_Message_keeper hx hb hts hX1 hown hK.1 hW rfl (by first | assumption | omega | exact Nat.zero_lt_one | decide) (hK.2 _ (List.mem_of_getElem? (i := 17) rfl)) dX6_awaiting_40 ?_
        refine cc1 (va_runVN (As := [.int (cI z 8 m0)]) (rest := []) ⟨hx, hb, hml, hown, hts⟩ (m_Request_hasAnswer l D y z _ r (cI z 8 m0) hr0) ⟨(va_cnB 1 hts gX6_awaiting_X3_hasAnswer_n255 rfl rfl rfl (hK.2 _ (List.mem_of_getElem? (i := 48) rfl)) (hts (.initialized RX3) (by decide +kernel)) (by decide +kernel) ⟨Nat.le_of_ble_eq_true rfl, Nat.le_of_ble_eq_true rfl⟩), hts (.instanceMethod yX3_hasAnswer) (by decide +kernel), hts (.selects RX3 yX3_hasAnswer yX3_hasAnswer) (by decide +kernel)⟩ (cPreV (k := 3) (q := (RX3, TX3, 15)) hW hK hr0 rfl rfl [.int (cI z 8 m0)]) rfl rfl hl.1 rfl (lv_room (Nat.le_of_ble_eq_true rfl)) dX6_awaiting_43 ⟨Nat.le_of_ble_eq_true rfl, Nat.le_of_ble_eq_true rfl⟩) hW hS hA (fun v43 u43 H locs hu43 hW hS => ?_)
        obtain ⟨rfl, rfl⟩ := hu43
        refine lv_if_eq (tgt := 51) hx hb dX6_awaiting_46 (by decide) (fun c_46 => ?_) (fun c_46 => ?_)
        · have c_46 : cI u43 21 r &&& ((1 : Int32) <<< (cI u43 8 m0 &&& 31)) = 0 := by by_cases e9 : cI u43 21 r &&& ((1 : Int32) <<< (cI u43 8 m0 &&& 31)) = 0; exact e9; (rw [if_neg e9] at c_46; exact absurd c_46 (by decide))
          refine lv_aload_n hx hb dX6_awaiting_51 rfl (lv_at hl 0 rfl) ?_
          refine W.aret hx hb hr (Or.inl ⟨_, rfl⟩) (Or.inr ⟨_, rfl⟩) ?_ hS.2.2 dX6_awaiting_52
          refine cq1 ?_ hW hS
          exact ⟨by simp [fAwait, hc, va_rf, c_25, c_35, c_46], rfl⟩
        · have c_46 : ¬ cI u43 21 r &&& ((1 : Int32) <<< (cI u43 8 m0 &&& 31)) = 0 := fun e9 => c_46 (by rw [if_pos e9])
          refine lv_null hx hb dX6_awaiting_49 ?_
          refine W.aret hx hb hr (Or.inl ⟨_, rfl⟩) (Or.inl rfl) ?_ hS.2.2 dX6_awaiting_50
          refine cq1 ?_ hW hS
          exact ⟨by simp [fAwait, hc, va_rf, c_25, c_35, c_46], rfl⟩
    · refine lv_null hx hb dX6_awaiting_28 ?_
      refine W.aret hx hb hr (Or.inl ⟨_, rfl⟩) (Or.inl rfl) ?_ hS.2.2 dX6_awaiting_29
      refine cq1 ?_ hW hS
      exact ⟨by simp [fAwait, hc, va_rf, c_25], rfl⟩
