/-- Integer.bitCount as it is written -/
def bc1 (x : Int32) : Int32 := x - ((x.toUInt32 >>> ((1 : Int32).toUInt32 &&& Int32.toUInt32 31)).toInt32 &&& 1431655765)
def bc2 (x : Int32) : Int32 := (x &&& 858993459) + ((x.toUInt32 >>> ((2 : Int32).toUInt32 &&& Int32.toUInt32 31)).toInt32 &&& 858993459)
def bc3 (x : Int32) : Int32 := (x + (x.toUInt32 >>> ((4 : Int32).toUInt32 &&& Int32.toUInt32 31)).toInt32) &&& 252645135
def bc4 (x : Int32) : Int32 := x + (x.toUInt32 >>> ((8 : Int32).toUInt32 &&& Int32.toUInt32 31)).toInt32
def bc5 (x : Int32) : Int32 := x + (x.toUInt32 >>> ((16 : Int32).toUInt32 &&& Int32.toUInt32 31)).toInt32
def fBC (x : Int32) : Int32 := bc5 (bc4 (bc3 (bc2 (bc1 x)))) &&& 63
set_option maxHeartbeats 4000000 in
set_option maxRecDepth 100000 in
theorem m_bitCount (l : Launch) (D : va_G) (y : Nat → ClassId) (z : CS) (sz : Nat) (x : Int32)  : Met l yJ6_bitCount_0f7a4 wsJ6_bitCount_0f7a4 ({ frames := 0, cells := 0, slots := 0, locals := 0 }) (va_Pc [.int x] (cPre D y z sz)) (cQ1 D y z sz (fun v u => v = .int (fBC x) ∧ u = z)) 0 0 (cF z sz) := by
  refine Met.ofW (cc := cJ6_bitCount_0f7a4) (maxL := 1) (ret := (some .int)) (by decide) rfl ?_
  intro p e s m args below meth c s₁ B hml hv
  obtain ⟨rfl, hsz, hW0, hK⟩ := hv
  have hx := B.exec
  have hb := B.bytes
  have hr := B.returns
  have hts := atoms_spec (ws := wsJ6_bitCount_0f7a4) B.pre
  have hown : s.vm.findClass RJ6 = some m.cls := findClass_of_methodNamed B.named
  have hlocks := B.notSynchronized
  subst hsz
  have hW := hW0.self (sz := s.heap.size)
  have hA : ∀ q, s.heap.size ≤ q → cF z s.heap.size q := fun q h => Or.inr h
  have hS : va_S (cF z s.heap.size) s.heap s.heap [] := va_S.rf
  have hl := lv_entry ([.int x]) (n := 1) (Nat.le_of_ble_eq_true rfl)
  rw [lg_entry_eq]
  generalize (lg_sl ([.int x]) ++ List.replicate (1 - (lg_sl ([.int x])).length) Slot.unset).toArray = ls at hl ⊢
  have hl : lv_has ls 1 [(0, .int x)] := hl
  refine lv_iload_n hx hb dJ6_bitCount_0f7a4_0 rfl (lv_at hl 0 rfl) ?_
  refine lv_iload_n hx hb dJ6_bitCount_0f7a4_1 rfl (lv_at hl 0 rfl) ?_
  refine lv_iconst (v := 1) hx hb dJ6_bitCount_0f7a4_2 (by decide) ?_
  refine lv_iushr hx hb dJ6_bitCount_0f7a4_3 rfl ?_
  refine lv_ldcw hx hb hown (hts (.constant RJ6 265 (1431655765)) (by decide +kernel)) dJ6_bitCount_0f7a4_4 ?_
  refine lv_iand hx hb dJ6_bitCount_0f7a4_7 ?_
  refine lv_isub hx hb dJ6_bitCount_0f7a4_8 ?_
  refine lv_topi (fun x9 ex9 => ?_)
  have ex9 : x9 = bc1 x := ex9
  refine lv_istore_n (lv' := [(0, _)]) hx hb dJ6_bitCount_0f7a4_9 rfl hl (by decide) rfl (fun ls hl => ?_)
  refine lv_iload_n hx hb dJ6_bitCount_0f7a4_10 rfl (lv_at hl 0 rfl) ?_
  refine lv_ldcw hx hb hown (hts (.constant RJ6 266 (858993459)) (by decide +kernel)) dJ6_bitCount_0f7a4_11 ?_
  refine lv_iand hx hb dJ6_bitCount_0f7a4_14 ?_
  refine lv_iload_n hx hb dJ6_bitCount_0f7a4_15 rfl (lv_at hl 0 rfl) ?_
  refine lv_iconst (v := 2) hx hb dJ6_bitCount_0f7a4_16 (by decide) ?_
  refine lv_iushr hx hb dJ6_bitCount_0f7a4_17 rfl ?_
  refine lv_ldcw hx hb hown (hts (.constant RJ6 266 (858993459)) (by decide +kernel)) dJ6_bitCount_0f7a4_18 ?_
  refine lv_iand hx hb dJ6_bitCount_0f7a4_21 ?_
  refine lv_iadd hx hb dJ6_bitCount_0f7a4_22 ?_
  refine lv_topi (fun x23 ex23 => ?_)
  have ex23 : x23 = bc2 x9 := ex23
  refine lv_istore_n (lv' := [(0, _)]) hx hb dJ6_bitCount_0f7a4_23 rfl hl (by decide) rfl (fun ls hl => ?_)
  refine lv_iload_n hx hb dJ6_bitCount_0f7a4_24 rfl (lv_at hl 0 rfl) ?_
  refine lv_iload_n hx hb dJ6_bitCount_0f7a4_25 rfl (lv_at hl 0 rfl) ?_
  refine lv_iconst (v := 4) hx hb dJ6_bitCount_0f7a4_26 (by decide) ?_
  refine lv_iushr hx hb dJ6_bitCount_0f7a4_27 rfl ?_
  refine lv_iadd hx hb dJ6_bitCount_0f7a4_28 ?_
  refine lv_ldcw hx hb hown (hts (.constant RJ6 267 (252645135)) (by decide +kernel)) dJ6_bitCount_0f7a4_29 ?_
  refine lv_iand hx hb dJ6_bitCount_0f7a4_32 ?_
  refine lv_topi (fun x33 ex33 => ?_)
  have ex33 : x33 = bc3 x23 := ex33
  refine lv_istore_n (lv' := [(0, _)]) hx hb dJ6_bitCount_0f7a4_33 rfl hl (by decide) rfl (fun ls hl => ?_)
  refine lv_iload_n hx hb dJ6_bitCount_0f7a4_34 rfl (lv_at hl 0 rfl) ?_
  refine lv_iload_n hx hb dJ6_bitCount_0f7a4_35 rfl (lv_at hl 0 rfl) ?_
  refine lv_bipush (v := 8) hx hb dJ6_bitCount_0f7a4_36 (by decide) ?_
  refine lv_iushr hx hb dJ6_bitCount_0f7a4_38 rfl ?_
  refine lv_iadd hx hb dJ6_bitCount_0f7a4_39 ?_
  refine lv_topi (fun x40 ex40 => ?_)
  have ex40 : x40 = bc4 x33 := ex40
  refine lv_istore_n (lv' := [(0, _)]) hx hb dJ6_bitCount_0f7a4_40 rfl hl (by decide) rfl (fun ls hl => ?_)
  refine lv_iload_n hx hb dJ6_bitCount_0f7a4_41 rfl (lv_at hl 0 rfl) ?_
  refine lv_iload_n hx hb dJ6_bitCount_0f7a4_42 rfl (lv_at hl 0 rfl) ?_
  refine lv_bipush (v := 16) hx hb dJ6_bitCount_0f7a4_43 (by decide) ?_
  refine lv_iushr hx hb dJ6_bitCount_0f7a4_45 rfl ?_
  refine lv_iadd hx hb dJ6_bitCount_0f7a4_46 ?_
  refine lv_topi (fun x47 ex47 => ?_)
  have ex47 : x47 = bc5 x40 := ex47
  refine lv_istore_n (lv' := [(0, _)]) hx hb dJ6_bitCount_0f7a4_47 rfl hl (by decide) rfl (fun ls hl => ?_)
  refine lv_iload_n hx hb dJ6_bitCount_0f7a4_48 rfl (lv_at hl 0 rfl) ?_
  refine lv_bipush (v := 63) hx hb dJ6_bitCount_0f7a4_49 (by decide) ?_
  refine lv_iand hx hb dJ6_bitCount_0f7a4_51 ?_
  refine W.iret hx hb hr ?_ hS.2.2 dJ6_bitCount_0f7a4_52
  refine cq1 ?_ hW hS
  exact ⟨by rw [ex47, ex40, ex33, ex23, ex9]; rfl, rfl⟩
set_option maxHeartbeats 4000000 in
set_option maxRecDepth 100000 in
theorem m_Request_hasAnswer (l : Launch) (D : va_G) (y : Nat → ClassId) (z : CS) (sz : Nat) (r : Nat) (k : Int32) (hr0 : r < cNr z)  : Met l yX3_hasAnswer wsX3_hasAnswer ({ frames := 0, cells := 0, slots := 0, locals := 0 }) (va_Pc [.ref (cA z 3 r), .int k] (cPre D y z sz)) (cQ1 D y z sz (fun v u => v = .int (if cI z 21 r &&& ((1 : Int32) <<< (k &&& 31)) = 0 then 0 else 1) ∧ u = z)) 0 0 (cF z sz) := by
  refine Met.ofW (cc := cX3_hasAnswer) (maxL := 2) (ret := (some .boolean)) (by decide) rfl ?_
  intro p e s m args below meth c s₁ B hml hv
  obtain ⟨rfl, hsz, hW0, hK⟩ := hv
  have hx := B.exec
  have hb := B.bytes
  have hr := B.returns
  have hts := atoms_spec (ws := wsX3_hasAnswer) B.pre
  have hown : s.vm.findClass RX3 = some m.cls := findClass_of_methodNamed B.named
  have hlocks := B.notSynchronized
  subst hsz
  have hW := hW0.self (sz := s.heap.size)
  have hA : ∀ q, s.heap.size ≤ q → cF z s.heap.size q := fun q h => Or.inr h
  have hS : va_S (cF z s.heap.size) s.heap s.heap [] := va_S.rf
  have hl := lv_entry ([.ref (cA z 3 r), .int k]) (n := 2) (Nat.le_of_ble_eq_true rfl)
  rw [lg_entry_eq]
  generalize (lg_sl ([.ref (cA z 3 r), .int k]) ++ List.replicate (2 - (lg_sl ([.ref (cA z 3 r), .int k])).length) Slot.unset).toArray = ls at hl ⊢
  have hl : lv_has ls 2 [(0, .ref (cA z 3 r)), (1, .int k)] := hl
  have hX3 : ∀ w ∈ wsX30, w ∈ wsX3_hasAnswer := by decide +kernel
  refine lv_aload_n hx hb dX3_hasAnswer_0 rfl (lv_at hl 0 rfl) ?_
  refine g_Request_answered hx hb hts hX3 hown hK.1 hW rfl (by first | assumption | omega | exact Nat.zero_lt_one | decide) (hts (.fieldLink RX3 57 "SharedRegisters$Request" "answered" "I") (by decide +kernel)) dX3_hasAnswer_1 ?_
  refine lv_iconst (v := 1) hx hb dX3_hasAnswer_4 (by decide) ?_
  refine lv_iload_n hx hb dX3_hasAnswer_5 rfl (lv_at hl 1 rfl) ?_
  refine lv_ishl hx hb dX3_hasAnswer_6 ?_
  refine lv_iand hx hb dX3_hasAnswer_7 ?_
  refine lv_if_eq (tgt := 15) hx hb dX3_hasAnswer_8 (by decide) (fun c_8 => ?_) (fun c_8 => ?_)
  · refine lv_iconst (v := 0) hx hb dX3_hasAnswer_15 (by decide) ?_
    refine W.zret hx hb hr rfl ?_ hS.2.2 dX3_hasAnswer_16
    refine cq1 ?_ hW hS
    exact ⟨by simp [c_8], rfl⟩
  · refine lv_iconst (v := 1) hx hb dX3_hasAnswer_11 (by decide) ?_
    refine lv_goto (tgt := 16) hx hb dX3_hasAnswer_12 (by decide) ?_
    refine W.zret hx hb hr rfl ?_ hS.2.2 dX3_hasAnswer_16
    refine cq1 ?_ hW hS
    exact ⟨by simp [c_8], rfl⟩
set_option maxHeartbeats 4000000 in
set_option maxRecDepth 100000 in
theorem m_Request_countAnswer (l : Launch) (D : va_G) (y : Nat → ClassId) (z : CS) (sz : Nat) (r : Nat) (k : Int32) (hr0 : r < cNr z)  : Met l yX3_countAnswer wsX3_countAnswer ({ frames := 0, cells := 0, slots := 0, locals := 0 }) (va_Pc [.ref (cA z 3 r), .int k] (cPre D y z sz)) (cQ0 D y z sz (fun u => u = sI z 21 r (cI z 21 r ||| ((1 : Int32) <<< (k &&& 31))))) 0 0 (cF z sz) := by
  refine Met.ofW (cc := cX3_countAnswer) (maxL := 2) (ret := none) (by decide) rfl ?_
  intro p e s m args below meth c s₁ B hml hv
  obtain ⟨rfl, hsz, hW0, hK⟩ := hv
  have hx := B.exec
  have hb := B.bytes
  have hr := B.returns
  have hts := atoms_spec (ws := wsX3_countAnswer) B.pre
  have hown : s.vm.findClass RX3 = some m.cls := findClass_of_methodNamed B.named
  have hlocks := B.notSynchronized
  subst hsz
  have hW := hW0.self (sz := s.heap.size)
  have hA : ∀ q, s.heap.size ≤ q → cF z s.heap.size q := fun q h => Or.inr h
  have hS : va_S (cF z s.heap.size) s.heap s.heap [] := va_S.rf
  have hl := lv_entry ([.ref (cA z 3 r), .int k]) (n := 2) (Nat.le_of_ble_eq_true rfl)
  rw [lg_entry_eq]
  generalize (lg_sl ([.ref (cA z 3 r), .int k]) ++ List.replicate (2 - (lg_sl ([.ref (cA z 3 r), .int k])).length) Slot.unset).toArray = ls at hl ⊢
  have hl : lv_has ls 2 [(0, .ref (cA z 3 r)), (1, .int k)] := hl
  have hX3 : ∀ w ∈ wsX30, w ∈ wsX3_countAnswer := by decide +kernel
  refine lv_aload_n hx hb dX3_countAnswer_0 rfl (lv_at hl 0 rfl) ?_
  refine lv_dup hx hb dX3_countAnswer_1 rfl ?_
  refine g_Request_answered hx hb hts hX3 hown hK.1 hW rfl (by first | assumption | omega | exact Nat.zero_lt_one | decide) (hts (.fieldLink RX3 57 "SharedRegisters$Request" "answered" "I") (by decide +kernel)) dX3_countAnswer_2 ?_
  refine lv_iconst (v := 1) hx hb dX3_countAnswer_5 (by decide) ?_
  refine lv_iload_n hx hb dX3_countAnswer_6 rfl (lv_at hl 1 rfl) ?_
  refine lv_ishl hx hb dX3_countAnswer_7 ?_
  refine lv_ior hx hb dX3_countAnswer_8 ?_
  refine p_Request_answered hx hb hts hX3 hown hK.1 hW hS rfl (by first | assumption | omega | exact Nat.zero_lt_one | decide) (hts (.fieldLink RX3 57 "SharedRegisters$Request" "answered" "I") (by decide +kernel)) dX3_countAnswer_9 (fun H locs hW hS => ?_)
  refine W.vret hx hb hr ?_ hS.2.2 dX3_countAnswer_12
  refine cq0 ?_ hW hS
  exact rfl
set_option maxHeartbeats 4000000 in
set_option maxRecDepth 100000 in
theorem m_Request_answers (l : Launch) (D : va_G) (y : Nat → ClassId) (z : CS) (sz : Nat) (r : Nat) (hr0 : r < cNr z)  : Met l yX3_answers wsX3_answers ({ frames := 1, cells := 0, slots := 0, locals := 20 }) (va_Pc [.ref (cA z 3 r)] (cPre D y z sz)) (cQ1 D y z sz (fun v u => v = .int (fBC (cI z 21 r)) ∧ u = z)) 0 0 (cF z sz) := by
  refine Met.ofW (cc := cX3_answers) (maxL := 1) (ret := (some .int)) (by decide) rfl ?_
  intro p e s m args below meth c s₁ B hml hv
  obtain ⟨rfl, hsz, hW0, hK⟩ := hv
  have hx := B.exec
  have hb := B.bytes
  have hr := B.returns
  have hts := atoms_spec (ws := wsX3_answers) B.pre
  have hown : s.vm.findClass RX3 = some m.cls := findClass_of_methodNamed B.named
  have hlocks := B.notSynchronized
  subst hsz
  have hW := hW0.self (sz := s.heap.size)
  have hA : ∀ q, s.heap.size ≤ q → cF z s.heap.size q := fun q h => Or.inr h
  have hS : va_S (cF z s.heap.size) s.heap s.heap [] := va_S.rf
  have hl := lv_entry ([.ref (cA z 3 r)]) (n := 1) (Nat.le_of_ble_eq_true rfl)
  rw [lg_entry_eq]
  generalize (lg_sl ([.ref (cA z 3 r)]) ++ List.replicate (1 - (lg_sl ([.ref (cA z 3 r)])).length) Slot.unset).toArray = ls at hl ⊢
  have hl : lv_has ls 1 [(0, .ref (cA z 3 r))] := hl
  have hX3 : ∀ w ∈ wsX30, w ∈ wsX3_answers := by decide +kernel
  refine lv_aload_n hx hb dX3_answers_0 rfl (lv_at hl 0 rfl) ?_
  refine g_Request_answered hx hb hts hX3 hown hK.1 hW rfl (by first | assumption | omega | exact Nat.zero_lt_one | decide) (hts (.fieldLink RX3 57 "SharedRegisters$Request" "answered" "I") (by decide +kernel)) dX3_answers_1 ?_
  refine cc1 (va_runS (As := [.int (cI z 21 r)]) (rest := []) ⟨hx, hb, hml, hown, hts⟩ (m_bitCount l D y z _ (cI z 21 r)) (va_cwS 1 hts gX3_answers_J6_bitCount_0f7a4 rfl rfl rfl (by decide +kernel) ⟨Nat.le_of_ble_eq_true rfl, Nat.le_of_ble_eq_true rfl⟩) (cPreS hW hK [.int (cI z 21 r)]) rfl rfl hl.1 rfl (lv_room (Nat.le_of_ble_eq_true rfl)) dX3_answers_4 ⟨Nat.le_of_ble_eq_true rfl, Nat.le_of_ble_eq_true rfl⟩) hW hS hA (fun v4 u4 H locs hu4 hW hS => ?_)
  obtain ⟨rfl, rfl⟩ := hu4
  refine W.iret hx hb hr ?_ hS.2.2 dX3_answers_7
  refine cq1 ?_ hW hS
  exact ⟨rfl, rfl⟩
def fHear (z : CS) (r : Nat) (b : Int32) (st : Nat) : CS := if b ≤ cI z 22 r then z else sR (sI z 22 r b) 3 r (some st)
set_option maxHeartbeats 4000000 in
set_option maxRecDepth 100000 in
theorem m_Request_hearState (l : Launch) (D : va_G) (y : Nat → ClassId) (z : CS) (sz : Nat) (r : Nat) (b : Int32) (st : Nat) (hr0 : r < cNr z)  : Met l yX3_hearState wsX3_hearState ({ frames := 0, cells := 0, slots := 0, locals := 0 }) (va_Pc [.ref (cA z 3 r), .int b, .ref (cA z 5 st)] (cPre D y z sz)) (cQ0 D y z sz (fun u => u = fHear z r b st)) 0 0 (cF z sz) := by
  refine Met.ofW (cc := cX3_hearState) (maxL := 3) (ret := none) (by decide) rfl ?_
  intro p e s m args below meth c s₁ B hml hv
  obtain ⟨rfl, hsz, hW0, hK⟩ := hv
  have hx := B.exec
  have hb := B.bytes
  have hr := B.returns
  have hts := atoms_spec (ws := wsX3_hearState) B.pre
  have hown : s.vm.findClass RX3 = some m.cls := findClass_of_methodNamed B.named
  have hlocks := B.notSynchronized
  subst hsz
  have hW := hW0.self (sz := s.heap.size)
  have hA : ∀ q, s.heap.size ≤ q → cF z s.heap.size q := fun q h => Or.inr h
  have hS : va_S (cF z s.heap.size) s.heap s.heap [] := va_S.rf
  have hl := lv_entry ([.ref (cA z 3 r), .int b, .ref (cA z 5 st)]) (n := 3) (Nat.le_of_ble_eq_true rfl)
  rw [lg_entry_eq]
  generalize (lg_sl ([.ref (cA z 3 r), .int b, .ref (cA z 5 st)]) ++ List.replicate (3 - (lg_sl ([.ref (cA z 3 r), .int b, .ref (cA z 5 st)])).length) Slot.unset).toArray = ls at hl ⊢
  have hl : lv_has ls 3 [(0, .ref (cA z 3 r)), (1, .int b), (2, .ref (cA z 5 st))] := hl
  have hX3 : ∀ w ∈ wsX30, w ∈ wsX3_hearState := by decide +kernel
  refine lv_iload_n hx hb dX3_hearState_0 rfl (lv_at hl 1 rfl) ?_
  refine lv_aload_n hx hb dX3_hearState_1 rfl (lv_at hl 0 rfl) ?_
  refine g_Request_toldBallot hx hb hts hX3 hown hK.1 hW rfl (by first | assumption | omega | exact Nat.zero_lt_one | decide) (hts (.fieldLink RX3 60 "SharedRegisters$Request" "toldBallot" "I") (by decide +kernel)) dX3_hearState_2 ?_
  refine lv_icmp_le (tgt := 18) hx hb dX3_hearState_5 (by decide) (fun c_5 => ?_) (fun c_5 => ?_)
  · refine W.vret hx hb hr ?_ hS.2.2 dX3_hearState_18
    refine cq0 ?_ hW hS
    exact (by simp [fHear, c_5])
  · refine lv_aload_n hx hb dX3_hearState_8 rfl (lv_at hl 0 rfl) ?_
    refine lv_iload_n hx hb dX3_hearState_9 rfl (lv_at hl 1 rfl) ?_
    refine p_Request_toldBallot hx hb hts hX3 hown hK.1 hW hS rfl (by first | assumption | omega | exact Nat.zero_lt_one | decide) (hts (.fieldLink RX3 60 "SharedRegisters$Request" "toldBallot" "I") (by decide +kernel)) dX3_hearState_10 (fun H locs hW hS => ?_)
    refine lv_aload_n hx hb dX3_hearState_13 rfl (lv_at hl 0 rfl) ?_
    refine lv_aload_n hx hb dX3_hearState_14 rfl (lv_at hl 2 rfl) ?_
    refine p_Request_state (v := some st) hx hb hts hX3 hown hK.1 hW hS rfl (by first | assumption | omega | exact Nat.zero_lt_one | decide) rfl (hts (.fieldLink RX3 63 "SharedRegisters$Request" "state" "LSharedRegisters$State;") (by decide +kernel)) dX3_hearState_15 (fun H locs hW hS => ?_)
    refine W.vret hx hb hr ?_ hS.2.2 dX3_hearState_18
    refine cq0 ?_ hW hS
    exact (by simp [fHear, c_5])
theorem fFails_bo {z : CS} {i k : Nat} {a : Int64} (h : cI z 26 i = 0 ∨ cI z 26 i = 1) : fFails z i k a = 0 ∨ fFails z i k a = 1 := by
  unfold fFails
  split
  · exact h
  all_goals first | (split <;> simp; done) | simp
theorem cV_I {z : CS} {f i : Nat} {v : Int32} (h : cV z) : cV (sI z f i v) := h
theorem fFails_I {z : CS} {i k f j : Nat} {v : Int32} {a : Int64} (h1 : f ≠ 26) (h2 : f ≠ 27) : fFails (sI z f j v) i k a = fFails z i k a := by
  unfold fFails
  simp [sI_cI, sI_cJ, up2, h1.symm, h2.symm]
theorem fChg_I {z : CS} {i k f j : Nat} {v : Int32} {a : Int64} (h1 : f ≠ 26) (h2 : f ≠ 27) : fChg (sI z f j v) i k a = fChg z i k a := by
  unfold fChg
  rw [fFails_I h1 h2]
  simp [sI_cI, sI_cJ, up2, h1.symm, h2.symm]
/-- what beginAccepting leaves, of a request r with the state st, the change k, the argument a -/
def beginTo (z : CS) (r st k : Nat) (a : Int64) (u : CS) : Prop := match fChg z st k a with
  | none => u = sI (sI (sR (sI z 23 r (fFails z st k a)) 3 r (some st)) 20 r 1) 21 r 0
  | some t => ∃ q, u = sI (sI (sR (newS (sI z 23 r (fFails z st k a)) q t.1 t.2.1 t.2.2) 3 r (some (cNs z))) 20 r 1) 21 r 0
set_option maxHeartbeats 4000000 in
set_option maxRecDepth 100000 in
theorem m_Request_beginAccepting (l : Launch) (D : va_G) (y : Nat → ClassId) (z : CS) (sz : Nat) (r st k : Nat) (hr0 : r < cNr z) (hst : cR z 3 r = some st) (hst0 : st < cNs z) (hk15 : cI z 15 r = nI k) (hk : k < 7) (hb26 : cI z 26 st = 0 ∨ cI z 26 st = 1) (hV : cV z)  : Met l yX3_beginAccepting wsX3_beginAccepting ({ frames := 4, cells := 1, slots := 3, locals := 100 }) (va_Pc [.ref (cA z 3 r)] (cPre D y z sz)) (cQ0 D y z sz (fun u => beginTo z r st k (cJ z 0 r) u)) 1 3 (cF z sz) := by
  refine Met.ofW (cc := cX3_beginAccepting) (maxL := 1) (ret := none) (by decide) rfl ?_
  intro p e s m args below meth c s₁ B hml hv
  obtain ⟨rfl, hsz, hW0, hK⟩ := hv
  have hx := B.exec
  have hb := B.bytes
  have hr := B.returns
  have hts := atoms_spec (ws := wsX3_beginAccepting) B.pre
  have hown : s.vm.findClass RX3 = some m.cls := findClass_of_methodNamed B.named
  have hlocks := B.notSynchronized
  subst hsz
  have hW := hW0.self (sz := s.heap.size)
  have hA : ∀ q, s.heap.size ≤ q → cF z s.heap.size q := fun q h => Or.inr h
  have hS : va_S (cF z s.heap.size) s.heap s.heap [] := va_S.rf
  have hl := lv_entry ([.ref (cA z 3 r)]) (n := 1) (Nat.le_of_ble_eq_true rfl)
  rw [lg_entry_eq]
  generalize (lg_sl ([.ref (cA z 3 r)]) ++ List.replicate (1 - (lg_sl ([.ref (cA z 3 r)])).length) Slot.unset).toArray = ls at hl ⊢
  have hl : lv_has ls 1 [(0, .ref (cA z 3 r))] := hl
  have hX3 : ∀ w ∈ wsX30, w ∈ wsX3_beginAccepting := by decide +kernel
  have hX5 : ∀ w ∈ wsX50, w ∈ wsX3_beginAccepting := by decide +kernel
  refine lv_aload_n hx hb dX3_beginAccepting_0 rfl (lv_at hl 0 rfl) ?_
  refine lv_aload_n hx hb dX3_beginAccepting_1 rfl (lv_at hl 0 rfl) ?_
  refine g_Request_state_s hx hb hts hX3 hown hK.1 hW rfl (st := st) hst hr0 (hts (.fieldLink RX3 63 "SharedRegisters$Request" "state" "LSharedRegisters$State;") (by decide +kernel)) dX3_beginAccepting_2 ?_
  refine lv_aload_n hx hb dX3_beginAccepting_5 rfl (lv_at hl 0 rfl) ?_
  refine g_Request_change hx hb hts hX3 hown hK.1 hW rfl (by first | assumption | omega | exact Nat.zero_lt_one | decide) (hts (.fieldLink RX3 24 "SharedRegisters$Request" "change" "I") (by decide +kernel)) dX3_beginAccepting_6 ?_
  rw [show cI z 15 r = nI k from hk15]
  refine lv_aload_n hx hb dX3_beginAccepting_9 rfl (lv_at hl 0 rfl) ?_
  refine g_Request_argument hx hb hts hX3 hown hK.1 hW rfl (by first | assumption | omega | exact Nat.zero_lt_one | decide) (hts (.fieldLink RX3 27 "SharedRegisters$Request" "argument" "J") (by decide +kernel)) dX3_beginAccepting_10 ?_
  refine cc1 (va_runVN (As := [.int (nI k), .long (cJ z 0 r)]) (rest := [.ref (cA z 3 r)]) ⟨hx, hb, hml, hown, hts⟩ (m_State_fails l D y z _ st k (cJ z 0 r) hst0 hk hb26) ⟨(va_cnB 2 hts gX3_beginAccepting_X5_fails_n79 rfl rfl rfl (hK.2 _ (List.mem_of_getElem? (i := 53) rfl)) (hts (.initialized RX5) (by decide +kernel)) (by decide +kernel) ⟨Nat.le_of_ble_eq_true rfl, Nat.le_of_ble_eq_true rfl⟩), hts (.instanceMethod yX5_fails) (by decide +kernel), hts (.selects RX5 yX5_fails yX5_fails) (by decide +kernel)⟩ (cPreV (k := 5) (q := (RX5, TX5, 3)) hW hK hst0 rfl rfl [.int (nI k), .long (cJ z 0 r)]) rfl rfl hl.1 rfl (lv_room (Nat.le_of_ble_eq_true rfl)) dX3_beginAccepting_13 ⟨Nat.le_of_ble_eq_true rfl, Nat.le_of_ble_eq_true rfl⟩) hW hS hA (fun v13 u13 H locs hu13 hW hS => ?_)
  obtain ⟨rfl, rfl⟩ := hu13
  refine p_Request_failed hx hb hts hX3 hown hK.1 hW hS rfl (by first | assumption | omega | exact Nat.zero_lt_one | decide) (bo_n (fFails_bo hb26)) (bo_f (fFails_bo hb26)) (hts (.fieldLink RX3 67 "SharedRegisters$Request" "failed" "Z") (by decide +kernel)) dX3_beginAccepting_16 (fun H locs hW hS => ?_)
  refine lv_aload_n hx hb dX3_beginAccepting_19 rfl (lv_at hl 0 rfl) ?_
  refine lv_aload_n hx hb dX3_beginAccepting_20 rfl (lv_at hl 0 rfl) ?_
  refine g_Request_state_s hx hb hts hX3 hown hK.1 hW rfl (st := st) hst hr0 (hts (.fieldLink RX3 63 "SharedRegisters$Request" "state" "LSharedRegisters$State;") (by decide +kernel)) dX3_beginAccepting_21 ?_
  refine lv_aload_n hx hb dX3_beginAccepting_24 rfl (lv_at hl 0 rfl) ?_
  refine g_Request_change hx hb hts hX3 hown hK.1 hW rfl (by first | assumption | omega | exact Nat.zero_lt_one | decide) (hts (.fieldLink RX3 24 "SharedRegisters$Request" "change" "I") (by decide +kernel)) dX3_beginAccepting_25 ?_
  rw [show cI (sI u13 23 r (fFails u13 st k (cJ u13 0 r))) 15 r = nI k from hk15]
  refine lv_aload_n hx hb dX3_beginAccepting_28 rfl (lv_at hl 0 rfl) ?_
  refine g_Request_argument hx hb hts hX3 hown hK.1 hW rfl (by first | assumption | omega | exact Nat.zero_lt_one | decide) (hts (.fieldLink RX3 27 "SharedRegisters$Request" "argument" "J") (by decide +kernel)) dX3_beginAccepting_29 ?_
  refine cc1 (va_runVN (As := [.int (nI k), .long (cJ u13 0 r)]) (rest := [.ref (cA u13 3 r)]) ⟨hx, hb, hml, hown, hts⟩ (m_State_changed l D y (sI u13 23 r (fFails u13 st k (cJ u13 0 r))) _ st k (cJ u13 0 r) hst0 hk hb26 hV) ⟨(va_cnB 2 hts gX3_beginAccepting_X5_changed_n85 rfl rfl rfl (hK.2 _ (List.mem_of_getElem? (i := 54) rfl)) (hts (.initialized RX5) (by decide +kernel)) (by decide +kernel) ⟨Nat.le_of_ble_eq_true rfl, Nat.le_of_ble_eq_true rfl⟩), hts (.instanceMethod yX5_changed) (by decide +kernel), hts (.selects RX5 yX5_changed yX5_changed) (by decide +kernel)⟩ (cPreV (k := 5) (q := (RX5, TX5, 3)) hW hK hst0 rfl rfl [.int (nI k), .long (cJ u13 0 r)]) rfl rfl hl.1 rfl (lv_room (Nat.le_of_ble_eq_true rfl)) dX3_beginAccepting_32 ⟨Nat.le_of_ble_eq_true rfl, Nat.le_of_ble_eq_true rfl⟩) hW hS hA (fun v32 u32 H locs hu32 hW hS => ?_)
  rw [fChg_I (by decide) (by decide)] at hu32
  cases ho : fChg u13 st k (cJ u13 0 r) with
  | none =>
    rw [ho] at hu32
    obtain ⟨rfl, rfl⟩ := hu32
    refine p_Request_state (v := some st) hx hb hts hX3 hown hK.1 hW hS rfl (by first | assumption | omega | exact Nat.zero_lt_one | decide) rfl (hts (.fieldLink RX3 63 "SharedRegisters$Request" "state" "LSharedRegisters$State;") (by decide +kernel)) dX3_beginAccepting_35 (fun H locs hW hS => ?_)
    refine lv_aload_n hx hb dX3_beginAccepting_38 rfl (lv_at hl 0 rfl) ?_
    refine lv_iconst (v := 1) hx hb dX3_beginAccepting_39 (by decide) ?_
    refine p_Request_accepting hx hb hts hX3 hown hK.1 hW hS rfl (by first | assumption | omega | exact Nat.zero_lt_one | decide) rfl rfl (hts (.fieldLink RX3 53 "SharedRegisters$Request" "accepting" "Z") (by decide +kernel)) dX3_beginAccepting_40 (fun H locs hW hS => ?_)
    refine lv_aload_n hx hb dX3_beginAccepting_43 rfl (lv_at hl 0 rfl) ?_
    refine lv_iconst (v := 0) hx hb dX3_beginAccepting_44 (by decide) ?_
    refine p_Request_answered hx hb hts hX3 hown hK.1 hW hS rfl (by first | assumption | omega | exact Nat.zero_lt_one | decide) (hts (.fieldLink RX3 57 "SharedRegisters$Request" "answered" "I") (by decide +kernel)) dX3_beginAccepting_45 (fun H locs hW hS => ?_)
    refine W.widen (k := 1) (n := 3) (Nat.le_of_ble_eq_true rfl) (Nat.le_of_ble_eq_true rfl) ?_
    refine W.vret hx hb hr ?_ hS.2.2 dX3_beginAccepting_48
    refine cq0 ?_ hW hS
    exact (by rw [beginTo, ho])
  | some t =>
    rw [ho] at hu32
    obtain ⟨q, rfl, rfl⟩ := hu32
    refine p_Request_state (v := some (cNs u13)) hx hb hts hX3 hown hK.1 hW hS rfl (by first | assumption | omega | exact Nat.zero_lt_one | decide) rfl (hts (.fieldLink RX3 63 "SharedRegisters$Request" "state" "LSharedRegisters$State;") (by decide +kernel)) dX3_beginAccepting_35 (fun H locs hW hS => ?_)
    refine lv_aload_n hx hb dX3_beginAccepting_38 rfl (lv_at hl 0 rfl) ?_
    refine lv_iconst (v := 1) hx hb dX3_beginAccepting_39 (by decide) ?_
    refine p_Request_accepting hx hb hts hX3 hown hK.1 hW hS rfl (by first | assumption | omega | exact Nat.zero_lt_one | decide) rfl rfl (hts (.fieldLink RX3 53 "SharedRegisters$Request" "accepting" "Z") (by decide +kernel)) dX3_beginAccepting_40 (fun H locs hW hS => ?_)
    refine lv_aload_n hx hb dX3_beginAccepting_43 rfl (lv_at hl 0 rfl) ?_
    refine lv_iconst (v := 0) hx hb dX3_beginAccepting_44 (by decide) ?_
    refine p_Request_answered hx hb hts hX3 hown hK.1 hW hS rfl (by first | assumption | omega | exact Nat.zero_lt_one | decide) (hts (.fieldLink RX3 57 "SharedRegisters$Request" "answered" "I") (by decide +kernel)) dX3_beginAccepting_45 (fun H locs hW hS => ?_)
    refine W.widen (k := 1) (n := 3) (Nat.le_of_ble_eq_true rfl) (Nat.le_of_ble_eq_true rfl) ?_
    refine W.vret hx hb hr ?_ hS.2.2 dX3_beginAccepting_48
    refine cq0 ?_ hW hS
    exact (by rw [beginTo, ho]; exact ⟨q, rfl⟩)
