def fCatch (z : CS) (i j : Nat) : CS := if cI z 1 i < cI z 1 j then sI (sS (sI z 1 i (cI z 1 j)) 0 i (cS z 0 j)) 0 i (if cI z 0 i < cI z 0 j then cI z 0 j else cI z 0 i) else z
set_option maxHeartbeats 4000000 in
set_option maxRecDepth 100000 in
theorem m_Register_greaterBallot (l : Launch) (D : va_G) (y : Nat → ClassId) (z : CS) (sz : Nat) (i : Nat) (hi : i < 36)  : Met l yX2_greaterBallot wsX2_greaterBallot ({ frames := 1, cells := 0, slots := 0, locals := 13 }) (va_Pc [.ref (cA z 2 i)] (cPre D y z sz)) (cQ1 D y z sz (fun v u => v = .int (if cI z 0 i < cI z 1 i then cI z 1 i else cI z 0 i) ∧ u = z)) 0 0 (cF z sz) := by
  refine Met.ofW (cc := cX2_greaterBallot) (maxL := 1) (ret := (some .int)) (by decide) rfl ?_
  intro p e s m args below meth c s₁ B hml hv
  obtain ⟨rfl, hsz, hW0, hK⟩ := hv
  have hx := B.exec
  have hb := B.bytes
  have hr := B.returns
  have hts := atoms_spec (ws := wsX2_greaterBallot) B.pre
  have hown : s.vm.findClass RX2 = some m.cls := findClass_of_methodNamed B.named
  have hlocks := B.notSynchronized
  subst hsz
  have hW := hW0.self (sz := s.heap.size)
  have hA : ∀ q, s.heap.size ≤ q → cF z s.heap.size q := fun q h => Or.inr h
  have hS : va_S (cF z s.heap.size) s.heap s.heap [] := va_S.rf
  have hl := lv_entry ([.ref (cA z 2 i)]) (n := 1) (Nat.le_of_ble_eq_true rfl)
  rw [lg_entry_eq]
  generalize (lg_sl ([.ref (cA z 2 i)]) ++ List.replicate (1 - (lg_sl ([.ref (cA z 2 i)])).length) Slot.unset).toArray = ls at hl ⊢
  have hl : lv_has ls 1 [(0, .ref (cA z 2 i))] := hl
  have hX2 : ∀ w ∈ wsX20, w ∈ wsX2_greaterBallot := by decide +kernel
  refine lv_aload_n hx hb dX2_greaterBallot_0 rfl (lv_at hl 0 rfl) ?_
  refine g_Register_promise hx hb hts hX2 hown hK.1 hW rfl (by first | assumption | omega | exact Nat.zero_lt_one | decide) (hts (.fieldLink RX2 7 "SharedRegisters$Register" "promise" "I") (by decide +kernel)) dX2_greaterBallot_1 ?_
  refine lv_aload_n hx hb dX2_greaterBallot_4 rfl (lv_at hl 0 rfl) ?_
  refine g_Register_ballot hx hb hts hX2 hown hK.1 hW rfl (by first | assumption | omega | exact Nat.zero_lt_one | decide) (hts (.fieldLink RX2 13 "SharedRegisters$Register" "ballot" "I") (by decide +kernel)) dX2_greaterBallot_5 ?_
  refine va_mmax hx hb (by rw [hml]; exact hl.1.symm) hown (hts (.methodLink RX2 20 Lib.Math.max.name) (by decide +kernel)) (hts (.static Lib.Math.max.name) (by decide +kernel)) (hts (.initialized "java/lang/Math") (by decide +kernel)) (hts (.code Lib.Math.max.name Lib.Math.max.code 2 (some .int)) (by decide +kernel)) (Nat.le_of_ble_eq_true rfl) (Nat.le_of_ble_eq_true rfl) (Nat.zero_le _) (Nat.zero_le _) dX2_greaterBallot_8 ?_
  refine W.iret hx hb hr ?_ hS.2.2 dX2_greaterBallot_11
  refine cq1 ?_ hW hS
  exact ⟨rfl, rfl⟩
set_option maxHeartbeats 4000000 in
set_option maxRecDepth 100000 in
theorem m_Register_accept (l : Launch) (D : va_G) (y : Nat → ClassId) (z : CS) (sz : Nat) (i : Nat) (b : Int32) (st : Nat) (hi : i < 36)  : Met l yX2_accept wsX2_accept ({ frames := 0, cells := 0, slots := 0, locals := 0 }) (va_Pc [.ref (cA z 2 i), .int b, .ref (cA z 5 st)] (cPre D y z sz)) (cQ0 D y z sz (fun u => u = sI (sS (sI z 1 i b) 0 i st) 0 i 0)) 0 0 (cF z sz) := by
  refine Met.ofW (cc := cX2_accept) (maxL := 3) (ret := none) (by decide) rfl ?_
  intro p e s m args below meth c s₁ B hml hv
  obtain ⟨rfl, hsz, hW0, hK⟩ := hv
  have hx := B.exec
  have hb := B.bytes
  have hr := B.returns
  have hts := atoms_spec (ws := wsX2_accept) B.pre
  have hown : s.vm.findClass RX2 = some m.cls := findClass_of_methodNamed B.named
  have hlocks := B.notSynchronized
  subst hsz
  have hW := hW0.self (sz := s.heap.size)
  have hA : ∀ q, s.heap.size ≤ q → cF z s.heap.size q := fun q h => Or.inr h
  have hS : va_S (cF z s.heap.size) s.heap s.heap [] := va_S.rf
  have hl := lv_entry ([.ref (cA z 2 i), .int b, .ref (cA z 5 st)]) (n := 3) (Nat.le_of_ble_eq_true rfl)
  rw [lg_entry_eq]
  generalize (lg_sl ([.ref (cA z 2 i), .int b, .ref (cA z 5 st)]) ++ List.replicate (3 - (lg_sl ([.ref (cA z 2 i), .int b, .ref (cA z 5 st)])).length) Slot.unset).toArray = ls at hl ⊢
  have hl : lv_has ls 3 [(0, .ref (cA z 2 i)), (1, .int b), (2, .ref (cA z 5 st))] := hl
  have hX2 : ∀ w ∈ wsX20, w ∈ wsX2_accept := by decide +kernel
  refine lv_aload_n hx hb dX2_accept_0 rfl (lv_at hl 0 rfl) ?_
  refine lv_iload_n hx hb dX2_accept_1 rfl (lv_at hl 1 rfl) ?_
  refine p_Register_ballot hx hb hts hX2 hown hK.1 hW hS rfl (by first | assumption | omega | exact Nat.zero_lt_one | decide) (hts (.fieldLink RX2 13 "SharedRegisters$Register" "ballot" "I") (by decide +kernel)) dX2_accept_2 (fun H locs hW hS => ?_)
  refine lv_aload_n hx hb dX2_accept_5 rfl (lv_at hl 0 rfl) ?_
  refine lv_aload_n hx hb dX2_accept_6 rfl (lv_at hl 2 rfl) ?_
  refine p_Register_state hx hb hts hX2 hown hK.1 hW hS rfl (by first | assumption | omega | exact Nat.zero_lt_one | decide) rfl (hts (.fieldLink RX2 16 "SharedRegisters$Register" "state" "LSharedRegisters$State;") (by decide +kernel)) dX2_accept_7 (fun H locs hW hS => ?_)
  refine lv_aload_n hx hb dX2_accept_10 rfl (lv_at hl 0 rfl) ?_
  refine lv_iconst (v := 0) hx hb dX2_accept_11 (by decide) ?_
  refine p_Register_promise hx hb hts hX2 hown hK.1 hW hS rfl (by first | assumption | omega | exact Nat.zero_lt_one | decide) (hts (.fieldLink RX2 7 "SharedRegisters$Register" "promise" "I") (by decide +kernel)) dX2_accept_12 (fun H locs hW hS => ?_)
  refine W.vret hx hb hr ?_ hS.2.2 dX2_accept_15
  refine cq0 ?_ hW hS
  exact rfl
set_option maxHeartbeats 4000000 in
set_option maxRecDepth 100000 in
theorem m_Register_catchUp (l : Launch) (D : va_G) (y : Nat → ClassId) (z : CS) (sz : Nat) (i j : Nat) (hi : i < 36) (hj : j < 36)  : Met l yX2_catchUp wsX2_catchUp ({ frames := 1, cells := 0, slots := 0, locals := 14 }) (va_Pc [.ref (cA z 2 i), .ref (cA z 2 j)] (cPre D y z sz)) (cQ1 D y z sz (fun v u => v = .int (if cI z 1 i < cI z 1 j then 1 else 0) ∧ u = fCatch z i j)) 0 0 (cF z sz) := by
  refine Met.ofW (cc := cX2_catchUp) (maxL := 2) (ret := (some .boolean)) (by decide) rfl ?_
  intro p e s m args below meth c s₁ B hml hv
  obtain ⟨rfl, hsz, hW0, hK⟩ := hv
  have hx := B.exec
  have hb := B.bytes
  have hr := B.returns
  have hts := atoms_spec (ws := wsX2_catchUp) B.pre
  have hown : s.vm.findClass RX2 = some m.cls := findClass_of_methodNamed B.named
  have hlocks := B.notSynchronized
  subst hsz
  have hW := hW0.self (sz := s.heap.size)
  have hA : ∀ q, s.heap.size ≤ q → cF z s.heap.size q := fun q h => Or.inr h
  have hS : va_S (cF z s.heap.size) s.heap s.heap [] := va_S.rf
  have hl := lv_entry ([.ref (cA z 2 i), .ref (cA z 2 j)]) (n := 2) (Nat.le_of_ble_eq_true rfl)
  rw [lg_entry_eq]
  generalize (lg_sl ([.ref (cA z 2 i), .ref (cA z 2 j)]) ++ List.replicate (2 - (lg_sl ([.ref (cA z 2 i), .ref (cA z 2 j)])).length) Slot.unset).toArray = ls at hl ⊢
  have hl : lv_has ls 2 [(0, .ref (cA z 2 i)), (1, .ref (cA z 2 j))] := hl
  have hX2 : ∀ w ∈ wsX20, w ∈ wsX2_catchUp := by decide +kernel
  refine lv_aload_n hx hb dX2_catchUp_0 rfl (lv_at hl 1 rfl) ?_
  refine g_Register_ballot hx hb hts hX2 hown hK.1 hW rfl (by first | assumption | omega | exact Nat.zero_lt_one | decide) (hts (.fieldLink RX2 13 "SharedRegisters$Register" "ballot" "I") (by decide +kernel)) dX2_catchUp_1 ?_
  refine lv_aload_n hx hb dX2_catchUp_4 rfl (lv_at hl 0 rfl) ?_
  refine g_Register_ballot hx hb hts hX2 hown hK.1 hW rfl (by first | assumption | omega | exact Nat.zero_lt_one | decide) (hts (.fieldLink RX2 13 "SharedRegisters$Register" "ballot" "I") (by decide +kernel)) dX2_catchUp_5 ?_
  refine lv_icmp_gt (tgt := 13) hx hb dX2_catchUp_8 (by decide) (fun c_8 => ?_) (fun c_8 => ?_)
  · refine lv_aload_n hx hb dX2_catchUp_13 rfl (lv_at hl 0 rfl) ?_
    refine lv_aload_n hx hb dX2_catchUp_14 rfl (lv_at hl 1 rfl) ?_
    refine g_Register_ballot hx hb hts hX2 hown hK.1 hW rfl (by first | assumption | omega | exact Nat.zero_lt_one | decide) (hts (.fieldLink RX2 13 "SharedRegisters$Register" "ballot" "I") (by decide +kernel)) dX2_catchUp_15 ?_
    refine p_Register_ballot hx hb hts hX2 hown hK.1 hW hS rfl (by first | assumption | omega | exact Nat.zero_lt_one | decide) (hts (.fieldLink RX2 13 "SharedRegisters$Register" "ballot" "I") (by decide +kernel)) dX2_catchUp_18 (fun H locs hW hS => ?_)
    refine lv_aload_n hx hb dX2_catchUp_21 rfl (lv_at hl 0 rfl) ?_
    refine lv_aload_n hx hb dX2_catchUp_22 rfl (lv_at hl 1 rfl) ?_
    refine g_Register_state hx hb hts hX2 hown hK.1 hW rfl (by first | assumption | omega | exact Nat.zero_lt_one | decide) (hts (.fieldLink RX2 16 "SharedRegisters$Register" "state" "LSharedRegisters$State;") (by decide +kernel)) dX2_catchUp_23 ?_
    refine p_Register_state hx hb hts hX2 hown hK.1 hW hS rfl (by first | assumption | omega | exact Nat.zero_lt_one | decide) rfl (hts (.fieldLink RX2 16 "SharedRegisters$Register" "state" "LSharedRegisters$State;") (by decide +kernel)) dX2_catchUp_26 (fun H locs hW hS => ?_)
    refine lv_aload_n hx hb dX2_catchUp_29 rfl (lv_at hl 0 rfl) ?_
    refine lv_aload_n hx hb dX2_catchUp_30 rfl (lv_at hl 0 rfl) ?_
    refine g_Register_promise hx hb hts hX2 hown hK.1 hW rfl (by first | assumption | omega | exact Nat.zero_lt_one | decide) (hts (.fieldLink RX2 7 "SharedRegisters$Register" "promise" "I") (by decide +kernel)) dX2_catchUp_31 ?_
    refine lv_aload_n hx hb dX2_catchUp_34 rfl (lv_at hl 1 rfl) ?_
    refine g_Register_promise hx hb hts hX2 hown hK.1 hW rfl (by first | assumption | omega | exact Nat.zero_lt_one | decide) (hts (.fieldLink RX2 7 "SharedRegisters$Register" "promise" "I") (by decide +kernel)) dX2_catchUp_35 ?_
    refine va_mmax hx hb (by rw [hml]; exact hl.1.symm) hown (hts (.methodLink RX2 20 Lib.Math.max.name) (by decide +kernel)) (hts (.static Lib.Math.max.name) (by decide +kernel)) (hts (.initialized "java/lang/Math") (by decide +kernel)) (hts (.code Lib.Math.max.name Lib.Math.max.code 2 (some .int)) (by decide +kernel)) (Nat.le_of_ble_eq_true rfl) (Nat.le_of_ble_eq_true rfl) (Nat.zero_le _) (Nat.zero_le _) dX2_catchUp_38 ?_
    refine p_Register_promise hx hb hts hX2 hown hK.1 hW hS rfl (by first | assumption | omega | exact Nat.zero_lt_one | decide) (hts (.fieldLink RX2 7 "SharedRegisters$Register" "promise" "I") (by decide +kernel)) dX2_catchUp_41 (fun H locs hW hS => ?_)
    refine lv_iconst (v := 1) hx hb dX2_catchUp_44 (by decide) ?_
    refine W.zret hx hb hr rfl ?_ hS.2.2 dX2_catchUp_45
    refine cq1 ?_ hW hS
    exact (by simp [fCatch, c_8, sI_cI, sI_cJ, sI_cR, sI_cS, sI_cE, sI_cA, sI_cNr, sI_cNs, sJ_cI, sJ_cJ, sJ_cR, sJ_cS, sJ_cE, sJ_cA, sJ_cNr, sJ_cNs, sR_cI, sR_cJ, sR_cR, sR_cS, sR_cE, sR_cA, sR_cNr, sR_cNs, sS_cI, sS_cJ, sS_cR, sS_cS, sS_cE, sS_cA, sS_cNr, sS_cNs, sE_cI, sE_cJ, sE_cR, sE_cS, sE_cE, sE_cA, sE_cNr, sE_cNs, up2])
  · refine lv_iconst (v := 0) hx hb dX2_catchUp_11 (by decide) ?_
    refine W.zret hx hb hr rfl ?_ hS.2.2 dX2_catchUp_12
    refine cq1 ?_ hW hS
    exact ⟨by rw [if_neg c_8], by rw [fCatch, if_neg c_8]⟩
