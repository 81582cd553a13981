/-- the state in which a new request's messages are sent -/
def askS (z : CS) (q a : Nat) (key chg : Int32) (arg : Int64) : CS := sR (sI (sR (initR (addR (sI z 3 a (cI z 3 a + 1)) q) (cNr z) a (nI (cNr z)) key chg arg 0) 6 (cNr z) (some (cNr z))) 28 0 (nI (cNr z + 1))) 1 a (some (cNr z))
theorem askS_row {z : CS} {q a n : Nat} {key chg : Int32} {arg : Int64} (h : RowOk z n) : RowOk (askS z q a key chg arg) n := by
  refine ⟨?_, h.2.1, h.2.2⟩
  rw [← h.1]
  simp [askS, initR, sI_cI, sJ_cI, sR_cI, addR_cI, up2]
theorem fSet_cNr (k : Nat) : ∀ (z : CS) (j : Nat) (so : Int32) (r : Nat) (set : Int32) (st : Nat), cNr (fSet k z j so r set st) = cNr z := by
  induction k with
  | zero => intros; rfl
  | succ k ih =>
    intro z j so r set st
    rw [fSet, ih]
    split
    · rfl
    · exact fSend_cNr _ _ _ _ _ _ _ _
set_option maxHeartbeats 4000000 in
set_option maxRecDepth 100000 in
theorem m_ask (l : Launch) (hl0 : l.stackTraces = false) (D : va_G) (y : Nat → ClassId) (z : CS) (sz : Nat) (i j ch : Int32) (arg : Int64) (n : Nat) (h28 : cI z 28 0 = nI (cNr z)) (h200 : cNr z ≤ 200) (hI : cInv z) (hrow : RowOk z n) : vx_Met l yX6_ask wsX6_ask ({ frames := 7, cells := 4, slots := 33, locals := 110 }) (va_Pc [.ref (cA z 6 0), .int i, .int j, .int ch, .long arg] (cPreX D y z sz)) (cQ1 D y z sz (fun v u => ∃ a k, a < 4 ∧ k < 4 ∧ i = nI a ∧ j = nI k ∧ inG ch 0 6 ∧ (((¬ cR z 1 a = none ∨ ¬ cNr z < 200) ∧ v = .int (-1) ∧ u = z) ∨ (cR z 1 a = none ∧ cNr z < 200 ∧ ∃ q, v = .int (cI u 12 (cNr z)) ∧ u = fSet 9 (askS z q a (nI k) ch arg) 0 0 (cNr z) (cE z 0 a 0) 0)))) (cX D y z sz (fun E => (E = cI_ ∧ ¬ (inR i 4 ∧ inR j 4)) ∨ (E = cG_ ∧ inR i 4 ∧ inR j 4 ∧ ¬ inG ch 0 6))) 4 33 (cF z sz) := by
  refine vx_ofW (cc := cX6_ask) (maxL := 8) (ret := (some .int)) (by decide) rfl ?_
  intro p e s m args below meth c s₁ B hml hnt hv
  obtain ⟨rfl, hsz, hW0, hK, hZ⟩ := hv
  have hx := B.exec
  have hb := B.bytes
  have hr := B.returns
  have hts := atoms_spec (ws := wsX6_ask) B.pre
  have hown : s.vm.findClass RX6 = some m.cls := findClass_of_methodNamed B.named
  have hlocks := B.notSynchronized
  subst hsz
  have hW := hW0.self (sz := s.heap.size)
  have hA : ∀ q, s.heap.size ≤ q → cF z s.heap.size q := fun q h => Or.inr h
  have hS : va_S (cF z s.heap.size) s.heap s.heap [] := va_S.rf
  have hl := lv_entry ([.ref (cA z 6 0), .int i, .int j, .int ch, .long arg]) (n := 8) (Nat.le_of_ble_eq_true rfl)
  rw [lg_entry_eq]
  generalize (lg_sl ([.ref (cA z 6 0), .int i, .int j, .int ch, .long arg]) ++ List.replicate (8 - (lg_sl ([.ref (cA z 6 0), .int i, .int j, .int ch, .long arg])).length) Slot.unset).toArray = ls at hl ⊢
  have hl : lv_has ls 8 [(0, .ref (cA z 6 0)), (1, .int i), (2, .int j), (3, .int ch), (4, .long arg)] := hl
  have hX6 : ∀ w ∈ wsX60, w ∈ wsX6_ask := by decide +kernel
  have hX0 : ∀ w ∈ wsX00, w ∈ wsX6_ask := by decide +kernel
  have hX3 : ∀ w ∈ wsX30, w ∈ wsX6_ask := by decide +kernel
  refine lv_iload_n hx hb dX6_ask_0 rfl (lv_at hl 1 rfl) ?_
  refine lv_iconst (v := 4) hx hb dX6_ask_1 (by decide) ?_
  refine cx0 (vx_runS (As := [.int (i), .int (4)]) (rest := []) ⟨hx, hb, hml, hown, hts⟩ (m_needIndex l hl0 D y z _ (i) (4)) (va_cwS 2 hts gX6_ask_X6_needIndex rfl rfl rfl (by decide +kernel) ⟨Nat.le_of_ble_eq_true rfl, Nat.le_of_ble_eq_true rfl⟩) (cPreSX hW hK hZ hS hA [.int (i), .int (4)]) rfl rfl hl.1 rfl (lv_room (Nat.le_of_ble_eq_true rfl)) dX6_ask_2 ⟨Nat.le_of_ble_eq_true rfl, Nat.le_of_ble_eq_true rfl⟩) hW hS hA (fun E ce q9 H locs hpx hW hS h1 h2 h3 => cxo hnt hlocks (Or.inl ⟨hpx.1, fun q => hpx.2 q.1⟩) hW hS h1 h2 h3 (Nat.le_of_ble_eq_true rfl) (Nat.le_of_ble_eq_true rfl)) (fun u2 H locs hu2 hW hS => ?_)
  obtain ⟨f2, hR2⟩ := hu2
  replace f2 := f2.symm
  subst f2
  obtain ⟨a, ha, rfl⟩ := inR_nat (n := 4) hR2 (by decide)
  refine lv_iload_n hx hb dX6_ask_5 rfl (lv_at hl 2 rfl) ?_
  refine lv_iconst (v := 4) hx hb dX6_ask_6 (by decide) ?_
  refine cx0 (vx_runS (As := [.int (j), .int (4)]) (rest := []) ⟨hx, hb, hml, hown, hts⟩ (m_needIndex l hl0 D y z _ (j) (4)) (va_cwS 2 hts gX6_ask_X6_needIndex rfl rfl rfl (by decide +kernel) ⟨Nat.le_of_ble_eq_true rfl, Nat.le_of_ble_eq_true rfl⟩) (cPreSX hW hK hZ hS hA [.int (j), .int (4)]) rfl rfl hl.1 rfl (lv_room (Nat.le_of_ble_eq_true rfl)) dX6_ask_7 ⟨Nat.le_of_ble_eq_true rfl, Nat.le_of_ble_eq_true rfl⟩) hW hS hA (fun E ce q9 H locs hpx hW hS h1 h2 h3 => cxo hnt hlocks (Or.inl ⟨hpx.1, fun q => hpx.2 q.2⟩) hW hS h1 h2 h3 (Nat.le_of_ble_eq_true rfl) (Nat.le_of_ble_eq_true rfl)) (fun u7 H locs hu7 hW hS => ?_)
  obtain ⟨f7, hR7⟩ := hu7
  replace f7 := f7.symm
  subst f7
  obtain ⟨k, hk, rfl⟩ := inR_nat (n := 4) hR7 (by decide)
  refine lv_iload_n hx hb dX6_ask_10 rfl (lv_at hl 3 rfl) ?_
  refine lv_iconst (v := 0) hx hb dX6_ask_11 (by decide) ?_
  refine lv_bipush (v := 6) hx hb dX6_ask_12 (by decide) ?_
  refine cx0 (vx_runS (As := [.int (ch), .int (0), .int (6)]) (rest := []) ⟨hx, hb, hml, hown, hts⟩ (m_needRange l hl0 D y z _ (ch) (0) (6)) (va_cwS 3 hts gX6_ask_X6_needRange rfl rfl rfl (by decide +kernel) ⟨Nat.le_of_ble_eq_true rfl, Nat.le_of_ble_eq_true rfl⟩) (cPreSX hW hK hZ hS hA [.int (ch), .int (0), .int (6)]) rfl rfl hl.1 rfl (lv_room (Nat.le_of_ble_eq_true rfl)) dX6_ask_14 ⟨Nat.le_of_ble_eq_true rfl, Nat.le_of_ble_eq_true rfl⟩) hW hS hA (fun E ce q9 H locs hpx hW hS h1 h2 h3 => cxo hnt hlocks (Or.inr ⟨hpx.1, hR2, hR7, hpx.2⟩) hW hS h1 h2 h3 (Nat.le_of_ble_eq_true rfl) (Nat.le_of_ble_eq_true rfl)) (fun u14 H locs hu14 hW hS => ?_)
  obtain ⟨f14, hR14⟩ := hu14
  replace f14 := f14.symm
  subst f14
  refine lv_aload_n hx hb dX6_ask_17 rfl (lv_at hl 0 rfl) ?_
  refine g_SharedRegisters_askers hx hb hts hX6 hown hK.1 hW rfl (by first | assumption | omega | exact Nat.zero_lt_one | decide) (hts (.fieldLink RX6 33 "SharedRegisters" "askers" "[LSharedRegisters$Asker;") (by decide +kernel)) dX6_ask_18 ?_
  refine lv_iload_n hx hb dX6_ask_21 rfl (lv_at hl 1 rfl) ?_
  refine al_askers hx hb hK.1 hW rfl (vp_in_nI ha (by decide)) dX6_ask_22 ?_
  rw [nI_clamp (show a < 2 ^ 31 by omega)]
  refine lv_astore (lv' := [(6, _), (0, _), (1, _), (2, _), (3, _), (4, _)]) hx hb dX6_ask_23 hl (by decide) rfl (fun ls hl => ?_)
  cases hc : cR z 1 a with
  | none =>
    refine lv_aload hx hb dX6_ask_25 (lv_at hl 0 rfl) ?_
    refine gN_Asker_current_n hx hb hts hX0 hown hK.1 hW rfl hc (by first | assumption | omega | exact Nat.zero_lt_one | decide) (hK.2 _ (List.mem_of_getElem? (i := 11) rfl)) dX6_ask_27 ?_
    refine lv_ifnonnullN hx hb dX6_ask_30 ?_
    refine lv_aload_n hx hb dX6_ask_33 rfl (lv_at hl 1 rfl) ?_
    refine g_SharedRegisters_requestCount hx hb hts hX6 hown hK.1 hW rfl (by first | assumption | omega | exact Nat.zero_lt_one | decide) (hts (.fieldLink RX6 53 "SharedRegisters" "requestCount" "I") (by decide +kernel)) dX6_ask_34 ?_
    rw [h28]
    refine lv_sipush (v := 200) hx hb dX6_ask_37 (by decide) ?_
    refine lv_icmp_lt (tgt := 45) hx hb dX6_ask_40 (by decide) (fun c_40 => ?_) (fun c_40 => ?_)
    · have hnr : cNr z < 200 := (nI_ltI (by omega) (by decide)).mp c_40
      refine lv_aload hx hb dX6_ask_45 (lv_at hl 0 rfl) ?_
      refine lv_dup hx hb dX6_ask_47 rfl ?_
      refine gN_Asker_count hx hb hts hX0 hown hK.1 hW rfl (by first | assumption | omega | exact Nat.zero_lt_one | decide) (hK.2 _ (List.mem_of_getElem? (i := 10) rfl)) dX6_ask_48 ?_
      refine lv_iconst (v := 1) hx hb dX6_ask_51 (by decide) ?_
      refine lv_iadd hx hb dX6_ask_52 ?_
      refine pN_Asker_count hx hb hts hX0 hown hK.1 hW hS rfl (by first | assumption | omega | exact Nat.zero_lt_one | decide) (hK.2 _ (List.mem_of_getElem? (i := 10) rfl)) dX6_ask_53 (fun H locs hW hS => ?_)
      refine n_Request hx hb hts hX3 hown (hts (.classLink RX6 40 RX3) (by decide +kernel)) (hts (.instantiable RX3 15) (by decide +kernel)) (hts (.initialized RX3) (by decide +kernel)) hK.1 hW hS hA (z := (sI z 3 a (cI z 3 a + 1))) hI.1 (Nat.le_of_ble_eq_true rfl) (Nat.le_of_ble_eq_true rfl) dX6_ask_56 (fun q H hW hS => ?_)
      have hnA : ∀ k i, ¬ (k = 3 ∧ i = cNr z) → cA z k i = cA (addR (sI z 3 a (cI z 3 a + 1)) q) k i := fun k i h => (addR_ad (z := (sI z 3 a (cI z 3 a + 1))) (q := q) h).symm
      have hl : lv_has ls 8 [(6, .ref (cA (addR (sI z 3 a (cI z 3 a + 1)) q) 0 a)), (0, .ref (cA (addR (sI z 3 a (cI z 3 a + 1)) q) 6 0)), (1, .int (nI a)), (2, .int (nI k)), (3, .int ch), (4, .long arg)] := by rw [← hnA 0 a (by omega), ← hnA 6 0 (by omega)]; exact hl
      refine lv_dup hx hb dX6_ask_59 rfl ?_
      refine lv_aload_n hx hb dX6_ask_60 rfl (lv_at hl 1 rfl) ?_
      refine g_SharedRegisters_requestCount hx hb hts hX6 hown hK.1 hW rfl (by first | assumption | omega | exact Nat.zero_lt_one | decide) (hts (.fieldLink RX6 53 "SharedRegisters" "requestCount" "I") (by decide +kernel)) dX6_ask_61 ?_
      rw [show cI (addR (sI z 3 a (cI z 3 a + 1)) q) 28 0 = nI (cNr z) from by rw [addR_cI]; simp [sI_cI, up2, h28]]
      refine lv_aload hx hb dX6_ask_64 (lv_at hl 0 rfl) ?_
      refine lv_iload_n hx hb dX6_ask_66 rfl (lv_at hl 3 rfl) ?_
      refine lv_iload_n hx hb dX6_ask_67 rfl (lv_at hl 4 rfl) ?_
      refine lv_lload hx hb dX6_ask_68 (lv_at hl 5 rfl) ?_
      refine lv_aload_n hx hb dX6_ask_70 rfl (lv_at hl 1 rfl) ?_
      refine g_SharedRegisters_absent hx hb hts hX6 hown hK.1 hW rfl (by first | assumption | omega | exact Nat.zero_lt_one | decide) (hts (.fieldLink RX6 12 "SharedRegisters" "absent" "LSharedRegisters$State;") (by decide +kernel)) dX6_ask_71 ?_
      refine cc0 (va_runIN (As := [.int (nI (cNr z)), .ref (cA (addR (sI z 3 a (cI z 3 a + 1)) q) 0 a), .int (nI k), .int ch, .long arg, .ref (cA (addR (sI z 3 a (cI z 3 a + 1)) q) 5 0)]) (rest := [.ref (cA (addR (sI z 3 a (cI z 3 a + 1)) q) 3 (cNr z))]) ⟨hx, hb, hml, hown, hts⟩ (m_Request_init l D y (addR (sI z 3 a (cI z 3 a + 1)) q) _ (cNr z) a (nI (cNr z)) (nI k) ch arg 0 (Nat.lt_succ_self _) ha) ⟨(va_cnB 6 hts gX6_ask_X3_init_n72 rfl rfl rfl (hK.2 _ (List.mem_of_getElem? (i := 44) rfl)) (hts (.initialized RX3) (by decide +kernel)) (by decide +kernel) ⟨Nat.le_of_ble_eq_true rfl, Nat.le_of_ble_eq_true rfl⟩), rfl, hts (.instanceMethod yX3_init) (by decide +kernel)⟩ (cPreS hW hK (.ref (cA (addR (sI z 3 a (cI z 3 a + 1)) q) 3 (cNr z)) :: [.int (nI (cNr z)), .ref (cA (addR (sI z 3 a (cI z 3 a + 1)) q) 0 a), .int (nI k), .int ch, .long arg, .ref (cA (addR (sI z 3 a (cI z 3 a + 1)) q) 5 0)])) rfl rfl hl.1 rfl (lv_room (Nat.le_of_ble_eq_true rfl)) dX6_ask_74 ⟨Nat.le_of_ble_eq_true rfl, Nat.le_of_ble_eq_true rfl⟩) hW hS hA (fun u74 H locs hu74 hW hS => ?_)
      have hA74 : cA u74 = cA (addR (sI z 3 a (cI z 3 a + 1)) q) := by rw [hu74]; rfl
      have hN74 : cNr u74 = cNr z + 1 := by rw [hu74]; rfl
      have h74 : cI u74 28 0 = nI (cNr z) := by rw [hu74]; simp [initR, sI_cI, sJ_cI, sR_cI, addR_cI, up2, h28]
      rw [← hA74] at hl
      rw [show cA (addR (sI z 3 a (cI z 3 a + 1)) q) 3 (cNr z) = cA u74 3 (cNr z) from by rw [hA74]]
      refine lv_astore (lv' := [(7, _), (6, _), (0, _), (1, _), (2, _), (3, _), (4, _)]) hx hb dX6_ask_77 hl (by decide) rfl (fun ls hl => ?_)
      refine lv_aload_n hx hb dX6_ask_79 rfl (lv_at hl 2 rfl) ?_
      refine g_SharedRegisters_requests hx hb hts hX6 hown hK.1 hW rfl (by first | assumption | omega | exact Nat.zero_lt_one | decide) (hts (.fieldLink RX6 42 "SharedRegisters" "requests" "[LSharedRegisters$Request;") (by decide +kernel)) dX6_ask_80 ?_
      refine lv_aload_n hx hb dX6_ask_83 rfl (lv_at hl 2 rfl) ?_
      refine g_SharedRegisters_requestCount hx hb hts hX6 hown hK.1 hW rfl (by first | assumption | omega | exact Nat.zero_lt_one | decide) (hts (.fieldLink RX6 53 "SharedRegisters" "requestCount" "I") (by decide +kernel)) dX6_ask_84 ?_
      rw [show cI u74 28 0 = nI (cNr z) from h74]
      refine lv_aload hx hb dX6_ask_87 (lv_at hl 0 rfl) ?_
      refine as_requests hx hb hK.1 hW hS rfl rfl (by rw [hN74]; exact Nat.lt_succ_self _) (vp_in_nI (by omega) (by decide)) dX6_ask_89 (fun H locs hW hS => ?_)
      rw [nI_clamp (show cNr z < 2 ^ 31 by omega)] at hW
      refine lv_aload_n hx hb dX6_ask_90 rfl (lv_at hl 2 rfl) ?_
      refine lv_dup hx hb dX6_ask_91 rfl ?_
      refine g_SharedRegisters_requestCount hx hb hts hX6 hown hK.1 hW rfl (by first | assumption | omega | exact Nat.zero_lt_one | decide) (hts (.fieldLink RX6 53 "SharedRegisters" "requestCount" "I") (by decide +kernel)) dX6_ask_92 ?_
      rw [show cI (sR u74 6 (cNr z) (some (cNr z))) 28 0 = nI (cNr z) from h74]
      refine lv_iconst (v := 1) hx hb dX6_ask_95 (by decide) ?_
      refine lv_iadd hx hb dX6_ask_96 ?_
      rw [nI_1]
      refine p_SharedRegisters_requestCount hx hb hts hX6 hown hK.1 hW hS rfl (by first | assumption | omega | exact Nat.zero_lt_one | decide) (hts (.fieldLink RX6 53 "SharedRegisters" "requestCount" "I") (by decide +kernel)) dX6_ask_97 (fun H locs hW hS => ?_)
      refine lv_aload hx hb dX6_ask_100 (lv_at hl 1 rfl) ?_
      refine lv_aload hx hb dX6_ask_102 (lv_at hl 0 rfl) ?_
      refine pN_Asker_current (v := some (cNr z)) hx hb hts hX0 hown hK.1 hW hS rfl (by first | assumption | omega | exact Nat.zero_lt_one | decide) rfl (hK.2 _ (List.mem_of_getElem? (i := 11) rfl)) dX6_ask_104 (fun H locs hW hS => ?_)
      have hl9 : cA (sR (sI (sR u74 6 (cNr z) (some (cNr z))) 28 0 (nI (cNr z + 1))) 1 a (some (cNr z))) = cA u74 := rfl
      rw [← hl9] at hl
      have hq9 : sR (sI (sR u74 6 (cNr z) (some (cNr z))) 28 0 (nI (cNr z + 1))) 1 a (some (cNr z)) = askS z q a (nI k) ch arg := by rw [hu74]; rfl
      rw [hq9] at hW hl
      have hE9 : cE (askS z q a (nI k) ch arg) 0 a 0 = cE z 0 a 0 := rfl
      have hN9 : cNr (askS z q a (nI k) ch arg) = cNr z + 1 := rfl
      have hrow9 : RowOk (askS z q a (nI k) ch arg) n := askS_row hrow
      generalize hzq : askS z q a (nI k) ch arg = zq at hW hl hE9 hN9 hrow9
      refine lv_aload_n hx hb dX6_ask_107 rfl (lv_at hl 2 rfl) ?_
      refine lv_iconst (v := 0) hx hb dX6_ask_108 (by decide) ?_
      refine lv_aload hx hb dX6_ask_109 (lv_at hl 0 rfl) ?_
      refine lv_aload hx hb dX6_ask_111 (lv_at hl 1 rfl) ?_
      refine gN_Asker_sets hx hb hts hX0 hown hK.1 hW rfl (by first | assumption | omega | exact Nat.zero_lt_one | decide) (hK.2 _ (List.mem_of_getElem? (i := 6) rfl)) dX6_ask_113 ?_
      refine lv_iconst (v := 0) hx hb dX6_ask_116 (by decide) ?_
      refine gl_sets hx hb hK.1 hW rfl ha (vp_in_nI (n := 0) (by decide) (by decide)) dX6_ask_117 ?_
      rw [show cE zq 0 a (Int32.toNatClampNeg 0) = cE z 0 a 0 from hE9]
      refine lv_aload_n hx hb dX6_ask_118 rfl (lv_at hl 2 rfl) ?_
      refine g_SharedRegisters_absent hx hb hts hX6 hown hK.1 hW rfl (by first | assumption | omega | exact Nat.zero_lt_one | decide) (hts (.fieldLink RX6 12 "SharedRegisters" "absent" "LSharedRegisters$State;") (by decide +kernel)) dX6_ask_119 ?_
      refine cc0 (va_runV (As := [.int 0, .ref (cA zq 3 (cNr z)), .int (cE z 0 a 0), .ref (cA zq 5 0)]) (rest := []) ⟨hx, hb, hml, hown, hts⟩ (m_sendToSet l D y zq _ 0 (cNr z) (cE z 0 a 0) 0 n (by rw [hN9]; exact Nat.lt_succ_self _) hrow9) (cwV 4 hts gX6_ask_X6_sendToSet rfl rfl rfl (by decide +kernel) ⟨Nat.le_of_ble_eq_true rfl, Nat.le_of_ble_eq_true rfl⟩) (cPreV (k := 6) (q := (RX6, TX6, 7)) hW hK (show 0 < 1 from Nat.zero_lt_one) rfl rfl [.int 0, .ref (cA zq 3 (cNr z)), .int (cE z 0 a 0), .ref (cA zq 5 0)]) rfl rfl hl.1 rfl (lv_room (Nat.le_of_ble_eq_true rfl)) dX6_ask_122 ⟨Nat.le_of_ble_eq_true rfl, Nat.le_of_ble_eq_true rfl⟩) hW hS hA (fun u122 H locs hu122 hW hS => ?_)
      have hAu : cA u122 = cA zq := by rw [hu122]; exact fSet_cA _ _ _ _ _ _ _
      have hNu : cNr z < cNr u122 := by rw [hu122, fSet_cNr, hN9]; exact Nat.lt_succ_self _
      refine lv_aload hx hb dX6_ask_125 (lv_at hl 0 rfl) ?_
      refine gN_Request_number hx hb hts hX3 hown hK.1 hW (by rw [hAu]) (by first | assumption | omega | exact Nat.zero_lt_one | decide) (hK.2 _ (List.mem_of_getElem? (i := 28) rfl)) dX6_ask_127 ?_
      refine vx_ret ?_
      refine W.widen (k := 4) (n := 33) (Nat.le_of_ble_eq_true rfl) (Nat.le_of_ble_eq_true rfl) ?_
      refine W.iret hx hb hr ?_ hS.2.2 dX6_ask_130
      refine cq1 ?_ hW hS
      exact ⟨a, k, ha, hk, rfl, rfl, hR14, Or.inr ⟨hc, hnr, q, rfl, by rw [hzq]; exact hu122⟩⟩
    · refine lv_iconst (v := (-1)) hx hb dX6_ask_43 (by decide) ?_
      refine vx_ret ?_
      refine W.widen (k := 4) (n := 33) (Nat.le_of_ble_eq_true rfl) (Nat.le_of_ble_eq_true rfl) ?_
      refine W.iret hx hb hr ?_ hS.2.2 dX6_ask_44
      refine cq1 ?_ hW hS
      exact ⟨a, k, ha, hk, rfl, rfl, hR14, Or.inl ⟨Or.inr (fun h9 => c_40 (nI_lt (b := 200) h9 (by decide))), rfl, rfl⟩⟩
  | some r =>
    refine lv_aload hx hb dX6_ask_25 (lv_at hl 0 rfl) ?_
    refine gN_Asker_current_s hx hb hts hX0 hown hK.1 hW rfl hc (by first | assumption | omega | exact Nat.zero_lt_one | decide) (hK.2 _ (List.mem_of_getElem? (i := 11) rfl)) dX6_ask_27 ?_
    refine lv_ifnonnull (tgt := 43) hx hb dX6_ask_30 (by decide) ?_
    refine lv_iconst (v := (-1)) hx hb dX6_ask_43 (by decide) ?_
    refine vx_ret ?_
    refine W.widen (k := 4) (n := 33) (Nat.le_of_ble_eq_true rfl) (Nat.le_of_ble_eq_true rfl) ?_
    refine W.iret hx hb hr ?_ hS.2.2 dX6_ask_44
    refine cq1 ?_ hW hS
    exact ⟨a, k, ha, hk, rfl, rfl, hR14, Or.inl ⟨Or.inl (fun e9 => by rw [hc] at e9; cases e9), rfl, rfl⟩⟩
