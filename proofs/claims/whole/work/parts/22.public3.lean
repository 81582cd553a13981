def askVal (z : CS) (a w : Nat) : Int32 := match w with
  | 0 => cI z 3 a
  | 1 => (match cR z 1 a with
    | none => -1
    | some r => cI z 12 r)
  | 2 => (match cR z 1 a with
    | none => 0
    | some r => if cI z 20 r = 0 then 0 else 1)
  | _ => (match cR z 1 a with
    | none => 0
    | some r => fBC (cI z 21 r))
set_option maxHeartbeats 4000000 in
set_option maxRecDepth 100000 in
theorem m_asker (l : Launch) (hl0 : l.stackTraces = false) (D : va_G) (y : Nat → ClassId) (z : CS) (sz : Nat) (i wh : Int32) (hcr : ∀ a r, cR z 1 a = some r → r < cNr z) : vx_Met l yX6_asker wsX6_asker ({ frames := 7, cells := 2, slots := 12, locals := 105 }) (va_Pc [.ref (cA z 6 0), .int i, .int wh] (cPreX D y z sz)) (cQ1 D y z sz (fun v u => ∃ a w, a < 4 ∧ w < 4 ∧ i = nI a ∧ wh = nI w ∧ v = .int (askVal z a w) ∧ u = z)) (cX D y z sz (fun E => E = cI_ ∧ ¬ (inR i 4 ∧ inR wh 4))) 2 12 (cF z sz) := by
  refine vx_ofW (cc := cX6_asker) (maxL := 4) (ret := (some .int)) (by decide) rfl ?_
  intro p e s m args below meth c s₁ B hml hnt hv
  obtain ⟨rfl, hsz, hW0, hK, hZ⟩ := hv
  have hx := B.exec
  have hb := B.bytes
  have hr := B.returns
  have hts := atoms_spec (ws := wsX6_asker) B.pre
  have hown : s.vm.findClass RX6 = some m.cls := findClass_of_methodNamed B.named
  have hlocks := B.notSynchronized
  subst hsz
  have hW := hW0.self (sz := s.heap.size)
  have hA : ∀ q, s.heap.size ≤ q → cF z s.heap.size q := fun q h => Or.inr h
  have hS : va_S (cF z s.heap.size) s.heap s.heap [] := va_S.rf
  have hl := lv_entry ([.ref (cA z 6 0), .int i, .int wh]) (n := 4) (Nat.le_of_ble_eq_true rfl)
  rw [lg_entry_eq]
  generalize (lg_sl ([.ref (cA z 6 0), .int i, .int wh]) ++ List.replicate (4 - (lg_sl ([.ref (cA z 6 0), .int i, .int wh])).length) Slot.unset).toArray = ls at hl ⊢
  have hl : lv_has ls 4 [(0, .ref (cA z 6 0)), (1, .int i), (2, .int wh)] := hl
  have hX6 : ∀ w ∈ wsX60, w ∈ wsX6_asker := by decide +kernel
  have hX0 : ∀ w ∈ wsX00, w ∈ wsX6_asker := by decide +kernel
  have hX3 : ∀ w ∈ wsX30, w ∈ wsX6_asker := by decide +kernel
  refine lv_iload_n hx hb dX6_asker_0 rfl (lv_at hl 1 rfl) ?_
  refine lv_iconst (v := 4) hx hb dX6_asker_1 (by decide) ?_
  refine cx0 (vx_runS (As := [.int (i), .int (4)]) (rest := []) ⟨hx, hb, hml, hown, hts⟩ (m_needIndex l hl0 D y z _ (i) (4)) (va_cwS 2 hts gX6_asker_X6_needIndex rfl rfl rfl (by decide +kernel) ⟨Nat.le_of_ble_eq_true rfl, Nat.le_of_ble_eq_true rfl⟩) (cPreSX hW hK hZ hS hA [.int (i), .int (4)]) rfl rfl hl.1 rfl (lv_room (Nat.le_of_ble_eq_true rfl)) dX6_asker_2 ⟨Nat.le_of_ble_eq_true rfl, Nat.le_of_ble_eq_true rfl⟩) hW hS hA (fun E ce q9 H locs hpx hW hS h1 h2 h3 => cxo hnt hlocks (⟨hpx.1, fun q => hpx.2 q.1⟩) hW hS h1 h2 h3 (Nat.le_of_ble_eq_true rfl) (Nat.le_of_ble_eq_true rfl)) (fun u2 H locs hu2 hW hS => ?_)
  obtain ⟨f2, hR2⟩ := hu2
  replace f2 := f2.symm
  subst f2
  obtain ⟨a, ha, rfl⟩ := inR_nat (n := 4) hR2 (by decide)
  cases hc : cR z 1 a with
  | none =>
    refine lv_aload_n hx hb dX6_asker_5 rfl (lv_at hl 0 rfl) ?_
    refine g_SharedRegisters_askers hx hb hts hX6 hown hK.1 hW rfl (by first | assumption | omega | exact Nat.zero_lt_one | decide) (hts (.fieldLink RX6 33 "SharedRegisters" "askers" "[LSharedRegisters$Asker;") (by decide +kernel)) dX6_asker_6 ?_
    refine lv_iload_n hx hb dX6_asker_9 rfl (lv_at hl 1 rfl) ?_
    refine al_askers hx hb hK.1 hW rfl (vp_in_nI ha (by decide)) dX6_asker_10 ?_
    rw [nI_clamp (show a < 2 ^ 31 by omega)]
    refine gN_Asker_current_n hx hb hts hX0 hown hK.1 hW rfl hc (by first | assumption | omega | exact Nat.zero_lt_one | decide) (hK.2 _ (List.mem_of_getElem? (i := 11) rfl)) dX6_asker_11 ?_
    refine lv_astore_nN (lv' := [(3, _), (0, _), (1, _), (2, _)]) hx hb dX6_asker_14 rfl hl (by decide) rfl (fun ls hl => ?_)
    refine lv_iload_n hx hb dX6_asker_15 rfl (lv_at hl 3 rfl) ?_
    by_cases hyes : inR wh 4
    · obtain ⟨w9, hw9, rfl⟩ := inR_nat (n := 4) hyes (by decide)
      rcases (show w9 = 0 ∨ w9 = 1 ∨ w9 = 2 ∨ w9 = 3 by omega) with rfl | rfl | rfl | rfl
      · refine lv_tableIn (off := 32) (tgt := 48) hx hb dX6_asker_16 (by decide) (by decide) (by decide) (by decide) ?_
        refine lv_aload_n hx hb dX6_asker_48 rfl (lv_at hl 1 rfl) ?_
        refine g_SharedRegisters_askers hx hb hts hX6 hown hK.1 hW rfl (by first | assumption | omega | exact Nat.zero_lt_one | decide) (hts (.fieldLink RX6 33 "SharedRegisters" "askers" "[LSharedRegisters$Asker;") (by decide +kernel)) dX6_asker_49 ?_
        refine lv_iload_n hx hb dX6_asker_52 rfl (lv_at hl 2 rfl) ?_
        refine al_askers hx hb hK.1 hW rfl (vp_in_nI ha (by decide)) dX6_asker_53 ?_
        rw [nI_clamp (show a < 2 ^ 31 by omega)]
        refine gN_Asker_count hx hb hts hX0 hown hK.1 hW rfl (by first | assumption | omega | exact Nat.zero_lt_one | decide) (hK.2 _ (List.mem_of_getElem? (i := 10) rfl)) dX6_asker_54 ?_
        refine vx_ret ?_
        refine W.widen (k := 2) (n := 12) (Nat.le_of_ble_eq_true rfl) (Nat.le_of_ble_eq_true rfl) ?_
        refine W.iret hx hb hr ?_ hS.2.2 dX6_asker_57
        refine cq1 ?_ hW hS
        exact ⟨a, 0, ha, by decide, rfl, rfl, by simp [askVal, hc], rfl⟩
      · refine lv_tableIn (off := 42) (tgt := 58) hx hb dX6_asker_16 (by decide) (by decide) (by decide) (by decide) ?_
        refine lv_aload_nN hx hb dX6_asker_58 rfl (lv_at hl 0 rfl) ?_
        refine lv_ifnonnullN hx hb dX6_asker_59 ?_
        refine lv_iconst (v := (-1)) hx hb dX6_asker_62 (by decide) ?_
        refine lv_goto (tgt := 70) hx hb dX6_asker_63 (by decide) ?_
        refine vx_ret ?_
        refine W.widen (k := 2) (n := 12) (Nat.le_of_ble_eq_true rfl) (Nat.le_of_ble_eq_true rfl) ?_
        refine W.iret hx hb hr ?_ hS.2.2 dX6_asker_70
        refine cq1 ?_ hW hS
        exact ⟨a, 1, ha, by decide, rfl, rfl, by simp [askVal, hc], rfl⟩
      · refine lv_tableIn (off := 55) (tgt := 71) hx hb dX6_asker_16 (by decide) (by decide) (by decide) (by decide) ?_
        refine lv_aload_nN hx hb dX6_asker_71 rfl (lv_at hl 0 rfl) ?_
        refine lv_ifnullN (tgt := 86) hx hb dX6_asker_72 (by decide) ?_
        refine lv_iconst (v := 0) hx hb dX6_asker_86 (by decide) ?_
        refine vx_ret ?_
        refine W.widen (k := 2) (n := 12) (Nat.le_of_ble_eq_true rfl) (Nat.le_of_ble_eq_true rfl) ?_
        refine W.iret hx hb hr ?_ hS.2.2 dX6_asker_87
        refine cq1 ?_ hW hS
        exact ⟨a, 2, ha, by decide, rfl, rfl, by simp [askVal, hc], rfl⟩
      · refine lv_tableIn (off := 72) (tgt := 88) hx hb dX6_asker_16 (by decide) (by decide) (by decide) (by decide) ?_
        refine lv_aload_nN hx hb dX6_asker_88 rfl (lv_at hl 0 rfl) ?_
        refine lv_ifnonnullN hx hb dX6_asker_89 ?_
        refine lv_iconst (v := 0) hx hb dX6_asker_92 (by decide) ?_
        refine lv_goto (tgt := 100) hx hb dX6_asker_93 (by decide) ?_
        refine vx_ret ?_
        refine W.widen (k := 2) (n := 12) (Nat.le_of_ble_eq_true rfl) (Nat.le_of_ble_eq_true rfl) ?_
        refine W.iret hx hb hr ?_ hS.2.2 dX6_asker_100
        refine cq1 ?_ hW hS
        exact ⟨a, 3, ha, by decide, rfl, rfl, by simp [askVal, hc], rfl⟩
    · have hno : ¬ inR wh 4 := hyes
      refine lv_tableOut (tgt := 101) hx hb dX6_asker_16 (sw_out (n := 4) hno (by decide)) (by decide) ?_
      obtain ⟨sa9, hsa9⟩ := hZ.2.1 _ (List.mem_of_getElem? (i := 2) rfl)
      exact vx_throwS (names := ["java/lang/RuntimeException", "java/lang/Exception"]) hx hb hl0 hown (by decide) (by decide) (hts (.classLink RX6 152 "java/lang/IndexOutOfBoundsException") (by decide +kernel)) (hts (.initialized "java/lang/IndexOutOfBoundsException") (by decide +kernel)) hsa9 (thI_at hZ (fun w9 hw9 => hts w9 (List.mem_cons_of_mem _ (List.mem_append_right _ hw9)))) thI_ot hZ.2.2.1 hZ.2.2.2 hS (by rw [hml]; exact hl.1) dX6_asker_101 dX6_asker_104 dX6_asker_105 dX6_asker_107 dX6_asker_110 (fun x9 hx9 => (hnt x9 hx9).elim) (Nat.le_of_ble_eq_true rfl) (Nat.le_of_ble_eq_true rfl) (Nat.le_of_ble_eq_true rfl) (Nat.le_of_ble_eq_true rfl) hlocks (fun t ht1 ht2 ht3 => ⟨⟨rfl, fun q9 => hno q9.2⟩, cw.grow hW ht3, va_Sgrow hS ht2 ht3⟩) hS.2.2 (Nat.le_of_ble_eq_true rfl) (Nat.le_of_ble_eq_true rfl)
  | some r =>
    have hr0 : r < cNr z := hcr a r hc
    refine lv_aload_n hx hb dX6_asker_5 rfl (lv_at hl 0 rfl) ?_
    refine g_SharedRegisters_askers hx hb hts hX6 hown hK.1 hW rfl (by first | assumption | omega | exact Nat.zero_lt_one | decide) (hts (.fieldLink RX6 33 "SharedRegisters" "askers" "[LSharedRegisters$Asker;") (by decide +kernel)) dX6_asker_6 ?_
    refine lv_iload_n hx hb dX6_asker_9 rfl (lv_at hl 1 rfl) ?_
    refine al_askers hx hb hK.1 hW rfl (vp_in_nI ha (by decide)) dX6_asker_10 ?_
    rw [nI_clamp (show a < 2 ^ 31 by omega)]
    refine gN_Asker_current_s hx hb hts hX0 hown hK.1 hW rfl hc (by first | assumption | omega | exact Nat.zero_lt_one | decide) (hK.2 _ (List.mem_of_getElem? (i := 11) rfl)) dX6_asker_11 ?_
    refine lv_astore_n (lv' := [(3, _), (0, _), (1, _), (2, _)]) hx hb dX6_asker_14 rfl hl (by decide) rfl (fun ls hl => ?_)
    refine lv_iload_n hx hb dX6_asker_15 rfl (lv_at hl 3 rfl) ?_
    by_cases hyes : inR wh 4
    · obtain ⟨w9, hw9, rfl⟩ := inR_nat (n := 4) hyes (by decide)
      rcases (show w9 = 0 ∨ w9 = 1 ∨ w9 = 2 ∨ w9 = 3 by omega) with rfl | rfl | rfl | rfl
      · refine lv_tableIn (off := 32) (tgt := 48) hx hb dX6_asker_16 (by decide) (by decide) (by decide) (by decide) ?_
        refine lv_aload_n hx hb dX6_asker_48 rfl (lv_at hl 1 rfl) ?_
        refine g_SharedRegisters_askers hx hb hts hX6 hown hK.1 hW rfl (by first | assumption | omega | exact Nat.zero_lt_one | decide) (hts (.fieldLink RX6 33 "SharedRegisters" "askers" "[LSharedRegisters$Asker;") (by decide +kernel)) dX6_asker_49 ?_
        refine lv_iload_n hx hb dX6_asker_52 rfl (lv_at hl 2 rfl) ?_
        refine al_askers hx hb hK.1 hW rfl (vp_in_nI ha (by decide)) dX6_asker_53 ?_
        rw [nI_clamp (show a < 2 ^ 31 by omega)]
        refine gN_Asker_count hx hb hts hX0 hown hK.1 hW rfl (by first | assumption | omega | exact Nat.zero_lt_one | decide) (hK.2 _ (List.mem_of_getElem? (i := 10) rfl)) dX6_asker_54 ?_
        refine vx_ret ?_
        refine W.widen (k := 2) (n := 12) (Nat.le_of_ble_eq_true rfl) (Nat.le_of_ble_eq_true rfl) ?_
        refine W.iret hx hb hr ?_ hS.2.2 dX6_asker_57
        refine cq1 ?_ hW hS
        exact ⟨a, 0, ha, by decide, rfl, rfl, by simp [askVal, hc], rfl⟩
      · refine lv_tableIn (off := 42) (tgt := 58) hx hb dX6_asker_16 (by decide) (by decide) (by decide) (by decide) ?_
        refine lv_aload_n hx hb dX6_asker_58 rfl (lv_at hl 0 rfl) ?_
        refine lv_ifnonnull (tgt := 66) hx hb dX6_asker_59 (by decide) ?_
        refine lv_aload_n hx hb dX6_asker_66 rfl (lv_at hl 0 rfl) ?_
        refine gN_Request_number hx hb hts hX3 hown hK.1 hW rfl (by first | assumption | omega | exact Nat.zero_lt_one | decide) (hK.2 _ (List.mem_of_getElem? (i := 28) rfl)) dX6_asker_67 ?_
        refine vx_ret ?_
        refine W.widen (k := 2) (n := 12) (Nat.le_of_ble_eq_true rfl) (Nat.le_of_ble_eq_true rfl) ?_
        refine W.iret hx hb hr ?_ hS.2.2 dX6_asker_70
        refine cq1 ?_ hW hS
        exact ⟨a, 1, ha, by decide, rfl, rfl, by simp [askVal, hc], rfl⟩
      · refine lv_tableIn (off := 55) (tgt := 71) hx hb dX6_asker_16 (by decide) (by decide) (by decide) (by decide) ?_
        refine lv_aload_n hx hb dX6_asker_71 rfl (lv_at hl 0 rfl) ?_
        refine lv_ifnull hx hb dX6_asker_72 ?_
        refine lv_aload_n hx hb dX6_asker_75 rfl (lv_at hl 0 rfl) ?_
        refine gN_Request_accepting hx hb hts hX3 hown hK.1 hW rfl (by first | assumption | omega | exact Nat.zero_lt_one | decide) (hK.2 _ (List.mem_of_getElem? (i := 35) rfl)) dX6_asker_76 ?_
        refine lv_if_eq (tgt := 86) hx hb dX6_asker_79 (by decide) (fun c_79 => ?_) (fun c_79 => ?_)
        · refine lv_iconst (v := 0) hx hb dX6_asker_86 (by decide) ?_
          refine vx_ret ?_
          refine W.widen (k := 2) (n := 12) (Nat.le_of_ble_eq_true rfl) (Nat.le_of_ble_eq_true rfl) ?_
          refine W.iret hx hb hr ?_ hS.2.2 dX6_asker_87
          refine cq1 ?_ hW hS
          exact ⟨a, 2, ha, by decide, rfl, rfl, by simp [askVal, hc, c_79], rfl⟩
        · refine lv_iconst (v := 1) hx hb dX6_asker_82 (by decide) ?_
          refine lv_goto (tgt := 87) hx hb dX6_asker_83 (by decide) ?_
          refine vx_ret ?_
          refine W.widen (k := 2) (n := 12) (Nat.le_of_ble_eq_true rfl) (Nat.le_of_ble_eq_true rfl) ?_
          refine W.iret hx hb hr ?_ hS.2.2 dX6_asker_87
          refine cq1 ?_ hW hS
          exact ⟨a, 2, ha, by decide, rfl, rfl, by simp [askVal, hc, c_79], rfl⟩
      · refine lv_tableIn (off := 72) (tgt := 88) hx hb dX6_asker_16 (by decide) (by decide) (by decide) (by decide) ?_
        refine lv_aload_n hx hb dX6_asker_88 rfl (lv_at hl 0 rfl) ?_
        refine lv_ifnonnull (tgt := 96) hx hb dX6_asker_89 (by decide) ?_
        refine lv_aload_n hx hb dX6_asker_96 rfl (lv_at hl 0 rfl) ?_
        refine cc1 (va_runVN (As := []) (rest := []) ⟨hx, hb, hml, hown, hts⟩ (m_Request_answers l D y z _ r hr0) ⟨(va_cnB 0 hts gX6_asker_X3_answers_n174 rfl rfl rfl (hK.2 _ (List.mem_of_getElem? (i := 51) rfl)) (hts (.initialized RX3) (by decide +kernel)) (by decide +kernel) ⟨Nat.le_of_ble_eq_true rfl, Nat.le_of_ble_eq_true rfl⟩), hts (.instanceMethod yX3_answers) (by decide +kernel), hts (.selects RX3 yX3_answers yX3_answers) (by decide +kernel)⟩ (cPreV (k := 3) (q := (RX3, TX3, 15)) hW hK hr0 rfl rfl []) rfl rfl hl.1 rfl (lv_room (Nat.le_of_ble_eq_true rfl)) dX6_asker_97 ⟨Nat.le_of_ble_eq_true rfl, Nat.le_of_ble_eq_true rfl⟩) hW hS hA (fun v97 u97 H locs hu97 hW hS => ?_)
        obtain ⟨rfl, f97⟩ := hu97
        replace f97 := f97.symm
        subst f97
        refine vx_ret ?_
        refine W.widen (k := 2) (n := 12) (Nat.le_of_ble_eq_true rfl) (Nat.le_of_ble_eq_true rfl) ?_
        refine W.iret hx hb hr ?_ hS.2.2 dX6_asker_100
        refine cq1 ?_ hW hS
        exact ⟨a, 3, ha, by decide, rfl, rfl, by simp [askVal, hc], rfl⟩
    · have hno : ¬ inR wh 4 := hyes
      refine lv_tableOut (tgt := 101) hx hb dX6_asker_16 (sw_out (n := 4) hno (by decide)) (by decide) ?_
      obtain ⟨sa9, hsa9⟩ := hZ.2.1 _ (List.mem_of_getElem? (i := 2) rfl)
      exact vx_throwS (names := ["java/lang/RuntimeException", "java/lang/Exception"]) hx hb hl0 hown (by decide) (by decide) (hts (.classLink RX6 152 "java/lang/IndexOutOfBoundsException") (by decide +kernel)) (hts (.initialized "java/lang/IndexOutOfBoundsException") (by decide +kernel)) hsa9 (thI_at hZ (fun w9 hw9 => hts w9 (List.mem_cons_of_mem _ (List.mem_append_right _ hw9)))) thI_ot hZ.2.2.1 hZ.2.2.2 hS (by rw [hml]; exact hl.1) dX6_asker_101 dX6_asker_104 dX6_asker_105 dX6_asker_107 dX6_asker_110 (fun x9 hx9 => (hnt x9 hx9).elim) (Nat.le_of_ble_eq_true rfl) (Nat.le_of_ble_eq_true rfl) (Nat.le_of_ble_eq_true rfl) (Nat.le_of_ble_eq_true rfl) hlocks (fun t ht1 ht2 ht3 => ⟨⟨rfl, fun q9 => hno q9.2⟩, cw.grow hW ht3, va_Sgrow hS ht2 ht3⟩) hS.2.2 (Nat.le_of_ble_eq_true rfl) (Nat.le_of_ble_eq_true rfl)
set_option maxHeartbeats 4000000 in
set_option maxRecDepth 100000 in
theorem m_requestAt (l : Launch) (hl0 : l.stackTraces = false) (D : va_G) (y : Nat → ClassId) (z : CS) (sz : Nat) (i : Int32) (h28 : cI z 28 0 = nI (cNr z)) (h200 : cNr z ≤ 200) (h6 : ∀ r, r < cNr z → cR z 6 r = some r) : vx_Met l yX6_requestAt wsX6_requestAt ({ frames := 7, cells := 2, slots := 12, locals := 105 }) (va_Pc [.ref (cA z 6 0), .int i] (cPreX D y z sz)) (cQ1 D y z sz (fun v u => ∃ r, r < cNr z ∧ i = nI r ∧ v = .ref (cA z 3 r) ∧ u = z)) (cX D y z sz (fun E => E = cI_ ∧ ¬ inR i (nI (cNr z)))) 2 12 (cF z sz) := by
  refine vx_ofW (cc := cX6_requestAt) (maxL := 3) (ret := (some (.object "SharedRegisters$Request"))) (by decide) rfl ?_
  intro p e s m args below meth c s₁ B hml hnt hv
  obtain ⟨rfl, hsz, hW0, hK, hZ⟩ := hv
  have hx := B.exec
  have hb := B.bytes
  have hr := B.returns
  have hts := atoms_spec (ws := wsX6_requestAt) B.pre
  have hown : s.vm.findClass RX6 = some m.cls := findClass_of_methodNamed B.named
  have hlocks := B.notSynchronized
  subst hsz
  have hW := hW0.self (sz := s.heap.size)
  have hA : ∀ q, s.heap.size ≤ q → cF z s.heap.size q := fun q h => Or.inr h
  have hS : va_S (cF z s.heap.size) s.heap s.heap [] := va_S.rf
  have hl := lv_entry ([.ref (cA z 6 0), .int i]) (n := 3) (Nat.le_of_ble_eq_true rfl)
  rw [lg_entry_eq]
  generalize (lg_sl ([.ref (cA z 6 0), .int i]) ++ List.replicate (3 - (lg_sl ([.ref (cA z 6 0), .int i])).length) Slot.unset).toArray = ls at hl ⊢
  have hl : lv_has ls 3 [(0, .ref (cA z 6 0)), (1, .int i)] := hl
  have hX6 : ∀ w ∈ wsX60, w ∈ wsX6_requestAt := by decide +kernel
  refine lv_iload_n hx hb dX6_requestAt_0 rfl (lv_at hl 1 rfl) ?_
  refine lv_aload_n hx hb dX6_requestAt_1 rfl (lv_at hl 0 rfl) ?_
  refine g_SharedRegisters_requestCount hx hb hts hX6 hown hK.1 hW rfl (by first | assumption | omega | exact Nat.zero_lt_one | decide) (hts (.fieldLink RX6 53 "SharedRegisters" "requestCount" "I") (by decide +kernel)) dX6_requestAt_2 ?_
  rw [h28]
  refine cx0 (vx_runS (As := [.int (i), .int (nI (cNr z))]) (rest := []) ⟨hx, hb, hml, hown, hts⟩ (m_needIndex l hl0 D y z _ (i) (nI (cNr z))) (va_cwS 2 hts gX6_requestAt_X6_needIndex rfl rfl rfl (by decide +kernel) ⟨Nat.le_of_ble_eq_true rfl, Nat.le_of_ble_eq_true rfl⟩) (cPreSX hW hK hZ hS hA [.int (i), .int (nI (cNr z))]) rfl rfl hl.1 rfl (lv_room (Nat.le_of_ble_eq_true rfl)) dX6_requestAt_5 ⟨Nat.le_of_ble_eq_true rfl, Nat.le_of_ble_eq_true rfl⟩) hW hS hA (fun E ce q9 H locs hpx hW hS h1 h2 h3 => cxo hnt hlocks (hpx) hW hS h1 h2 h3 (Nat.le_of_ble_eq_true rfl) (Nat.le_of_ble_eq_true rfl)) (fun u5 H locs hu5 hW hS => ?_)
  obtain ⟨f5, hR5⟩ := hu5
  replace f5 := f5.symm
  subst f5
  obtain ⟨r, hr0, rfl⟩ := inR_nat hR5 (by omega)
  refine lv_aload_n hx hb dX6_requestAt_8 rfl (lv_at hl 0 rfl) ?_
  refine g_SharedRegisters_requests hx hb hts hX6 hown hK.1 hW rfl (by first | assumption | omega | exact Nat.zero_lt_one | decide) (hts (.fieldLink RX6 42 "SharedRegisters" "requests" "[LSharedRegisters$Request;") (by decide +kernel)) dX6_requestAt_9 ?_
  refine lv_iload_n hx hb dX6_requestAt_12 rfl (lv_at hl 1 rfl) ?_
  refine al_requests_s hx hb hK.1 hW rfl (st := r) (by rw [nI_clamp (show r < 2 ^ 31 by omega)]; exact h6 r hr0) (vp_in_nI (by omega) (by decide)) dX6_requestAt_13 ?_
  refine lv_astore_n (lv' := [(2, _), (0, _), (1, _)]) hx hb dX6_requestAt_14 rfl hl (by decide) rfl (fun ls hl => ?_)
  refine lv_aload_n hx hb dX6_requestAt_15 rfl (lv_at hl 0 rfl) ?_
  refine lv_ifnonnull (tgt := 29) hx hb dX6_requestAt_16 (by decide) ?_
  refine lv_aload_n hx hb dX6_requestAt_29 rfl (lv_at hl 0 rfl) ?_
  refine vx_ret ?_
  refine W.widen (k := 2) (n := 12) (Nat.le_of_ble_eq_true rfl) (Nat.le_of_ble_eq_true rfl) ?_
  refine W.aret hx hb hr (Or.inl ⟨_, rfl⟩) (Or.inr ⟨_, rfl⟩) ?_ hS.2.2 dX6_requestAt_30
  refine cq1 ?_ hW hS
  exact ⟨r, hr0, rfl, rfl, rfl⟩
def reqVal (z : CS) (r st w : Nat) : Int32 := match w with
  | 0 => cI z 24 r
  | 1 => if cI z 24 r = 1 then (if cI z 23 r = 0 then 0 else 1) else 0
  | 2 => if cI z 24 r = 1 then (if cI z 26 st = 0 then -1 else cI z 27 st) else -1
  | _ => cI z 16 r
set_option maxHeartbeats 4000000 in
set_option maxRecDepth 100000 in
theorem m_request (l : Launch) (hl0 : l.stackTraces = false) (D : va_G) (y : Nat → ClassId) (z : CS) (sz : Nat) (i wh : Int32) (h28 : cI z 28 0 = nI (cNr z)) (h200 : cNr z ≤ 200) (h6 : ∀ r, r < cNr z → cR z 6 r = some r) (hI : cInv z) : vx_Met l yX6_request wsX6_request ({ frames := 8, cells := 3, slots := 18, locals := 130 }) (va_Pc [.ref (cA z 6 0), .int i, .int wh] (cPreX D y z sz)) (cQ1 D y z sz (fun v u => ∃ r st w, r < cNr z ∧ w < 4 ∧ i = nI r ∧ wh = nI w ∧ cR z 3 r = some st ∧ v = .int (reqVal z r st w) ∧ u = z)) (cX D y z sz (fun E => E = cI_ ∧ ¬ (inR i (nI (cNr z)) ∧ inR wh 4))) 3 18 (cF z sz) := by
  refine vx_ofW (cc := cX6_request) (maxL := 4) (ret := (some .int)) (by decide) rfl ?_
  intro p e s m args below meth c s₁ B hml hnt hv
  obtain ⟨rfl, hsz, hW0, hK, hZ⟩ := hv
  have hx := B.exec
  have hb := B.bytes
  have hr := B.returns
  have hts := atoms_spec (ws := wsX6_request) B.pre
  have hown : s.vm.findClass RX6 = some m.cls := findClass_of_methodNamed B.named
  have hlocks := B.notSynchronized
  subst hsz
  have hW := hW0.self (sz := s.heap.size)
  have hA : ∀ q, s.heap.size ≤ q → cF z s.heap.size q := fun q h => Or.inr h
  have hS : va_S (cF z s.heap.size) s.heap s.heap [] := va_S.rf
  have hl := lv_entry ([.ref (cA z 6 0), .int i, .int wh]) (n := 4) (Nat.le_of_ble_eq_true rfl)
  rw [lg_entry_eq]
  generalize (lg_sl ([.ref (cA z 6 0), .int i, .int wh]) ++ List.replicate (4 - (lg_sl ([.ref (cA z 6 0), .int i, .int wh])).length) Slot.unset).toArray = ls at hl ⊢
  have hl : lv_has ls 4 [(0, .ref (cA z 6 0)), (1, .int i), (2, .int wh)] := hl
  have hX6 : ∀ w ∈ wsX60, w ∈ wsX6_request := by decide +kernel
  have hX3 : ∀ w ∈ wsX30, w ∈ wsX6_request := by decide +kernel
  have hX5 : ∀ w ∈ wsX50, w ∈ wsX6_request := by decide +kernel
  refine lv_aload_n hx hb dX6_request_0 rfl (lv_at hl 0 rfl) ?_
  refine lv_iload_n hx hb dX6_request_1 rfl (lv_at hl 1 rfl) ?_
  refine cx1 (vx_runV (As := [.int i]) (rest := []) ⟨hx, hb, hml, hown, hts⟩ (m_requestAt l hl0 D y z _ i h28 h200 h6) (cwV 1 hts gX6_request_X6_requestAt rfl rfl rfl (by decide +kernel) ⟨Nat.le_of_ble_eq_true rfl, Nat.le_of_ble_eq_true rfl⟩) (cPreVX (k := 6) (q := (RX6, TX6, 7)) hW hK hZ hS hA (show 0 < 1 from Nat.zero_lt_one) rfl rfl [.int i]) rfl rfl hl.1 rfl (lv_room (Nat.le_of_ble_eq_true rfl)) dX6_request_2 ⟨Nat.le_of_ble_eq_true rfl, Nat.le_of_ble_eq_true rfl⟩) hW hS hA (fun E ce q9 H locs hpx hW hS h1 h2 h3 => cxo hnt hlocks (⟨hpx.1, fun q => hpx.2 q.1⟩) hW hS h1 h2 h3 (Nat.le_of_ble_eq_true rfl) (Nat.le_of_ble_eq_true rfl)) (fun v2 u2 H locs hu2 hW hS => ?_)
  obtain ⟨r, hr0, rfl, rfl, f2⟩ := hu2
  replace f2 := f2.symm
  subst f2
  obtain ⟨-, st, hst0, hst⟩ := hI.2.2 r hr0
  refine lv_astore_n (lv' := [(3, _), (0, _), (1, _), (2, _)]) hx hb dX6_request_5 rfl hl (by decide) rfl (fun ls hl => ?_)
  refine lv_iload_n hx hb dX6_request_6 rfl (lv_at hl 3 rfl) ?_
  by_cases hyes : inR wh 4
  · obtain ⟨w9, hw9, rfl⟩ := inR_nat (n := 4) hyes (by decide)
    rcases (show w9 = 0 ∨ w9 = 1 ∨ w9 = 2 ∨ w9 = 3 by omega) with rfl | rfl | rfl | rfl
    · refine lv_tableIn (off := 29) (tgt := 36) hx hb dX6_request_7 (by decide) (by decide) (by decide) (by decide) ?_
      refine lv_aload_n hx hb dX6_request_36 rfl (lv_at hl 0 rfl) ?_
      refine gN_Request_ending hx hb hts hX3 hown hK.1 hW rfl (by first | assumption | omega | exact Nat.zero_lt_one | decide) (hK.2 _ (List.mem_of_getElem? (i := 38) rfl)) dX6_request_37 ?_
      refine vx_ret ?_
      refine W.widen (k := 3) (n := 18) (Nat.le_of_ble_eq_true rfl) (Nat.le_of_ble_eq_true rfl) ?_
      refine W.iret hx hb hr ?_ hS.2.2 dX6_request_40
      refine cq1 ?_ hW hS
      exact ⟨r, st, 0, hr0, by decide, rfl, rfl, hst, by simp [reqVal], rfl⟩
    · refine lv_tableIn (off := 34) (tgt := 41) hx hb dX6_request_7 (by decide) (by decide) (by decide) (by decide) ?_
      refine lv_aload_n hx hb dX6_request_41 rfl (lv_at hl 0 rfl) ?_
      refine gN_Request_ending hx hb hts hX3 hown hK.1 hW rfl (by first | assumption | omega | exact Nat.zero_lt_one | decide) (hK.2 _ (List.mem_of_getElem? (i := 38) rfl)) dX6_request_42 ?_
      refine lv_iconst (v := 1) hx hb dX6_request_45 (by decide) ?_
      refine lv_icmp_ne (tgt := 60) hx hb dX6_request_46 (by decide) (fun c_46 => ?_) (fun c_46 => ?_)
      · refine lv_iconst (v := 0) hx hb dX6_request_60 (by decide) ?_
        refine vx_ret ?_
        refine W.widen (k := 3) (n := 18) (Nat.le_of_ble_eq_true rfl) (Nat.le_of_ble_eq_true rfl) ?_
        refine W.iret hx hb hr ?_ hS.2.2 dX6_request_61
        refine cq1 ?_ hW hS
        exact ⟨r, st, 1, hr0, by decide, rfl, rfl, hst, by simp [reqVal, c_46], rfl⟩
      · refine lv_aload_n hx hb dX6_request_49 rfl (lv_at hl 0 rfl) ?_
        refine gN_Request_failed hx hb hts hX3 hown hK.1 hW rfl (by first | assumption | omega | exact Nat.zero_lt_one | decide) (hK.2 _ (List.mem_of_getElem? (i := 37) rfl)) dX6_request_50 ?_
        refine lv_if_eq (tgt := 60) hx hb dX6_request_53 (by decide) (fun c_53 => ?_) (fun c_53 => ?_)
        · refine lv_iconst (v := 0) hx hb dX6_request_60 (by decide) ?_
          refine vx_ret ?_
          refine W.widen (k := 3) (n := 18) (Nat.le_of_ble_eq_true rfl) (Nat.le_of_ble_eq_true rfl) ?_
          refine W.iret hx hb hr ?_ hS.2.2 dX6_request_61
          refine cq1 ?_ hW hS
          exact ⟨r, st, 1, hr0, by decide, rfl, rfl, hst, by simp [reqVal, c_46, c_53], rfl⟩
        · refine lv_iconst (v := 1) hx hb dX6_request_56 (by decide) ?_
          refine lv_goto (tgt := 61) hx hb dX6_request_57 (by decide) ?_
          refine vx_ret ?_
          refine W.widen (k := 3) (n := 18) (Nat.le_of_ble_eq_true rfl) (Nat.le_of_ble_eq_true rfl) ?_
          refine W.iret hx hb hr ?_ hS.2.2 dX6_request_61
          refine cq1 ?_ hW hS
          exact ⟨r, st, 1, hr0, by decide, rfl, rfl, hst, by simp [reqVal, c_46, c_53], rfl⟩
    · refine lv_tableIn (off := 55) (tgt := 62) hx hb dX6_request_7 (by decide) (by decide) (by decide) (by decide) ?_
      refine lv_aload_n hx hb dX6_request_62 rfl (lv_at hl 0 rfl) ?_
      refine gN_Request_ending hx hb hts hX3 hown hK.1 hW rfl (by first | assumption | omega | exact Nat.zero_lt_one | decide) (hK.2 _ (List.mem_of_getElem? (i := 38) rfl)) dX6_request_63 ?_
      refine lv_iconst (v := 1) hx hb dX6_request_66 (by decide) ?_
      refine lv_icmp_ne (tgt := 80) hx hb dX6_request_67 (by decide) (fun c_67 => ?_) (fun c_67 => ?_)
      · refine lv_iconst (v := (-1)) hx hb dX6_request_80 (by decide) ?_
        refine vx_ret ?_
        refine W.widen (k := 3) (n := 18) (Nat.le_of_ble_eq_true rfl) (Nat.le_of_ble_eq_true rfl) ?_
        refine W.iret hx hb hr ?_ hS.2.2 dX6_request_81
        refine cq1 ?_ hW hS
        exact ⟨r, st, 2, hr0, by decide, rfl, rfl, hst, by simp [reqVal, c_67], rfl⟩
      · refine lv_aload_n hx hb dX6_request_70 rfl (lv_at hl 0 rfl) ?_
        refine gN_Request_state_s hx hb hts hX3 hown hK.1 hW rfl hst (by first | assumption | omega | exact Nat.zero_lt_one | decide) (hK.2 _ (List.mem_of_getElem? (i := 36) rfl)) dX6_request_71 ?_
        refine cc1 (va_runVN (As := []) (rest := []) ⟨hx, hb, hml, hown, hts⟩ (m_State_versionOrNone l D y z _ st hst0) ⟨(va_cnB 0 hts gX6_request_X5_versionOrNone_n148 rfl rfl rfl (hK.2 _ (List.mem_of_getElem? (i := 57) rfl)) (hts (.initialized RX5) (by decide +kernel)) (by decide +kernel) ⟨Nat.le_of_ble_eq_true rfl, Nat.le_of_ble_eq_true rfl⟩), hts (.instanceMethod yX5_versionOrNone) (by decide +kernel), hts (.selects RX5 yX5_versionOrNone yX5_versionOrNone) (by decide +kernel)⟩ (cPreV (k := 5) (q := (RX5, TX5, 3)) hW hK hst0 rfl rfl []) rfl rfl hl.1 rfl (lv_room (Nat.le_of_ble_eq_true rfl)) dX6_request_74 ⟨Nat.le_of_ble_eq_true rfl, Nat.le_of_ble_eq_true rfl⟩) hW hS hA (fun v74 u74 H locs hu74 hW hS => ?_)
        obtain ⟨rfl, f74⟩ := hu74
        replace f74 := f74.symm
        subst f74
        refine lv_goto (tgt := 81) hx hb dX6_request_77 (by decide) ?_
        refine vx_ret ?_
        refine W.widen (k := 3) (n := 18) (Nat.le_of_ble_eq_true rfl) (Nat.le_of_ble_eq_true rfl) ?_
        refine W.iret hx hb hr ?_ hS.2.2 dX6_request_81
        refine cq1 ?_ hW hS
        exact ⟨r, st, 2, hr0, by decide, rfl, rfl, hst, by simp [reqVal, c_67], rfl⟩
    · refine lv_tableIn (off := 75) (tgt := 82) hx hb dX6_request_7 (by decide) (by decide) (by decide) (by decide) ?_
      refine lv_aload_n hx hb dX6_request_82 rfl (lv_at hl 0 rfl) ?_
      refine gN_Request_ballot hx hb hts hX3 hown hK.1 hW rfl (by first | assumption | omega | exact Nat.zero_lt_one | decide) (hK.2 _ (List.mem_of_getElem? (i := 31) rfl)) dX6_request_83 ?_
      refine vx_ret ?_
      refine W.widen (k := 3) (n := 18) (Nat.le_of_ble_eq_true rfl) (Nat.le_of_ble_eq_true rfl) ?_
      refine W.iret hx hb hr ?_ hS.2.2 dX6_request_86
      refine cq1 ?_ hW hS
      exact ⟨r, st, 3, hr0, by decide, rfl, rfl, hst, by simp [reqVal], rfl⟩
  · have hno : ¬ inR wh 4 := hyes
    refine lv_tableOut (tgt := 87) hx hb dX6_request_7 (sw_out (n := 4) hno (by decide)) (by decide) ?_
    obtain ⟨sa9, hsa9⟩ := hZ.2.1 _ (List.mem_of_getElem? (i := 3) rfl)
    exact vx_throwS (names := ["java/lang/RuntimeException", "java/lang/Exception"]) hx hb hl0 hown (by decide) (by decide) (hts (.classLink RX6 152 "java/lang/IndexOutOfBoundsException") (by decide +kernel)) (hts (.initialized "java/lang/IndexOutOfBoundsException") (by decide +kernel)) hsa9 (thI_at hZ (fun w9 hw9 => hts w9 (List.mem_cons_of_mem _ (List.mem_append_right _ hw9)))) thI_ot hZ.2.2.1 hZ.2.2.2 hS (by rw [hml]; exact hl.1) dX6_request_87 dX6_request_90 dX6_request_91 dX6_request_93 dX6_request_96 (fun x9 hx9 => (hnt x9 hx9).elim) (Nat.le_of_ble_eq_true rfl) (Nat.le_of_ble_eq_true rfl) (Nat.le_of_ble_eq_true rfl) (Nat.le_of_ble_eq_true rfl) hlocks (fun t ht1 ht2 ht3 => ⟨⟨rfl, fun q9 => hno q9.2⟩, cw.grow hW ht3, va_Sgrow hS ht2 ht3⟩) hS.2.2 (Nat.le_of_ble_eq_true rfl) (Nat.le_of_ble_eq_true rfl)
set_option maxHeartbeats 4000000 in
set_option maxRecDepth 100000 in
theorem m_result (l : Launch) (hl0 : l.stackTraces = false) (D : va_G) (y : Nat → ClassId) (z : CS) (sz : Nat) (i : Int32) (h28 : cI z 28 0 = nI (cNr z)) (h200 : cNr z ≤ 200) (h6 : ∀ r, r < cNr z → cR z 6 r = some r) (hI : cInv z) : vx_Met l yX6_result wsX6_result ({ frames := 8, cells := 2, slots := 12, locals := 130 }) (va_Pc [.ref (cA z 6 0), .int i] (cPreX D y z sz)) (cQ1 D y z sz (fun v u => ∃ r st, r < cNr z ∧ i = nI r ∧ cR z 3 r = some st ∧ v = .long (if cI z 24 r = 1 then cJ z 1 st else 0) ∧ u = z)) (cX D y z sz (fun E => E = cI_ ∧ ¬ inR i (nI (cNr z)))) 2 12 (cF z sz) := by
  refine vx_ofW (cc := cX6_result) (maxL := 3) (ret := (some .long)) (by decide) rfl ?_
  intro p e s m args below meth c s₁ B hml hnt hv
  obtain ⟨rfl, hsz, hW0, hK, hZ⟩ := hv
  have hx := B.exec
  have hb := B.bytes
  have hr := B.returns
  have hts := atoms_spec (ws := wsX6_result) B.pre
  have hown : s.vm.findClass RX6 = some m.cls := findClass_of_methodNamed B.named
  have hlocks := B.notSynchronized
  subst hsz
  have hW := hW0.self (sz := s.heap.size)
  have hA : ∀ q, s.heap.size ≤ q → cF z s.heap.size q := fun q h => Or.inr h
  have hS : va_S (cF z s.heap.size) s.heap s.heap [] := va_S.rf
  have hl := lv_entry ([.ref (cA z 6 0), .int i]) (n := 3) (Nat.le_of_ble_eq_true rfl)
  rw [lg_entry_eq]
  generalize (lg_sl ([.ref (cA z 6 0), .int i]) ++ List.replicate (3 - (lg_sl ([.ref (cA z 6 0), .int i])).length) Slot.unset).toArray = ls at hl ⊢
  have hl : lv_has ls 3 [(0, .ref (cA z 6 0)), (1, .int i)] := hl
  have hX6 : ∀ w ∈ wsX60, w ∈ wsX6_result := by decide +kernel
  have hX3 : ∀ w ∈ wsX30, w ∈ wsX6_result := by decide +kernel
  have hX5 : ∀ w ∈ wsX50, w ∈ wsX6_result := by decide +kernel
  refine lv_aload_n hx hb dX6_result_0 rfl (lv_at hl 0 rfl) ?_
  refine lv_iload_n hx hb dX6_result_1 rfl (lv_at hl 1 rfl) ?_
  refine cx1 (vx_runV (As := [.int i]) (rest := []) ⟨hx, hb, hml, hown, hts⟩ (m_requestAt l hl0 D y z _ i h28 h200 h6) (cwV 1 hts gX6_result_X6_requestAt rfl rfl rfl (by decide +kernel) ⟨Nat.le_of_ble_eq_true rfl, Nat.le_of_ble_eq_true rfl⟩) (cPreVX (k := 6) (q := (RX6, TX6, 7)) hW hK hZ hS hA (show 0 < 1 from Nat.zero_lt_one) rfl rfl [.int i]) rfl rfl hl.1 rfl (lv_room (Nat.le_of_ble_eq_true rfl)) dX6_result_2 ⟨Nat.le_of_ble_eq_true rfl, Nat.le_of_ble_eq_true rfl⟩) hW hS hA (fun E ce q9 H locs hpx hW hS h1 h2 h3 => cxo hnt hlocks (hpx) hW hS h1 h2 h3 (Nat.le_of_ble_eq_true rfl) (Nat.le_of_ble_eq_true rfl)) (fun v2 u2 H locs hu2 hW hS => ?_)
  obtain ⟨r, hr0, rfl, rfl, f2⟩ := hu2
  replace f2 := f2.symm
  subst f2
  obtain ⟨-, st, hst0, hst⟩ := hI.2.2 r hr0
  refine lv_astore_n (lv' := [(2, _), (0, _), (1, _)]) hx hb dX6_result_5 rfl hl (by decide) rfl (fun ls hl => ?_)
  refine lv_aload_n hx hb dX6_result_6 rfl (lv_at hl 0 rfl) ?_
  refine gN_Request_ending hx hb hts hX3 hown hK.1 hW rfl (by first | assumption | omega | exact Nat.zero_lt_one | decide) (hK.2 _ (List.mem_of_getElem? (i := 38) rfl)) dX6_result_7 ?_
  refine lv_iconst (v := 1) hx hb dX6_result_10 (by decide) ?_
  refine lv_icmp_ne (tgt := 24) hx hb dX6_result_11 (by decide) (fun c_11 => ?_) (fun c_11 => ?_)
  · refine lv_lconst (v := 0) hx hb dX6_result_24 (by decide) ?_
    refine vx_ret ?_
    refine W.widen (k := 2) (n := 12) (Nat.le_of_ble_eq_true rfl) (Nat.le_of_ble_eq_true rfl) ?_
    refine W.lret hx hb hr ?_ hS.2.2 dX6_result_25
    refine cq1 ?_ hW hS
    exact ⟨r, st, hr0, rfl, hst, by simp [c_11], rfl⟩
  · refine lv_aload_n hx hb dX6_result_14 rfl (lv_at hl 0 rfl) ?_
    refine gN_Request_state_s hx hb hts hX3 hown hK.1 hW rfl hst (by first | assumption | omega | exact Nat.zero_lt_one | decide) (hK.2 _ (List.mem_of_getElem? (i := 36) rfl)) dX6_result_15 ?_
    refine gN_State_value hx hb hts hX5 hown hK.1 hW rfl (by first | assumption | omega | exact Nat.zero_lt_one | decide) (hK.2 _ (List.mem_of_getElem? (i := 0) rfl)) dX6_result_18 ?_
    refine lv_goto (tgt := 25) hx hb dX6_result_21 (by decide) ?_
    refine vx_ret ?_
    refine W.widen (k := 2) (n := 12) (Nat.le_of_ble_eq_true rfl) (Nat.le_of_ble_eq_true rfl) ?_
    refine W.lret hx hb hr ?_ hS.2.2 dX6_result_25
    refine cq1 ?_ hW hS
    exact ⟨r, st, hr0, rfl, hst, by simp [c_11], rfl⟩
set_option maxHeartbeats 4000000 in
set_option maxRecDepth 100000 in
theorem m_plan (l : Launch) (hl0 : l.stackTraces = false) (D : va_G) (y : Nat → ClassId) (z : CS) (sz : Nat) (i j se en : Int32) : vx_Met l yX6_plan wsX6_plan ({ frames := 7, cells := 4, slots := 24, locals := 110 }) (va_Pc [.ref (cA z 6 0), .int i, .int j, .int se, .int en] (cPreX D y z sz)) (cQ0 D y z sz (fun u => ∃ a k, a < 4 ∧ k < 2 ∧ i = nI a ∧ j = nI k ∧ inG se 1 511 ∧ inG en 1 (fBC se) ∧ u = sE (sE z 0 a k se) 1 a k en)) (cX D y z sz (fun E => (E = cI_ ∧ ¬ (inR i 4 ∧ inR j 2)) ∨ (E = cG_ ∧ inR i 4 ∧ inR j 2 ∧ ¬ (inG se 1 511 ∧ inG en 1 (fBC se))))) 4 24 (cF z sz) := by
  refine vx_ofW (cc := cX6_plan) (maxL := 5) (ret := none) (by decide) rfl ?_
  intro p e s m args below meth c s₁ B hml hnt hv
  obtain ⟨rfl, hsz, hW0, hK, hZ⟩ := hv
  have hx := B.exec
  have hb := B.bytes
  have hr := B.returns
  have hts := atoms_spec (ws := wsX6_plan) B.pre
  have hown : s.vm.findClass RX6 = some m.cls := findClass_of_methodNamed B.named
  have hlocks := B.notSynchronized
  subst hsz
  have hW := hW0.self (sz := s.heap.size)
  have hA : ∀ q, s.heap.size ≤ q → cF z s.heap.size q := fun q h => Or.inr h
  have hS : va_S (cF z s.heap.size) s.heap s.heap [] := va_S.rf
  have hl := lv_entry ([.ref (cA z 6 0), .int i, .int j, .int se, .int en]) (n := 5) (Nat.le_of_ble_eq_true rfl)
  rw [lg_entry_eq]
  generalize (lg_sl ([.ref (cA z 6 0), .int i, .int j, .int se, .int en]) ++ List.replicate (5 - (lg_sl ([.ref (cA z 6 0), .int i, .int j, .int se, .int en])).length) Slot.unset).toArray = ls at hl ⊢
  have hl : lv_has ls 5 [(0, .ref (cA z 6 0)), (1, .int i), (2, .int j), (3, .int se), (4, .int en)] := hl
  have hX6 : ∀ w ∈ wsX60, w ∈ wsX6_plan := by decide +kernel
  have hX0 : ∀ w ∈ wsX00, w ∈ wsX6_plan := by decide +kernel
  refine lv_iload_n hx hb dX6_plan_0 rfl (lv_at hl 1 rfl) ?_
  refine lv_iconst (v := 4) hx hb dX6_plan_1 (by decide) ?_
  refine cx0 (vx_runS (As := [.int (i), .int (4)]) (rest := []) ⟨hx, hb, hml, hown, hts⟩ (m_needIndex l hl0 D y z _ (i) (4)) (va_cwS 2 hts gX6_plan_X6_needIndex rfl rfl rfl (by decide +kernel) ⟨Nat.le_of_ble_eq_true rfl, Nat.le_of_ble_eq_true rfl⟩) (cPreSX hW hK hZ hS hA [.int (i), .int (4)]) rfl rfl hl.1 rfl (lv_room (Nat.le_of_ble_eq_true rfl)) dX6_plan_2 ⟨Nat.le_of_ble_eq_true rfl, Nat.le_of_ble_eq_true rfl⟩) hW hS hA (fun E ce q9 H locs hpx hW hS h1 h2 h3 => cxo hnt hlocks (Or.inl ⟨hpx.1, fun q => hpx.2 q.1⟩) hW hS h1 h2 h3 (Nat.le_of_ble_eq_true rfl) (Nat.le_of_ble_eq_true rfl)) (fun u2 H locs hu2 hW hS => ?_)
  obtain ⟨f2, hR2⟩ := hu2
  replace f2 := f2.symm
  subst f2
  obtain ⟨a, ha, rfl⟩ := inR_nat (n := 4) hR2 (by decide)
  refine lv_iload_n hx hb dX6_plan_5 rfl (lv_at hl 2 rfl) ?_
  refine lv_iconst (v := 2) hx hb dX6_plan_6 (by decide) ?_
  refine cx0 (vx_runS (As := [.int (j), .int (2)]) (rest := []) ⟨hx, hb, hml, hown, hts⟩ (m_needIndex l hl0 D y z _ (j) (2)) (va_cwS 2 hts gX6_plan_X6_needIndex rfl rfl rfl (by decide +kernel) ⟨Nat.le_of_ble_eq_true rfl, Nat.le_of_ble_eq_true rfl⟩) (cPreSX hW hK hZ hS hA [.int (j), .int (2)]) rfl rfl hl.1 rfl (lv_room (Nat.le_of_ble_eq_true rfl)) dX6_plan_7 ⟨Nat.le_of_ble_eq_true rfl, Nat.le_of_ble_eq_true rfl⟩) hW hS hA (fun E ce q9 H locs hpx hW hS h1 h2 h3 => cxo hnt hlocks (Or.inl ⟨hpx.1, fun q => hpx.2 q.2⟩) hW hS h1 h2 h3 (Nat.le_of_ble_eq_true rfl) (Nat.le_of_ble_eq_true rfl)) (fun u7 H locs hu7 hW hS => ?_)
  obtain ⟨f7, hR7⟩ := hu7
  replace f7 := f7.symm
  subst f7
  obtain ⟨k, hk, rfl⟩ := inR_nat (n := 2) hR7 (by decide)
  refine lv_iload_n hx hb dX6_plan_10 rfl (lv_at hl 3 rfl) ?_
  refine lv_iconst (v := 1) hx hb dX6_plan_11 (by decide) ?_
  refine lv_sipush (v := 511) hx hb dX6_plan_12 (by decide) ?_
  refine cx0 (vx_runS (As := [.int (se), .int (1), .int (511)]) (rest := []) ⟨hx, hb, hml, hown, hts⟩ (m_needRange l hl0 D y z _ (se) (1) (511)) (va_cwS 3 hts gX6_plan_X6_needRange rfl rfl rfl (by decide +kernel) ⟨Nat.le_of_ble_eq_true rfl, Nat.le_of_ble_eq_true rfl⟩) (cPreSX hW hK hZ hS hA [.int (se), .int (1), .int (511)]) rfl rfl hl.1 rfl (lv_room (Nat.le_of_ble_eq_true rfl)) dX6_plan_15 ⟨Nat.le_of_ble_eq_true rfl, Nat.le_of_ble_eq_true rfl⟩) hW hS hA (fun E ce q9 H locs hpx hW hS h1 h2 h3 => cxo hnt hlocks (Or.inr ⟨hpx.1, hR2, hR7, fun q => hpx.2 q.1⟩) hW hS h1 h2 h3 (Nat.le_of_ble_eq_true rfl) (Nat.le_of_ble_eq_true rfl)) (fun u15 H locs hu15 hW hS => ?_)
  obtain ⟨f15, hR15⟩ := hu15
  replace f15 := f15.symm
  subst f15
  refine lv_iload hx hb dX6_plan_18 (lv_at hl 4 rfl) ?_
  refine lv_iconst (v := 1) hx hb dX6_plan_20 (by decide) ?_
  refine lv_iload_n hx hb dX6_plan_21 rfl (lv_at hl 3 rfl) ?_
  refine cc1 (va_runS (As := [.int se]) (rest := [.int 1, .int en]) ⟨hx, hb, hml, hown, hts⟩ (m_bitCount l D y z _ se) (va_cwS 1 hts gX6_plan_J6_bitCount_0f7a4 rfl rfl rfl (by decide +kernel) ⟨Nat.le_of_ble_eq_true rfl, Nat.le_of_ble_eq_true rfl⟩) (cPreS hW hK [.int se]) rfl rfl hl.1 rfl (lv_room (Nat.le_of_ble_eq_true rfl)) dX6_plan_22 ⟨Nat.le_of_ble_eq_true rfl, Nat.le_of_ble_eq_true rfl⟩) hW hS hA (fun v22 u22 H locs hu22 hW hS => ?_)
  obtain ⟨rfl, f22⟩ := hu22
  replace f22 := f22.symm
  subst f22
  refine cx0 (vx_runS (As := [.int (en), .int (1), .int (fBC se)]) (rest := []) ⟨hx, hb, hml, hown, hts⟩ (m_needRange l hl0 D y z _ (en) (1) (fBC se)) (va_cwS 3 hts gX6_plan_X6_needRange rfl rfl rfl (by decide +kernel) ⟨Nat.le_of_ble_eq_true rfl, Nat.le_of_ble_eq_true rfl⟩) (cPreSX hW hK hZ hS hA [.int (en), .int (1), .int (fBC se)]) rfl rfl hl.1 rfl (lv_room (Nat.le_of_ble_eq_true rfl)) dX6_plan_25 ⟨Nat.le_of_ble_eq_true rfl, Nat.le_of_ble_eq_true rfl⟩) hW hS hA (fun E ce q9 H locs hpx hW hS h1 h2 h3 => cxo hnt hlocks (Or.inr ⟨hpx.1, hR2, hR7, fun q => hpx.2 q.2⟩) hW hS h1 h2 h3 (Nat.le_of_ble_eq_true rfl) (Nat.le_of_ble_eq_true rfl)) (fun u25 H locs hu25 hW hS => ?_)
  obtain ⟨f25, hR25⟩ := hu25
  replace f25 := f25.symm
  subst f25
  refine lv_aload_n hx hb dX6_plan_28 rfl (lv_at hl 0 rfl) ?_
  refine g_SharedRegisters_askers hx hb hts hX6 hown hK.1 hW rfl (by first | assumption | omega | exact Nat.zero_lt_one | decide) (hts (.fieldLink RX6 33 "SharedRegisters" "askers" "[LSharedRegisters$Asker;") (by decide +kernel)) dX6_plan_29 ?_
  refine lv_iload_n hx hb dX6_plan_32 rfl (lv_at hl 1 rfl) ?_
  refine al_askers hx hb hK.1 hW rfl (vp_in_nI ha (by decide)) dX6_plan_33 ?_
  rw [nI_clamp (show a < 2 ^ 31 by omega)]
  refine gN_Asker_sets hx hb hts hX0 hown hK.1 hW rfl (by first | assumption | omega | exact Nat.zero_lt_one | decide) (hK.2 _ (List.mem_of_getElem? (i := 6) rfl)) dX6_plan_34 ?_
  refine lv_iload_n hx hb dX6_plan_37 rfl (lv_at hl 2 rfl) ?_
  refine lv_iload_n hx hb dX6_plan_38 rfl (lv_at hl 3 rfl) ?_
  refine as_sets hx hb hK.1 hW hS rfl ha (vp_in_nI hk (by decide)) dX6_plan_39 (fun H locs hW hS => ?_)
  rw [nI_clamp (show k < 2 ^ 31 by omega)] at hW
  refine lv_aload_n hx hb dX6_plan_40 rfl (lv_at hl 0 rfl) ?_
  refine g_SharedRegisters_askers hx hb hts hX6 hown hK.1 hW rfl (by first | assumption | omega | exact Nat.zero_lt_one | decide) (hts (.fieldLink RX6 33 "SharedRegisters" "askers" "[LSharedRegisters$Asker;") (by decide +kernel)) dX6_plan_41 ?_
  refine lv_iload_n hx hb dX6_plan_44 rfl (lv_at hl 1 rfl) ?_
  refine al_askers hx hb hK.1 hW rfl (vp_in_nI ha (by decide)) dX6_plan_45 ?_
  rw [nI_clamp (show a < 2 ^ 31 by omega)]
  refine gN_Asker_enough hx hb hts hX0 hown hK.1 hW rfl (by first | assumption | omega | exact Nat.zero_lt_one | decide) (hK.2 _ (List.mem_of_getElem? (i := 8) rfl)) dX6_plan_46 ?_
  refine lv_iload_n hx hb dX6_plan_49 rfl (lv_at hl 2 rfl) ?_
  refine lv_iload hx hb dX6_plan_50 (lv_at hl 4 rfl) ?_
  refine as_enough hx hb hK.1 hW hS rfl ha (vp_in_nI hk (by decide)) dX6_plan_52 (fun H locs hW hS => ?_)
  rw [nI_clamp (show k < 2 ^ 31 by omega)] at hW
  refine vx_ret ?_
  refine W.widen (k := 4) (n := 24) (Nat.le_of_ble_eq_true rfl) (Nat.le_of_ble_eq_true rfl) ?_
  refine W.vret hx hb hr ?_ hS.2.2 dX6_plan_53
  refine cq0 ?_ hW hS
  exact ⟨a, k, ha, hk, rfl, rfl, hR15, hR25, rfl⟩
