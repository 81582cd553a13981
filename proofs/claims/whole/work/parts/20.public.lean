theorem cw.grow {D : va_G} {y : Nat → ClassId} {A : Nat → Prop} {z : CS} {H H1 : Heap} (h : cw D y A z H) (h1 : ∀ q : Nat, q < H.size → H1[q]? = H[q]?) : cw D y A z H1 := gw.kept h (fun k i hi => h1 _ (gw.lt h hi))
theorem va_Sgrow {A : Nat → Prop} {s t : State} {H : Heap} {locs : List Loc} (hS : va_S A s.heap H locs) (h2 : H.size ≤ t.heap.size) (h3 : ∀ q : Nat, q < H.size → t.heap[q]? = H[q]?) : va_F A s t := ⟨Nat.le_trans hS.1 h2, fun q h4 h5 => (h3 q (Nat.lt_of_lt_of_le h4 hS.1)).trans (hS.2.1 q h4 h5)⟩
/-- in the range: 0 .. n - 1; lo .. hi -/
def inR (i n : Int32) : Prop := ¬ i < 0 ∧ i < n
def inG (x lo hi : Int32) : Prop := ¬ x < lo ∧ x ≤ hi
theorem inR_nat {i : Int32} {n : Nat} (h : inR i (nI n)) (hn : n < 2 ^ 31) : ∃ k, k < n ∧ i = nI k := by
  obtain ⟨j, hj, rfl⟩ := nI_of h.1
  exact ⟨j, (nI_ltI hj hn).mp h.2, rfl⟩
theorem sw_out {x : Int32} {n : Nat} (h : ¬ inR x (nI n)) (hn : n < 2 ^ 31) : x.toInt < 0 ∨ ((n : Int) - 1) < x.toInt := by
  by_cases h0 : x < 0
  · exact Or.inl (by rw [Int32.lt_iff_toInt_lt] at h0; simpa using h0)
  · by_cases h1 : x < nI n
    · exact absurd ⟨h0, h1⟩ h
    · rw [Int32.lt_iff_toInt_lt, nI_toInt hn] at h1
      exact Or.inr (by omega)
set_option maxHeartbeats 4000000 in
set_option maxRecDepth 100000 in
theorem m_needIndex (l : Launch) (hl0 : l.stackTraces = false) (D : va_G) (y : Nat → ClassId) (z : CS) (sz : Nat) (i n : Int32) : vx_Met l yX6_needIndex wsX6_needIndex ({ frames := 6, cells := 1, slots := 6, locals := 82 }) (va_Pc [.int i, .int n] (cPreX D y z sz)) (cQ0 D y z sz (fun u => u = z ∧ inR i n)) (cX D y z sz (fun E => E = cI_ ∧ ¬ inR i n)) 1 6 (cF z sz) := by
  refine vx_ofW (cc := cX6_needIndex) (maxL := 2) (ret := none) (by decide) rfl ?_
  intro p e s m args below meth c s₁ B hml hnt hv
  obtain ⟨rfl, hsz, hW0, hK, hZ⟩ := hv
  have hx := B.exec
  have hb := B.bytes
  have hr := B.returns
  have hts := atoms_spec (ws := wsX6_needIndex) B.pre
  have hown : s.vm.findClass RX6 = some m.cls := findClass_of_methodNamed B.named
  have hlocks := B.notSynchronized
  subst hsz
  have hW := hW0.self (sz := s.heap.size)
  have hA : ∀ q, s.heap.size ≤ q → cF z s.heap.size q := fun q h => Or.inr h
  have hS : va_S (cF z s.heap.size) s.heap s.heap [] := va_S.rf
  have hl := lv_entry ([.int i, .int n]) (n := 2) (Nat.le_of_ble_eq_true rfl)
  rw [lg_entry_eq]
  generalize (lg_sl ([.int i, .int n]) ++ List.replicate (2 - (lg_sl ([.int i, .int n])).length) Slot.unset).toArray = ls at hl ⊢
  have hl : lv_has ls 2 [(0, .int i), (1, .int n)] := hl
  refine lv_iload_n hx hb dX6_needIndex_0 rfl (lv_at hl 0 rfl) ?_
  refine lv_if_lt (tgt := 9) hx hb dX6_needIndex_1 (by decide) (fun c_1 => ?_) (fun c_1 => ?_)
  · obtain ⟨sa9, hsa9⟩ := hZ.2.1 _ (List.mem_of_getElem? (i := 4) rfl)
    exact vx_throwS (names := ["java/lang/RuntimeException", "java/lang/Exception"]) hx hb hl0 hown (by decide) (by decide) (hts (.classLink RX6 152 "java/lang/IndexOutOfBoundsException") (by decide +kernel)) (hts (.initialized "java/lang/IndexOutOfBoundsException") (by decide +kernel)) hsa9 (thI_at hZ (fun w9 hw9 => hts w9 (List.mem_cons_of_mem _ (List.mem_append_right _ hw9)))) thI_ot hZ.2.2.1 hZ.2.2.2 hS (by rw [hml]; exact hl.1) dX6_needIndex_9 dX6_needIndex_12 dX6_needIndex_13 dX6_needIndex_15 dX6_needIndex_18 (fun x9 hx9 => (hnt x9 hx9).elim) (Nat.le_of_ble_eq_true rfl) (Nat.le_of_ble_eq_true rfl) (Nat.le_of_ble_eq_true rfl) (Nat.le_of_ble_eq_true rfl) hlocks (fun t ht1 ht2 ht3 => ⟨⟨rfl, fun h9 => h9.1 c_1⟩, cw.grow hW ht3, va_Sgrow hS ht2 ht3⟩) hS.2.2 (Nat.le_of_ble_eq_true rfl) (Nat.le_of_ble_eq_true rfl)
  · refine lv_iload_n hx hb dX6_needIndex_4 rfl (lv_at hl 0 rfl) ?_
    refine lv_iload_n hx hb dX6_needIndex_5 rfl (lv_at hl 1 rfl) ?_
    refine lv_icmp_lt (tgt := 19) hx hb dX6_needIndex_6 (by decide) (fun c_6 => ?_) (fun c_6 => ?_)
    · refine vx_ret ?_
      refine W.widen (k := 1) (n := 6) (Nat.le_of_ble_eq_true rfl) (Nat.le_of_ble_eq_true rfl) ?_
      refine W.vret hx hb hr ?_ hS.2.2 dX6_needIndex_19
      refine cq0 ?_ hW hS
      exact ⟨rfl, c_1, c_6⟩
    · obtain ⟨sa9, hsa9⟩ := hZ.2.1 _ (List.mem_of_getElem? (i := 4) rfl)
      exact vx_throwS (names := ["java/lang/RuntimeException", "java/lang/Exception"]) hx hb hl0 hown (by decide) (by decide) (hts (.classLink RX6 152 "java/lang/IndexOutOfBoundsException") (by decide +kernel)) (hts (.initialized "java/lang/IndexOutOfBoundsException") (by decide +kernel)) hsa9 (thI_at hZ (fun w9 hw9 => hts w9 (List.mem_cons_of_mem _ (List.mem_append_right _ hw9)))) thI_ot hZ.2.2.1 hZ.2.2.2 hS (by rw [hml]; exact hl.1) dX6_needIndex_9 dX6_needIndex_12 dX6_needIndex_13 dX6_needIndex_15 dX6_needIndex_18 (fun x9 hx9 => (hnt x9 hx9).elim) (Nat.le_of_ble_eq_true rfl) (Nat.le_of_ble_eq_true rfl) (Nat.le_of_ble_eq_true rfl) (Nat.le_of_ble_eq_true rfl) hlocks (fun t ht1 ht2 ht3 => ⟨⟨rfl, fun h9 => c_6 h9.2⟩, cw.grow hW ht3, va_Sgrow hS ht2 ht3⟩) hS.2.2 (Nat.le_of_ble_eq_true rfl) (Nat.le_of_ble_eq_true rfl)
set_option maxHeartbeats 4000000 in
set_option maxRecDepth 100000 in
theorem m_needRange (l : Launch) (hl0 : l.stackTraces = false) (D : va_G) (y : Nat → ClassId) (z : CS) (sz : Nat) (i lo hi : Int32) : vx_Met l yX6_needRange wsX6_needRange ({ frames := 6, cells := 1, slots := 6, locals := 82 }) (va_Pc [.int i, .int lo, .int hi] (cPreX D y z sz)) (cQ0 D y z sz (fun u => u = z ∧ inG i lo hi)) (cX D y z sz (fun E => E = cG_ ∧ ¬ inG i lo hi)) 1 6 (cF z sz) := by
  refine vx_ofW (cc := cX6_needRange) (maxL := 3) (ret := none) (by decide) rfl ?_
  intro p e s m args below meth c s₁ B hml hnt hv
  obtain ⟨rfl, hsz, hW0, hK, hZ⟩ := hv
  have hx := B.exec
  have hb := B.bytes
  have hr := B.returns
  have hts := atoms_spec (ws := wsX6_needRange) B.pre
  have hown : s.vm.findClass RX6 = some m.cls := findClass_of_methodNamed B.named
  have hlocks := B.notSynchronized
  subst hsz
  have hW := hW0.self (sz := s.heap.size)
  have hA : ∀ q, s.heap.size ≤ q → cF z s.heap.size q := fun q h => Or.inr h
  have hS : va_S (cF z s.heap.size) s.heap s.heap [] := va_S.rf
  have hl := lv_entry ([.int i, .int lo, .int hi]) (n := 3) (Nat.le_of_ble_eq_true rfl)
  rw [lg_entry_eq]
  generalize (lg_sl ([.int i, .int lo, .int hi]) ++ List.replicate (3 - (lg_sl ([.int i, .int lo, .int hi])).length) Slot.unset).toArray = ls at hl ⊢
  have hl : lv_has ls 3 [(0, .int i), (1, .int lo), (2, .int hi)] := hl
  refine lv_iload_n hx hb dX6_needRange_0 rfl (lv_at hl 0 rfl) ?_
  refine lv_iload_n hx hb dX6_needRange_1 rfl (lv_at hl 1 rfl) ?_
  refine lv_icmp_lt (tgt := 10) hx hb dX6_needRange_2 (by decide) (fun c_2 => ?_) (fun c_2 => ?_)
  · obtain ⟨sa9, hsa9⟩ := hZ.2.1 _ (List.mem_of_getElem? (i := 5) rfl)
    exact vx_throwS (names := ["java/lang/RuntimeException", "java/lang/Exception"]) hx hb hl0 hown (by decide) (by decide) (hts (.classLink RX6 195 "java/lang/IllegalArgumentException") (by decide +kernel)) (hts (.initialized "java/lang/IllegalArgumentException") (by decide +kernel)) hsa9 (thG_at hZ (fun w9 hw9 => hts w9 (List.mem_cons_of_mem _ (List.mem_append_right _ hw9)))) thG_ot hZ.2.2.1 hZ.2.2.2 hS (by rw [hml]; exact hl.1) dX6_needRange_10 dX6_needRange_13 dX6_needRange_14 dX6_needRange_16 dX6_needRange_19 (fun x9 hx9 => (hnt x9 hx9).elim) (Nat.le_of_ble_eq_true rfl) (Nat.le_of_ble_eq_true rfl) (Nat.le_of_ble_eq_true rfl) (Nat.le_of_ble_eq_true rfl) hlocks (fun t ht1 ht2 ht3 => ⟨⟨rfl, fun h9 => h9.1 c_2⟩, cw.grow hW ht3, va_Sgrow hS ht2 ht3⟩) hS.2.2 (Nat.le_of_ble_eq_true rfl) (Nat.le_of_ble_eq_true rfl)
  · refine lv_iload_n hx hb dX6_needRange_5 rfl (lv_at hl 0 rfl) ?_
    refine lv_iload_n hx hb dX6_needRange_6 rfl (lv_at hl 2 rfl) ?_
    refine lv_icmp_le (tgt := 20) hx hb dX6_needRange_7 (by decide) (fun c_7 => ?_) (fun c_7 => ?_)
    · refine vx_ret ?_
      refine W.widen (k := 1) (n := 6) (Nat.le_of_ble_eq_true rfl) (Nat.le_of_ble_eq_true rfl) ?_
      refine W.vret hx hb hr ?_ hS.2.2 dX6_needRange_20
      refine cq0 ?_ hW hS
      exact ⟨rfl, c_2, c_7⟩
    · obtain ⟨sa9, hsa9⟩ := hZ.2.1 _ (List.mem_of_getElem? (i := 5) rfl)
      exact vx_throwS (names := ["java/lang/RuntimeException", "java/lang/Exception"]) hx hb hl0 hown (by decide) (by decide) (hts (.classLink RX6 195 "java/lang/IllegalArgumentException") (by decide +kernel)) (hts (.initialized "java/lang/IllegalArgumentException") (by decide +kernel)) hsa9 (thG_at hZ (fun w9 hw9 => hts w9 (List.mem_cons_of_mem _ (List.mem_append_right _ hw9)))) thG_ot hZ.2.2.1 hZ.2.2.2 hS (by rw [hml]; exact hl.1) dX6_needRange_10 dX6_needRange_13 dX6_needRange_14 dX6_needRange_16 dX6_needRange_19 (fun x9 hx9 => (hnt x9 hx9).elim) (Nat.le_of_ble_eq_true rfl) (Nat.le_of_ble_eq_true rfl) (Nat.le_of_ble_eq_true rfl) (Nat.le_of_ble_eq_true rfl) hlocks (fun t ht1 ht2 ht3 => ⟨⟨rfl, fun h9 => c_7 h9.2⟩, cw.grow hW ht3, va_Sgrow hS ht2 ht3⟩) hS.2.2 (Nat.le_of_ble_eq_true rfl) (Nat.le_of_ble_eq_true rfl)
set_option maxHeartbeats 4000000 in
set_option maxRecDepth 100000 in
theorem m_give (l : Launch) (hl0 : l.stackTraces = false) (D : va_G) (y : Nat → ClassId) (z : CS) (sz : Nat) (i : Int32) (hcr : ∀ a r, cR z 1 a = some r → r < cNr z) : vx_Met l yX6_give wsX6_give ({ frames := 7, cells := 1, slots := 6, locals := 105 }) (va_Pc [.ref (cA z 6 0), .int i] (cPreX D y z sz)) (cQ1 D y z sz (fun v u => ∃ a, a < 4 ∧ i = nI a ∧ v = .int (fEndV z a) ∧ u = fEnd z a 2)) (cX D y z sz (fun E => E = cI_ ∧ ¬ inR i 4)) 1 6 (cF z sz) := by
  refine vx_ofW (cc := cX6_give) (maxL := 2) (ret := (some .int)) (by decide) rfl ?_
  intro p e s m args below meth c s₁ B hml hnt hv
  obtain ⟨rfl, hsz, hW0, hK, hZ⟩ := hv
  have hx := B.exec
  have hb := B.bytes
  have hr := B.returns
  have hts := atoms_spec (ws := wsX6_give) B.pre
  have hown : s.vm.findClass RX6 = some m.cls := findClass_of_methodNamed B.named
  have hlocks := B.notSynchronized
  subst hsz
  have hW := hW0.self (sz := s.heap.size)
  have hA : ∀ q, s.heap.size ≤ q → cF z s.heap.size q := fun q h => Or.inr h
  have hS : va_S (cF z s.heap.size) s.heap s.heap [] := va_S.rf
  have hl := lv_entry ([.ref (cA z 6 0), .int i]) (n := 2) (Nat.le_of_ble_eq_true rfl)
  rw [lg_entry_eq]
  generalize (lg_sl ([.ref (cA z 6 0), .int i]) ++ List.replicate (2 - (lg_sl ([.ref (cA z 6 0), .int i])).length) Slot.unset).toArray = ls at hl ⊢
  have hl : lv_has ls 2 [(0, .ref (cA z 6 0)), (1, .int i)] := hl
  have hX6 : ∀ w ∈ wsX60, w ∈ wsX6_give := by decide +kernel
  refine lv_iload_n hx hb dX6_give_0 rfl (lv_at hl 1 rfl) ?_
  refine lv_iconst (v := 4) hx hb dX6_give_1 (by decide) ?_
  refine cx0 (vx_runS (As := [.int (i), .int (4)]) (rest := []) ⟨hx, hb, hml, hown, hts⟩ (m_needIndex l hl0 D y z _ (i) (4)) (va_cwS 2 hts gX6_give_X6_needIndex rfl rfl rfl (by decide +kernel) ⟨Nat.le_of_ble_eq_true rfl, Nat.le_of_ble_eq_true rfl⟩) (cPreSX hW hK hZ hS hA [.int (i), .int (4)]) rfl rfl hl.1 rfl (lv_room (Nat.le_of_ble_eq_true rfl)) dX6_give_2 ⟨Nat.le_of_ble_eq_true rfl, Nat.le_of_ble_eq_true rfl⟩) hW hS hA (fun E ce q9 H locs hpx hW hS h1 h2 h3 => cxo hnt hlocks (hpx) hW hS h1 h2 h3 (Nat.le_of_ble_eq_true rfl) (Nat.le_of_ble_eq_true rfl)) (fun u2 H locs hu2 hW hS => ?_)
  obtain ⟨f2, hR2⟩ := hu2
  replace f2 := f2.symm
  subst f2
  obtain ⟨a, ha, rfl⟩ := inR_nat (n := 4) hR2 (by decide)
  refine lv_aload_n hx hb dX6_give_5 rfl (lv_at hl 0 rfl) ?_
  refine g_SharedRegisters_askers hx hb hts hX6 hown hK.1 hW rfl (by first | assumption | omega | exact Nat.zero_lt_one | decide) (hts (.fieldLink RX6 33 "SharedRegisters" "askers" "[LSharedRegisters$Asker;") (by decide +kernel)) dX6_give_6 ?_
  refine lv_iload_n hx hb dX6_give_9 rfl (lv_at hl 1 rfl) ?_
  refine al_askers hx hb hK.1 hW rfl (vp_in_nI ha (by decide)) dX6_give_10 ?_
  rw [nI_clamp (show a < 2 ^ 31 by omega)]
  refine lv_iconst (v := 2) hx hb dX6_give_11 (by decide) ?_
  refine cc1 (va_runS (As := [.ref (cA z 0 a), .int 2]) (rest := []) ⟨hx, hb, hml, hown, hts⟩ (m_endCurrent l D y z _ a 2 ha (hcr a)) (va_cwS 2 hts gX6_give_X6_endCurrent rfl rfl rfl (by decide +kernel) ⟨Nat.le_of_ble_eq_true rfl, Nat.le_of_ble_eq_true rfl⟩) (cPreS hW hK [.ref (cA z 0 a), .int 2]) rfl rfl hl.1 rfl (lv_room (Nat.le_of_ble_eq_true rfl)) dX6_give_12 ⟨Nat.le_of_ble_eq_true rfl, Nat.le_of_ble_eq_true rfl⟩) hW hS hA (fun v12 u12 H locs hu12 hW hS => ?_)
  obtain ⟨rfl, f12⟩ := hu12
  refine vx_ret ?_
  refine W.widen (k := 1) (n := 6) (Nat.le_of_ble_eq_true rfl) (Nat.le_of_ble_eq_true rfl) ?_
  refine W.iret hx hb hr ?_ hS.2.2 dX6_give_15
  refine cq1 ?_ hW hS
  exact ⟨a, ha, rfl, rfl, f12⟩
set_option maxHeartbeats 4000000 in
set_option maxRecDepth 100000 in
theorem m_take (l : Launch) (hl0 : l.stackTraces = false) (D : va_G) (y : Nat → ClassId) (z : CS) (sz : Nat) (i : Int32) (n : Nat) (hrow : RowOk z n) (hI : cInv z) (hms : ∀ j, j < n → ∃ so a k q, msgOk z (cS z 3 j) so a k q) : vx_Met l yX6_take wsX6_take ({ frames := 7, cells := 2, slots := 9, locals := 175 }) (va_Pc [.ref (cA z 6 0), .int i] (cPreX D y z sz)) (cQ1 D y z sz (fun v u => ∃ j so a k q, j < n ∧ i = nI j ∧ msgOk z (cS z 3 j) so a k q ∧ v = .int (cI u 6 (cS z 3 j)) ∧ takeTo (fDraw z j n) (cS z 3 j) so a k q u)) (cX D y z sz (fun E => E = cI_ ∧ ¬ inR i (nI n))) 2 9 (cF z sz) := by
  refine vx_ofW (cc := cX6_take) (maxL := 2) (ret := (some .int)) (by decide) rfl ?_
  intro p e s m args below meth c s₁ B hml hnt hv
  obtain ⟨rfl, hsz, hW0, hK, hZ⟩ := hv
  have hx := B.exec
  have hb := B.bytes
  have hr := B.returns
  have hts := atoms_spec (ws := wsX6_take) B.pre
  have hown : s.vm.findClass RX6 = some m.cls := findClass_of_methodNamed B.named
  have hlocks := B.notSynchronized
  subst hsz
  have hW := hW0.self (sz := s.heap.size)
  have hA : ∀ q, s.heap.size ≤ q → cF z s.heap.size q := fun q h => Or.inr h
  have hS : va_S (cF z s.heap.size) s.heap s.heap [] := va_S.rf
  have hl := lv_entry ([.ref (cA z 6 0), .int i]) (n := 2) (Nat.le_of_ble_eq_true rfl)
  rw [lg_entry_eq]
  generalize (lg_sl ([.ref (cA z 6 0), .int i]) ++ List.replicate (2 - (lg_sl ([.ref (cA z 6 0), .int i])).length) Slot.unset).toArray = ls at hl ⊢
  have hl : lv_has ls 2 [(0, .ref (cA z 6 0)), (1, .int i)] := hl
  have hX6 : ∀ w ∈ wsX60, w ∈ wsX6_take := by decide +kernel
  have hX4 : ∀ w ∈ wsX40, w ∈ wsX6_take := by decide +kernel
  refine lv_iload_n hx hb dX6_take_0 rfl (lv_at hl 1 rfl) ?_
  refine lv_aload_n hx hb dX6_take_1 rfl (lv_at hl 0 rfl) ?_
  refine g_SharedRegisters_row hx hb hts hX6 hown hK.1 hW rfl (by first | assumption | omega | exact Nat.zero_lt_one | decide) (hts (.fieldLink RX6 49 "SharedRegisters" "row" "LSharedRegisters$Row;") (by decide +kernel)) dX6_take_2 ?_
  refine gN_Row_size hx hb hts hX4 hown hK.1 hW rfl (by first | assumption | omega | exact Nat.zero_lt_one | decide) (hK.2 _ (List.mem_of_getElem? (i := 27) rfl)) dX6_take_5 ?_
  rw [hrow.1]
  refine cx0 (vx_runS (As := [.int (i), .int (nI n)]) (rest := []) ⟨hx, hb, hml, hown, hts⟩ (m_needIndex l hl0 D y z _ (i) (nI n)) (va_cwS 2 hts gX6_take_X6_needIndex rfl rfl rfl (by decide +kernel) ⟨Nat.le_of_ble_eq_true rfl, Nat.le_of_ble_eq_true rfl⟩) (cPreSX hW hK hZ hS hA [.int (i), .int (nI n)]) rfl rfl hl.1 rfl (lv_room (Nat.le_of_ble_eq_true rfl)) dX6_take_8 ⟨Nat.le_of_ble_eq_true rfl, Nat.le_of_ble_eq_true rfl⟩) hW hS hA (fun E ce q9 H locs hpx hW hS h1 h2 h3 => cxo hnt hlocks (hpx) hW hS h1 h2 h3 (Nat.le_of_ble_eq_true rfl) (Nat.le_of_ble_eq_true rfl)) (fun u8 H locs hu8 hW hS => ?_)
  obtain ⟨f8, hR8⟩ := hu8
  replace f8 := f8.symm
  subst f8
  obtain ⟨j, hj, rfl⟩ := inR_nat hR8 (by have := hrow.2.1; omega)
  obtain ⟨so, a, k, q, hmsg⟩ := hms j hj
  refine lv_aload_n hx hb dX6_take_11 rfl (lv_at hl 0 rfl) ?_
  refine lv_iload_n hx hb dX6_take_12 rfl (lv_at hl 1 rfl) ?_
  refine cc1 (va_runV (As := [.int (nI j)]) (rest := []) ⟨hx, hb, hml, hown, hts⟩ (m_deliver l D y z _ j n so a k q hj hrow hI hmsg) (cwV 1 hts gX6_take_X6_deliver rfl rfl rfl (by decide +kernel) ⟨Nat.le_of_ble_eq_true rfl, Nat.le_of_ble_eq_true rfl⟩) (cPreV (k := 6) (q := (RX6, TX6, 7)) hW hK (show 0 < 1 from Nat.zero_lt_one) rfl rfl [.int (nI j)]) rfl rfl hl.1 rfl (lv_room (Nat.le_of_ble_eq_true rfl)) dX6_take_13 ⟨Nat.le_of_ble_eq_true rfl, Nat.le_of_ble_eq_true rfl⟩) hW hS hA (fun v13 u13 H locs hu13 hW hS => ?_)
  obtain ⟨rfl, f13⟩ := hu13
  refine vx_ret ?_
  refine W.widen (k := 2) (n := 9) (Nat.le_of_ble_eq_true rfl) (Nat.le_of_ble_eq_true rfl) ?_
  refine W.iret hx hb hr ?_ hS.2.2 dX6_take_16
  refine cq1 ?_ hW hS
  exact ⟨j, so, a, k, q, hj, rfl, hmsg, rfl, f13⟩
set_option maxHeartbeats 4000000 in
set_option maxRecDepth 100000 in
theorem m_messages (l : Launch) (D : va_G) (y : Nat → ClassId) (z : CS) (sz : Nat)   : Met l yX6_messages wsX6_messages ({ frames := 0, cells := 0, slots := 0, locals := 0 }) (va_Pc [.ref (cA z 6 0)] (cPre D y z sz)) (cQ1 D y z sz (fun v u => v = .int (cI z 25 0) ∧ u = z)) 0 0 (cF z sz) := by
  refine Met.ofW (cc := cX6_messages) (maxL := 1) (ret := (some .int)) (by decide) rfl ?_
  intro p e s m args below meth c s₁ B hml hv
  obtain ⟨rfl, hsz, hW0, hK⟩ := hv
  have hx := B.exec
  have hb := B.bytes
  have hr := B.returns
  have hts := atoms_spec (ws := wsX6_messages) B.pre
  have hown : s.vm.findClass RX6 = some m.cls := findClass_of_methodNamed B.named
  have hlocks := B.notSynchronized
  subst hsz
  have hW := hW0.self (sz := s.heap.size)
  have hA : ∀ q, s.heap.size ≤ q → cF z s.heap.size q := fun q h => Or.inr h
  have hS : va_S (cF z s.heap.size) s.heap s.heap [] := va_S.rf
  have hl := lv_entry ([.ref (cA z 6 0)]) (n := 1) (Nat.le_of_ble_eq_true rfl)
  rw [lg_entry_eq]
  generalize (lg_sl ([.ref (cA z 6 0)]) ++ List.replicate (1 - (lg_sl ([.ref (cA z 6 0)])).length) Slot.unset).toArray = ls at hl ⊢
  have hl : lv_has ls 1 [(0, .ref (cA z 6 0))] := hl
  have hX6 : ∀ w ∈ wsX60, w ∈ wsX6_messages := by decide +kernel
  have hX4 : ∀ w ∈ wsX40, w ∈ wsX6_messages := by decide +kernel
  refine lv_aload_n hx hb dX6_messages_0 rfl (lv_at hl 0 rfl) ?_
  refine g_SharedRegisters_row hx hb hts hX6 hown hK.1 hW rfl (by first | assumption | omega | exact Nat.zero_lt_one | decide) (hts (.fieldLink RX6 49 "SharedRegisters" "row" "LSharedRegisters$Row;") (by decide +kernel)) dX6_messages_1 ?_
  refine gN_Row_size hx hb hts hX4 hown hK.1 hW rfl (by first | assumption | omega | exact Nat.zero_lt_one | decide) (hK.2 _ (List.mem_of_getElem? (i := 27) rfl)) dX6_messages_4 ?_
  refine W.iret hx hb hr ?_ hS.2.2 dX6_messages_7
  refine cq1 ?_ hW hS
  exact ⟨rfl, rfl⟩
set_option maxHeartbeats 4000000 in
set_option maxRecDepth 100000 in
theorem m_kept (l : Launch) (hl0 : l.stackTraces = false) (D : va_G) (y : Nat → ClassId) (z : CS) (sz : Nat) (i j : Int32) (hV : cV z) : vx_Met l yX6_kept wsX6_kept ({ frames := 7, cells := 2, slots := 12, locals := 105 }) (va_Pc [.ref (cA z 6 0), .int i, .int j] (cPreX D y z sz)) (cQ1 D y z sz (fun v u => ∃ k q, k < 9 ∧ q < 4 ∧ i = nI k ∧ j = nI q ∧ v = .long (cJ z 1 (cS z 0 (4 * k + q))) ∧ u = z)) (cX D y z sz (fun E => E = cI_ ∧ ¬ (inR i 9 ∧ inR j 4))) 2 12 (cF z sz) := by
  refine vx_ofW (cc := cX6_kept) (maxL := 3) (ret := (some .long)) (by decide) rfl ?_
  intro p e s m args below meth c s₁ B hml hnt hv
  obtain ⟨rfl, hsz, hW0, hK, hZ⟩ := hv
  have hx := B.exec
  have hb := B.bytes
  have hr := B.returns
  have hts := atoms_spec (ws := wsX6_kept) B.pre
  have hown : s.vm.findClass RX6 = some m.cls := findClass_of_methodNamed B.named
  have hlocks := B.notSynchronized
  subst hsz
  have hW := hW0.self (sz := s.heap.size)
  have hA : ∀ q, s.heap.size ≤ q → cF z s.heap.size q := fun q h => Or.inr h
  have hS : va_S (cF z s.heap.size) s.heap s.heap [] := va_S.rf
  have hl := lv_entry ([.ref (cA z 6 0), .int i, .int j]) (n := 3) (Nat.le_of_ble_eq_true rfl)
  rw [lg_entry_eq]
  generalize (lg_sl ([.ref (cA z 6 0), .int i, .int j]) ++ List.replicate (3 - (lg_sl ([.ref (cA z 6 0), .int i, .int j])).length) Slot.unset).toArray = ls at hl ⊢
  have hl : lv_has ls 3 [(0, .ref (cA z 6 0)), (1, .int i), (2, .int j)] := hl
  have hX6 : ∀ w ∈ wsX60, w ∈ wsX6_kept := by decide +kernel
  have hX2 : ∀ w ∈ wsX20, w ∈ wsX6_kept := by decide +kernel
  have hX5 : ∀ w ∈ wsX50, w ∈ wsX6_kept := by decide +kernel
  refine lv_iload_n hx hb dX6_kept_0 rfl (lv_at hl 1 rfl) ?_
  refine lv_bipush (v := 9) hx hb dX6_kept_1 (by decide) ?_
  refine cx0 (vx_runS (As := [.int (i), .int (9)]) (rest := []) ⟨hx, hb, hml, hown, hts⟩ (m_needIndex l hl0 D y z _ (i) (9)) (va_cwS 2 hts gX6_kept_X6_needIndex rfl rfl rfl (by decide +kernel) ⟨Nat.le_of_ble_eq_true rfl, Nat.le_of_ble_eq_true rfl⟩) (cPreSX hW hK hZ hS hA [.int (i), .int (9)]) rfl rfl hl.1 rfl (lv_room (Nat.le_of_ble_eq_true rfl)) dX6_kept_3 ⟨Nat.le_of_ble_eq_true rfl, Nat.le_of_ble_eq_true rfl⟩) hW hS hA (fun E ce q9 H locs hpx hW hS h1 h2 h3 => cxo hnt hlocks (⟨hpx.1, fun q => hpx.2 q.1⟩) hW hS h1 h2 h3 (Nat.le_of_ble_eq_true rfl) (Nat.le_of_ble_eq_true rfl)) (fun u3 H locs hu3 hW hS => ?_)
  obtain ⟨f3, hR3⟩ := hu3
  replace f3 := f3.symm
  subst f3
  obtain ⟨k, hk, rfl⟩ := inR_nat (n := 9) hR3 (by decide)
  refine lv_iload_n hx hb dX6_kept_6 rfl (lv_at hl 2 rfl) ?_
  refine lv_iconst (v := 4) hx hb dX6_kept_7 (by decide) ?_
  refine cx0 (vx_runS (As := [.int (j), .int (4)]) (rest := []) ⟨hx, hb, hml, hown, hts⟩ (m_needIndex l hl0 D y z _ (j) (4)) (va_cwS 2 hts gX6_kept_X6_needIndex rfl rfl rfl (by decide +kernel) ⟨Nat.le_of_ble_eq_true rfl, Nat.le_of_ble_eq_true rfl⟩) (cPreSX hW hK hZ hS hA [.int (j), .int (4)]) rfl rfl hl.1 rfl (lv_room (Nat.le_of_ble_eq_true rfl)) dX6_kept_8 ⟨Nat.le_of_ble_eq_true rfl, Nat.le_of_ble_eq_true rfl⟩) hW hS hA (fun E ce q9 H locs hpx hW hS h1 h2 h3 => cxo hnt hlocks (⟨hpx.1, fun q => hpx.2 q.2⟩) hW hS h1 h2 h3 (Nat.le_of_ble_eq_true rfl) (Nat.le_of_ble_eq_true rfl)) (fun u8 H locs hu8 hW hS => ?_)
  obtain ⟨f8, hR8⟩ := hu8
  replace f8 := f8.symm
  subst f8
  obtain ⟨q, hq, rfl⟩ := inR_nat (n := 4) hR8 (by decide)
  refine lv_aload_n hx hb dX6_kept_11 rfl (lv_at hl 0 rfl) ?_
  refine lv_iload_n hx hb dX6_kept_12 rfl (lv_at hl 1 rfl) ?_
  refine lv_iload_n hx hb dX6_kept_13 rfl (lv_at hl 2 rfl) ?_
  refine cc1 (va_runV (As := [.int (nI k), .int (nI q)]) (rest := []) ⟨hx, hb, hml, hown, hts⟩ (m_registerOf l D y z _ k q hk hq) (cwV 2 hts gX6_kept_X6_registerOf rfl rfl rfl (by decide +kernel) ⟨Nat.le_of_ble_eq_true rfl, Nat.le_of_ble_eq_true rfl⟩) (cPreV (k := 6) (q := (RX6, TX6, 7)) hW hK (show 0 < 1 from Nat.zero_lt_one) rfl rfl [.int (nI k), .int (nI q)]) rfl rfl hl.1 rfl (lv_room (Nat.le_of_ble_eq_true rfl)) dX6_kept_14 ⟨Nat.le_of_ble_eq_true rfl, Nat.le_of_ble_eq_true rfl⟩) hW hS hA (fun v14 u14 H locs hu14 hW hS => ?_)
  obtain ⟨rfl, f14⟩ := hu14
  replace f14 := f14.symm
  subst f14
  have hp36 : 4 * k + q < 36 := by omega
  have hst9 : cS z 0 (4 * k + q) < cNs z := hV.2.1 _ hp36
  refine gN_Register_state hx hb hts hX2 hown hK.1 hW rfl (by first | assumption | omega | exact Nat.zero_lt_one | decide) (hK.2 _ (List.mem_of_getElem? (i := 3) rfl)) dX6_kept_17 ?_
  refine gN_State_value hx hb hts hX5 hown hK.1 hW rfl (by first | assumption | omega | exact Nat.zero_lt_one | decide) (hK.2 _ (List.mem_of_getElem? (i := 0) rfl)) dX6_kept_20 ?_
  refine vx_ret ?_
  refine W.widen (k := 2) (n := 12) (Nat.le_of_ble_eq_true rfl) (Nat.le_of_ble_eq_true rfl) ?_
  refine W.lret hx hb hr ?_ hS.2.2 dX6_kept_23
  refine cq1 ?_ hW hS
  exact ⟨k, q, hk, hq, rfl, rfl, rfl, rfl⟩
