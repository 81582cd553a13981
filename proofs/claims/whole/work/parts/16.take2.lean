/-- the row of messages: n of them, the places hold things that are there -/
def RowOk (z : CS) (n : Nat) : Prop := cI z 25 0 = nI n ∧ n ≤ 300 ∧ ∀ j, j < 301 → cS z 3 j < 301
theorem fSend_cA (z : CS) (so as ke rq ky ba : Int32) (st : Nat) : cA (fSend z so as ke rq ky ba st) = cA z := by unfold fSend; split <;> rfl
theorem fSend_cNr (z : CS) (so as ke rq ky ba : Int32) (st : Nat) : cNr (fSend z so as ke rq ky ba st) = cNr z := by unfold fSend; split <;> rfl
theorem fSend_cNs (z : CS) (so as ke rq ky ba : Int32) (st : Nat) : cNs (fSend z so as ke rq ky ba st) = cNs z := by unfold fSend; split <;> rfl
theorem fSend_cR (z : CS) (so as ke rq ky ba : Int32) (st : Nat) : cR (fSend z so as ke rq ky ba st) = cR z := by unfold fSend; split <;> rfl
theorem fSend_cS3 (z : CS) (so as ke rq ky ba : Int32) (st : Nat) : cS (fSend z so as ke rq ky ba st) 3 = cS z 3 := by unfold fSend; split <;> rfl
theorem fSend_row {z : CS} {n : Nat} (h : RowOk z n) (so as ke rq ky ba : Int32) (st : Nat) : RowOk (fSend z so as ke rq ky ba st) (if n < 300 then n + 1 else n) := by
  obtain ⟨h1, h2, h3⟩ := h
  refine ⟨?_, by split <;> omega, fun j hj => by rw [fSend_cS3]; exact h3 j hj⟩
  unfold fSend
  rw [h1]
  by_cases hn : n < 300
  · rw [if_pos (show nI n < 300 from nI_lt (b := 300) hn (by decide)), if_pos hn]
    simp only [sS_cI, sI_cI]
    simp [up2, nI_1]
  · rw [if_neg (show ¬ nI n < 300 from nI_nlt (b := 300) (by omega) (by omega)), if_neg hn]
    exact h1
/-- a message to each keeper of the set, from j on, k of them looked at -/
def fSet : Nat → CS → Nat → Int32 → Nat → Int32 → Nat → CS
  | 0, z, _, _, _, _, _ => z
  | k + 1, z, j, so, r, set, st => fSet k (if set &&& ((1 : Int32) <<< (nI j &&& 31)) = 0 then z else fSend z so (cI z 13 r) (nI j) (cI z 12 r) (cI z 14 r) (cI z 16 r) st) (j + 1) so r set st
set_option maxHeartbeats 4000000 in
set_option maxRecDepth 100000 in
theorem m_sendToSet (l : Launch) (D : va_G) (y : Nat → ClassId) (z : CS) (sz : Nat) (so : Int32) (r : Nat) (set : Int32) (st n : Nat) (hr0 : r < cNr z) (hrow : RowOk z n)  : Met l yX6_sendToSet wsX6_sendToSet ({ frames := 1, cells := 0, slots := 0, locals := 28 }) (va_Pc [.ref (cA z 6 0), .int so, .ref (cA z 3 r), .int set, .ref (cA z 5 st)] (cPre D y z sz)) (cQ0 D y z sz (fun u => u = fSet 9 z 0 so r set st)) 0 0 (cF z sz) := by
  refine Met.ofW (cc := cX6_sendToSet) (maxL := 6) (ret := none) (by decide) rfl ?_
  intro p e s m args below meth c s₁ B hml hv
  obtain ⟨rfl, hsz, hW0, hK⟩ := hv
  have hx := B.exec
  have hb := B.bytes
  have hr := B.returns
  have hts := atoms_spec (ws := wsX6_sendToSet) B.pre
  have hown : s.vm.findClass RX6 = some m.cls := findClass_of_methodNamed B.named
  have hlocks := B.notSynchronized
  subst hsz
  have hW := hW0.self (sz := s.heap.size)
  have hA : ∀ q, s.heap.size ≤ q → cF z s.heap.size q := fun q h => Or.inr h
  have hS : va_S (cF z s.heap.size) s.heap s.heap [] := va_S.rf
  have hl := lv_entry ([.ref (cA z 6 0), .int so, .ref (cA z 3 r), .int set, .ref (cA z 5 st)]) (n := 6) (Nat.le_of_ble_eq_true rfl)
  rw [lg_entry_eq]
  generalize (lg_sl ([.ref (cA z 6 0), .int so, .ref (cA z 3 r), .int set, .ref (cA z 5 st)]) ++ List.replicate (6 - (lg_sl ([.ref (cA z 6 0), .int so, .ref (cA z 3 r), .int set, .ref (cA z 5 st)])).length) Slot.unset).toArray = ls at hl ⊢
  have hl : lv_has ls 6 [(0, .ref (cA z 6 0)), (1, .int so), (2, .ref (cA z 3 r)), (3, .int set), (4, .ref (cA z 5 st))] := hl
  have hX6 : ∀ w ∈ wsX60, w ∈ wsX6_sendToSet := by decide +kernel
  have hX3 : ∀ w ∈ wsX30, w ∈ wsX6_sendToSet := by decide +kernel
  refine lv_iconst (v := 0) hx hb dX6_sendToSet_0 (by decide) ?_
  refine lv_istore (lv' := [(5, _), (0, _), (1, _), (2, _), (3, _), (4, _)]) hx hb dX6_sendToSet_1 hl (by decide) rfl (fun ls hl => ?_)
  have loop : ∀ (k : Nat) (x : CS) (j n : Nat) (H : Heap) (locs : List Loc) (ls : Array Slot), j + k = 9 → RowOk x n → r < cNr x → fSet k x j so r set st = fSet 9 z 0 so r set st → cw D y (cF z s.heap.size) x H → va_S (cF z s.heap.size) s.heap H locs → lv_has ls 6 [(5, .int (nI j)), (0, .ref (cA x 6 0)), (1, .int so), (2, .ref (cA x 3 r)), (3, .int set), (4, .ref (cA x 5 st))] → W p l e (headSpec wsX6_sendToSet { frames := 1, cells := 0, slots := 0, locals := 28 }).room s m #[.ref (cA z 6 0), .int so, .ref (cA z 3 r), .int set, .ref (cA z 5 st)] below meth c H locs 0 0 (MQ below (cQ0 D y z s.heap.size (fun u => u = fSet 9 z 0 so r set st)) #[.ref (cA z 6 0), .int so, .ref (cA z 3 r), .int set, .ref (cA z 5 st)] s 0 0 (cF z s.heap.size)) (F0 m 3 ls []) := by
    intro k
    induction k with
    | zero =>
      intro x j n H locs ls hj hrow hr0 hfx hW hS hl
      refine lv_iload hx hb dX6_sendToSet_3 (lv_at hl 0 rfl) ?_
      refine lv_bipush (v := 9) hx hb dX6_sendToSet_5 (by decide) ?_
      refine lv_icmp_ge (tgt := 53) hx hb dX6_sendToSet_7 (by decide) (fun _ => ?_) (fun c_7 => absurd (show (9 : Int32) ≤ nI j from nI_le (a := 9) (by omega) (by omega)) c_7)
      refine W.vret hx hb hr ?_ hS.2.2 dX6_sendToSet_53
      refine cq0 ?_ hW hS
      exact hfx
    | succ k ih =>
      intro x j n H locs ls hj hrow hr0 hfx hW hS hl
      obtain ⟨hn, hn0, h3⟩ := id hrow
      refine lv_iload hx hb dX6_sendToSet_3 (lv_at hl 0 rfl) ?_
      refine lv_bipush (v := 9) hx hb dX6_sendToSet_5 (by decide) ?_
      refine lv_icmp_ge (tgt := 53) hx hb dX6_sendToSet_7 (by decide) (fun c_7 => absurd c_7 (show ¬ (9 : Int32) ≤ nI j from nI_ge (b := 9) (by omega) (by decide))) (fun _ => ?_)
      refine lv_iload_n hx hb dX6_sendToSet_10 rfl (lv_at hl 4 rfl) ?_
      refine lv_iconst (v := 1) hx hb dX6_sendToSet_11 (by decide) ?_
      refine lv_iload hx hb dX6_sendToSet_12 (lv_at hl 0 rfl) ?_
      refine lv_ishl hx hb dX6_sendToSet_14 ?_
      refine lv_iand hx hb dX6_sendToSet_15 ?_
      refine lv_if_eq (tgt := 47) hx hb dX6_sendToSet_16 (by decide) (fun c_16 => ?_) (fun c_16 => ?_)
      · refine lv_iinc (v := nI (j + 1)) (lv' := [(5, _), (0, _), (1, _), (2, _), (3, _), (4, _)]) hx hb dX6_sendToSet_47 hl (k := 0) rfl (nI_1 j) (by decide) rfl (fun ls hl => ?_)
        refine lv_goto (tgt := 3) hx hb dX6_sendToSet_50 (by decide) ?_
        exact ih x (j + 1) n _ _ ls (by omega) hrow hr0 (by rw [← hfx, fSet, if_pos c_16]) hW hS hl
      · refine lv_aload_n hx hb dX6_sendToSet_19 rfl (lv_at hl 1 rfl) ?_
        refine g_SharedRegisters_row hx hb hts hX6 hown hK.1 hW rfl (by first | assumption | omega | exact Nat.zero_lt_one | decide) (hts (.fieldLink RX6 49 "SharedRegisters" "row" "LSharedRegisters$Row;") (by decide +kernel)) dX6_sendToSet_20 ?_
        refine lv_iload_n hx hb dX6_sendToSet_23 rfl (lv_at hl 2 rfl) ?_
        refine lv_aload_n hx hb dX6_sendToSet_24 rfl (lv_at hl 3 rfl) ?_
        refine gN_Request_asker hx hb hts hX3 hown hK.1 hW rfl (by first | assumption | omega | exact Nat.zero_lt_one | decide) (hK.2 _ (List.mem_of_getElem? (i := 29) rfl)) dX6_sendToSet_25 ?_
        refine lv_iload hx hb dX6_sendToSet_28 (lv_at hl 0 rfl) ?_
        refine lv_aload_n hx hb dX6_sendToSet_30 rfl (lv_at hl 3 rfl) ?_
        refine gN_Request_number hx hb hts hX3 hown hK.1 hW rfl (by first | assumption | omega | exact Nat.zero_lt_one | decide) (hK.2 _ (List.mem_of_getElem? (i := 28) rfl)) dX6_sendToSet_31 ?_
        refine lv_aload_n hx hb dX6_sendToSet_34 rfl (lv_at hl 3 rfl) ?_
        refine gN_Request_key hx hb hts hX3 hown hK.1 hW rfl (by first | assumption | omega | exact Nat.zero_lt_one | decide) (hK.2 _ (List.mem_of_getElem? (i := 30) rfl)) dX6_sendToSet_35 ?_
        refine lv_aload_n hx hb dX6_sendToSet_38 rfl (lv_at hl 3 rfl) ?_
        refine gN_Request_ballot hx hb hts hX3 hown hK.1 hW rfl (by first | assumption | omega | exact Nat.zero_lt_one | decide) (hK.2 _ (List.mem_of_getElem? (i := 31) rfl)) dX6_sendToSet_39 ?_
        refine lv_aload hx hb dX6_sendToSet_42 (lv_at hl 5 rfl) ?_
        refine cc0 (va_runVN (As := [.int so, .int (cI x 13 r), .int (nI j), .int (cI x 12 r), .int (cI x 14 r), .int (cI x 16 r), .ref (cA x 5 st)]) (rest := []) ⟨hx, hb, hml, hown, hts⟩ (m_Row_send l D y x _ so (cI x 13 r) (nI j) (cI x 12 r) (cI x 14 r) (cI x 16 r) st n hn hn0 h3) ⟨(va_cnB 7 hts gX6_sendToSet_X4_send_n136 rfl rfl rfl (hK.2 _ (List.mem_of_getElem? (i := 45) rfl)) (hts (.initialized RX4) (by decide +kernel)) (by decide +kernel) ⟨Nat.le_of_ble_eq_true rfl, Nat.le_of_ble_eq_true rfl⟩), hts (.instanceMethod yX4_send) (by decide +kernel), hts (.selects RX4 yX4_send yX4_send) (by decide +kernel)⟩ (cPreV (k := 4) (q := (RX4, TX4, 2)) hW hK (show 0 < 1 from Nat.zero_lt_one) rfl rfl [.int so, .int (cI x 13 r), .int (nI j), .int (cI x 12 r), .int (cI x 14 r), .int (cI x 16 r), .ref (cA x 5 st)]) rfl rfl hl.1 rfl (lv_room (Nat.le_of_ble_eq_true rfl)) dX6_sendToSet_44 ⟨Nat.le_of_ble_eq_true rfl, Nat.le_of_ble_eq_true rfl⟩) hW hS hA (fun u44 H locs hu44 hW hS => ?_)
        subst hu44
        refine lv_iinc (v := nI (j + 1)) (lv' := [(5, _), (0, _), (1, _), (2, _), (3, _), (4, _)]) hx hb dX6_sendToSet_47 hl (k := 0) rfl (nI_1 j) (by decide) rfl (fun ls hl => ?_)
        refine lv_goto (tgt := 3) hx hb dX6_sendToSet_50 (by decide) ?_
        exact ih _ (j + 1) _ _ _ ls (by omega) (fSend_row hrow _ _ _ _ _ _ _) (by rw [fSend_cNr]; exact hr0) (by rw [← hfx, fSet, if_neg c_16]) hW hS (by rw [fSend_cA]; exact hl)
  exact loop 9 z 0 n _ _ ls (by omega) hrow hr0 rfl hW hS hl
def fTaken (z : CS) (m a : Nat) : CS := match fAwait z m a 1 with
  | none => z
  | some r => if fBC (cI z 21 r ||| ((1 : Int32) <<< (cI z 8 m &&& 31))) < cI z 19 r then sI z 21 r (cI z 21 r ||| ((1 : Int32) <<< (cI z 8 m &&& 31))) else fEnd (sI z 21 r (cI z 21 r ||| ((1 : Int32) <<< (cI z 8 m &&& 31)))) a 1
theorem fAwait_lt {z : CS} {m a r : Nat} {acc : Int32} (hcr : ∀ r, cR z 1 a = some r → r < cNr z) (h : fAwait z m a acc = some r) : r < cNr z ∧ cR z 1 a = some r := by
  unfold fAwait at h
  cases hc : cR z 1 a with
  | none => rw [hc] at h; cases h
  | some r' =>
    rw [hc] at h
    simp only at h
    split at h
    · split at h
      · split at h
        · cases h; exact ⟨hcr _ hc, rfl⟩
        · cases h
      · cases h
    · cases h
set_option maxHeartbeats 4000000 in
set_option maxRecDepth 100000 in
theorem m_takeTaken (l : Launch) (D : va_G) (y : Nat → ClassId) (z : CS) (sz : Nat) (m0 a : Nat) (hm0 : m0 < 301) (ha : a < 4) (ham : cI z 7 m0 = nI a) (hcr : ∀ r, cR z 1 a = some r → r < cNr z)  : Met l yX6_takeTaken wsX6_takeTaken ({ frames := 2, cells := 0, slots := 0, locals := 50 }) (va_Pc [.ref (cA z 6 0), .ref (cA z 1 m0)] (cPre D y z sz)) (cQ0 D y z sz (fun u => u = fTaken z m0 a)) 0 0 (cF z sz) := by
  refine Met.ofW (cc := cX6_takeTaken) (maxL := 3) (ret := none) (by decide) rfl ?_
  intro p e s m args below meth c s₁ B hml hv
  obtain ⟨rfl, hsz, hW0, hK⟩ := hv
  have hx := B.exec
  have hb := B.bytes
  have hr := B.returns
  have hts := atoms_spec (ws := wsX6_takeTaken) B.pre
  have hown : s.vm.findClass RX6 = some m.cls := findClass_of_methodNamed B.named
  have hlocks := B.notSynchronized
  subst hsz
  have hW := hW0.self (sz := s.heap.size)
  have hA : ∀ q, s.heap.size ≤ q → cF z s.heap.size q := fun q h => Or.inr h
  have hS : va_S (cF z s.heap.size) s.heap s.heap [] := va_S.rf
  have hl := lv_entry ([.ref (cA z 6 0), .ref (cA z 1 m0)]) (n := 3) (Nat.le_of_ble_eq_true rfl)
  rw [lg_entry_eq]
  generalize (lg_sl ([.ref (cA z 6 0), .ref (cA z 1 m0)]) ++ List.replicate (3 - (lg_sl ([.ref (cA z 6 0), .ref (cA z 1 m0)])).length) Slot.unset).toArray = ls at hl ⊢
  have hl : lv_has ls 3 [(0, .ref (cA z 6 0)), (1, .ref (cA z 1 m0))] := hl
  have hX6 : ∀ w ∈ wsX60, w ∈ wsX6_takeTaken := by decide +kernel
  have hX1 : ∀ w ∈ wsX10, w ∈ wsX6_takeTaken := by decide +kernel
  have hX3 : ∀ w ∈ wsX30, w ∈ wsX6_takeTaken := by decide +kernel
  refine lv_aload_n hx hb dX6_takeTaken_0 rfl (lv_at hl 0 rfl) ?_
  refine lv_aload_n hx hb dX6_takeTaken_1 rfl (lv_at hl 1 rfl) ?_
  refine lv_iconst (v := 1) hx hb dX6_takeTaken_2 (by decide) ?_
  refine cc1 (va_runV (As := [.ref (cA z 1 m0), .int 1]) (rest := []) ⟨hx, hb, hml, hown, hts⟩ (m_awaiting l D y z _ m0 a 1 hm0 ha ham hcr) (cwV 2 hts gX6_takeTaken_X6_awaiting rfl rfl rfl (by decide +kernel) ⟨Nat.le_of_ble_eq_true rfl, Nat.le_of_ble_eq_true rfl⟩) (cPreV (k := 6) (q := (RX6, TX6, 7)) hW hK (show 0 < 1 from Nat.zero_lt_one) rfl rfl [.ref (cA z 1 m0), .int 1]) rfl rfl hl.1 rfl (lv_room (Nat.le_of_ble_eq_true rfl)) dX6_takeTaken_3 ⟨Nat.le_of_ble_eq_true rfl, Nat.le_of_ble_eq_true rfl⟩) hW hS hA (fun v3 u3 H locs hu3 hW hS => ?_)
  obtain ⟨rfl, f3⟩ := hu3
  replace f3 := f3.symm
  subst f3
  cases ho : fAwait z m0 a 1 with
  | none =>
    refine W.eq (g2 := F0 m 6 ls [.null]) rfl ?_
    refine lv_astore_nN (lv' := [(2, _), (0, _), (1, _)]) hx hb dX6_takeTaken_6 rfl hl (by decide) rfl (fun ls hl => ?_)
    refine lv_aload_nN hx hb dX6_takeTaken_7 rfl (lv_at hl 0 rfl) ?_
    refine lv_ifnonnullN hx hb dX6_takeTaken_8 ?_
    refine W.vret hx hb hr ?_ hS.2.2 dX6_takeTaken_11
    refine cq0 ?_ hW hS
    exact (by rw [fTaken, ho])
  | some r =>
    refine W.eq (g2 := F0 m 6 ls [.ref (cA z 3 r)]) rfl ?_
    obtain ⟨hr0, hc⟩ := fAwait_lt hcr ho
    refine lv_astore_n (lv' := [(2, _), (0, _), (1, _)]) hx hb dX6_takeTaken_6 rfl hl (by decide) rfl (fun ls hl => ?_)
    refine lv_aload_n hx hb dX6_takeTaken_7 rfl (lv_at hl 0 rfl) ?_
    refine lv_ifnonnull (tgt := 12) hx hb dX6_takeTaken_8 (by decide) ?_
    refine lv_aload_n hx hb dX6_takeTaken_12 rfl (lv_at hl 0 rfl) ?_
    refine lv_aload_n hx hb dX6_takeTaken_13 rfl (lv_at hl 2 rfl) ?_
    refine gN_Message_keeper hx hb hts hX1 hown hK.1 hW rfl (by first | assumption | omega | exact Nat.zero_lt_one | decide) (hK.2 _ (List.mem_of_getElem? (i := 17) rfl)) dX6_takeTaken_14 ?_
    refine cc0 (va_runVN (As := [.int (cI z 8 m0)]) (rest := []) ⟨hx, hb, hml, hown, hts⟩ (m_Request_countAnswer l D y z _ r (cI z 8 m0) hr0) ⟨(va_cnB 1 hts gX6_takeTaken_X3_countAnswer_n234 rfl rfl rfl (hK.2 _ (List.mem_of_getElem? (i := 50) rfl)) (hts (.initialized RX3) (by decide +kernel)) (by decide +kernel) ⟨Nat.le_of_ble_eq_true rfl, Nat.le_of_ble_eq_true rfl⟩), hts (.instanceMethod yX3_countAnswer) (by decide +kernel), hts (.selects RX3 yX3_countAnswer yX3_countAnswer) (by decide +kernel)⟩ (cPreV (k := 3) (q := (RX3, TX3, 15)) hW hK hr0 rfl rfl [.int (cI z 8 m0)]) rfl rfl hl.1 rfl (lv_room (Nat.le_of_ble_eq_true rfl)) dX6_takeTaken_17 ⟨Nat.le_of_ble_eq_true rfl, Nat.le_of_ble_eq_true rfl⟩) hW hS hA (fun u17 H locs hu17 hW hS => ?_)
    subst hu17
    refine lv_aload_n hx hb dX6_takeTaken_20 rfl (lv_at hl 0 rfl) ?_
    refine cc1 (va_runVN (As := []) (rest := []) ⟨hx, hb, hml, hown, hts⟩ (m_Request_answers l D y (sI z 21 r (cI z 21 r ||| ((1 : Int32) <<< (cI z 8 m0 &&& 31)))) _ r hr0) ⟨(va_cnB 0 hts gX6_takeTaken_X3_answers_n174 rfl rfl rfl (hK.2 _ (List.mem_of_getElem? (i := 51) rfl)) (hts (.initialized RX3) (by decide +kernel)) (by decide +kernel) ⟨Nat.le_of_ble_eq_true rfl, Nat.le_of_ble_eq_true rfl⟩), hts (.instanceMethod yX3_answers) (by decide +kernel), hts (.selects RX3 yX3_answers yX3_answers) (by decide +kernel)⟩ (cPreV (k := 3) (q := (RX3, TX3, 15)) hW hK hr0 rfl rfl []) rfl rfl hl.1 rfl (lv_room (Nat.le_of_ble_eq_true rfl)) dX6_takeTaken_21 ⟨Nat.le_of_ble_eq_true rfl, Nat.le_of_ble_eq_true rfl⟩) hW hS hA (fun v21 u21 H locs hu21 hW hS => ?_)
    obtain ⟨e21, f21⟩ := hu21
    subst f21
    rw [sI_cI, up2_s] at e21
    subst e21
    refine lv_aload_n hx hb dX6_takeTaken_24 rfl (lv_at hl 0 rfl) ?_
    refine gN_Request_enoughTaken hx hb hts hX3 hown hK.1 hW rfl (by first | assumption | omega | exact Nat.zero_lt_one | decide) (hK.2 _ (List.mem_of_getElem? (i := 34) rfl)) dX6_takeTaken_25 ?_
    rw [show cI (sI z 21 r (cI z 21 r ||| ((1 : Int32) <<< (cI z 8 m0 &&& 31)))) 19 r = cI z 19 r from rfl]
    refine lv_icmp_lt (tgt := 45) hx hb dX6_takeTaken_28 (by decide) (fun c_28 => ?_) (fun c_28 => ?_)
    · refine W.vret hx hb hr ?_ hS.2.2 dX6_takeTaken_45
      refine cq0 ?_ hW hS
      exact (by rw [fTaken, ho]; simp only; rw [if_pos c_28])
    · refine lv_aload_n hx hb dX6_takeTaken_31 rfl (lv_at hl 1 rfl) ?_
      refine g_SharedRegisters_askers hx hb hts hX6 hown hK.1 hW rfl (by first | assumption | omega | exact Nat.zero_lt_one | decide) (hts (.fieldLink RX6 33 "SharedRegisters" "askers" "[LSharedRegisters$Asker;") (by decide +kernel)) dX6_takeTaken_32 ?_
      refine lv_aload_n hx hb dX6_takeTaken_35 rfl (lv_at hl 2 rfl) ?_
      refine gN_Message_asker hx hb hts hX1 hown hK.1 hW rfl (by first | assumption | omega | exact Nat.zero_lt_one | decide) (hK.2 _ (List.mem_of_getElem? (i := 15) rfl)) dX6_takeTaken_36 ?_
      rw [show cI (sI z 21 r (cI z 21 r ||| ((1 : Int32) <<< (cI z 8 m0 &&& 31)))) 7 m0 = nI a from ham]
      refine al_askers hx hb hK.1 hW rfl (vp_in_nI ha (by decide)) dX6_takeTaken_39 ?_
      rw [nI_clamp (show a < 2 ^ 31 by omega)]
      refine lv_iconst (v := 1) hx hb dX6_takeTaken_40 (by decide) ?_
      refine cc1 (va_runS (As := [.ref (cA z 0 a), .int 1]) (rest := []) ⟨hx, hb, hml, hown, hts⟩ (m_endCurrent l D y (sI z 21 r (cI z 21 r ||| ((1 : Int32) <<< (cI z 8 m0 &&& 31)))) _ a 1 ha hcr) (va_cwS 2 hts gX6_takeTaken_X6_endCurrent rfl rfl rfl (by decide +kernel) ⟨Nat.le_of_ble_eq_true rfl, Nat.le_of_ble_eq_true rfl⟩) (cPreS hW hK [.ref (cA z 0 a), .int 1]) rfl rfl hl.1 rfl (lv_room (Nat.le_of_ble_eq_true rfl)) dX6_takeTaken_41 ⟨Nat.le_of_ble_eq_true rfl, Nat.le_of_ble_eq_true rfl⟩) hW hS hA (fun v41 u41 H locs hu41 hW hS => ?_)
      obtain ⟨rfl, rfl⟩ := hu41
      refine lv_pop hx hb dX6_takeTaken_44 rfl ?_
      refine W.vret hx hb hr ?_ hS.2.2 dX6_takeTaken_45
      refine cq0 ?_ hW hS
      exact (by rw [fTaken, ho]; simp only; rw [if_neg c_28])
def cnt4 (z : CS) (m a : Nat) : Int32 := if cI z 3 a < cI z 11 m / 4 then cI z 11 m / 4 else cI z 3 a
def fRef (z : CS) (m a : Nat) : CS := match cR z 1 a with
  | none => sI z 3 a (cnt4 z m a)
  | some r => if cI z 12 r = cI z 9 m then fEnd (sI z 3 a (cnt4 z m a)) a 2 else sI z 3 a (cnt4 z m a)
set_option maxHeartbeats 4000000 in
set_option maxRecDepth 100000 in
theorem m_takeRefused (l : Launch) (D : va_G) (y : Nat → ClassId) (z : CS) (sz : Nat) (m0 a : Nat) (hm0 : m0 < 301) (ha : a < 4) (ham : cI z 7 m0 = nI a) (hcr : ∀ r, cR z 1 a = some r → r < cNr z)  : Met l yX6_takeRefused wsX6_takeRefused ({ frames := 1, cells := 0, slots := 0, locals := 30 }) (va_Pc [.ref (cA z 6 0), .ref (cA z 1 m0)] (cPre D y z sz)) (cQ0 D y z sz (fun u => u = fRef z m0 a)) 0 0 (cF z sz) := by
  refine Met.ofW (cc := cX6_takeRefused) (maxL := 3) (ret := none) (by decide) rfl ?_
  intro p e s m args below meth c s₁ B hml hv
  obtain ⟨rfl, hsz, hW0, hK⟩ := hv
  have hx := B.exec
  have hb := B.bytes
  have hr := B.returns
  have hts := atoms_spec (ws := wsX6_takeRefused) B.pre
  have hown : s.vm.findClass RX6 = some m.cls := findClass_of_methodNamed B.named
  have hlocks := B.notSynchronized
  subst hsz
  have hW := hW0.self (sz := s.heap.size)
  have hA : ∀ q, s.heap.size ≤ q → cF z s.heap.size q := fun q h => Or.inr h
  have hS : va_S (cF z s.heap.size) s.heap s.heap [] := va_S.rf
  have hl := lv_entry ([.ref (cA z 6 0), .ref (cA z 1 m0)]) (n := 3) (Nat.le_of_ble_eq_true rfl)
  rw [lg_entry_eq]
  generalize (lg_sl ([.ref (cA z 6 0), .ref (cA z 1 m0)]) ++ List.replicate (3 - (lg_sl ([.ref (cA z 6 0), .ref (cA z 1 m0)])).length) Slot.unset).toArray = ls at hl ⊢
  have hl : lv_has ls 3 [(0, .ref (cA z 6 0)), (1, .ref (cA z 1 m0))] := hl
  have hX6 : ∀ w ∈ wsX60, w ∈ wsX6_takeRefused := by decide +kernel
  have hX1 : ∀ w ∈ wsX10, w ∈ wsX6_takeRefused := by decide +kernel
  have hX0 : ∀ w ∈ wsX00, w ∈ wsX6_takeRefused := by decide +kernel
  have hX3 : ∀ w ∈ wsX30, w ∈ wsX6_takeRefused := by decide +kernel
  refine lv_aload_n hx hb dX6_takeRefused_0 rfl (lv_at hl 0 rfl) ?_
  refine g_SharedRegisters_askers hx hb hts hX6 hown hK.1 hW rfl (by first | assumption | omega | exact Nat.zero_lt_one | decide) (hts (.fieldLink RX6 33 "SharedRegisters" "askers" "[LSharedRegisters$Asker;") (by decide +kernel)) dX6_takeRefused_1 ?_
  refine lv_aload_n hx hb dX6_takeRefused_4 rfl (lv_at hl 1 rfl) ?_
  refine gN_Message_asker hx hb hts hX1 hown hK.1 hW rfl (by first | assumption | omega | exact Nat.zero_lt_one | decide) (hK.2 _ (List.mem_of_getElem? (i := 15) rfl)) dX6_takeRefused_5 ?_
  rw [ham]
  refine al_askers hx hb hK.1 hW rfl (vp_in_nI ha (by decide)) dX6_takeRefused_8 ?_
  rw [nI_clamp (show a < 2 ^ 31 by omega)]
  refine lv_astore_n (lv' := [(2, _), (0, _), (1, _)]) hx hb dX6_takeRefused_9 rfl hl (by decide) rfl (fun ls hl => ?_)
  refine lv_aload_n hx hb dX6_takeRefused_10 rfl (lv_at hl 0 rfl) ?_
  refine lv_aload_n hx hb dX6_takeRefused_11 rfl (lv_at hl 0 rfl) ?_
  refine gN_Asker_count hx hb hts hX0 hown hK.1 hW rfl (by first | assumption | omega | exact Nat.zero_lt_one | decide) (hK.2 _ (List.mem_of_getElem? (i := 10) rfl)) dX6_takeRefused_12 ?_
  refine lv_aload_n hx hb dX6_takeRefused_15 rfl (lv_at hl 2 rfl) ?_
  refine gN_Message_ballot hx hb hts hX1 hown hK.1 hW rfl (by first | assumption | omega | exact Nat.zero_lt_one | decide) (hK.2 _ (List.mem_of_getElem? (i := 23) rfl)) dX6_takeRefused_16 ?_
  refine lv_iconst (v := 4) hx hb dX6_takeRefused_19 (by decide) ?_
  refine lv_idiv hx hb dX6_takeRefused_20 (by decide) ?_
  refine va_mmax hx hb (by rw [hml]; exact hl.1.symm) hown (hts (.methodLink RX6 249 Lib.Math.max.name) (by decide +kernel)) (hts (.static Lib.Math.max.name) (by decide +kernel)) (hts (.initialized "java/lang/Math") (by decide +kernel)) (hts (.code Lib.Math.max.name Lib.Math.max.code 2 (some .int)) (by decide +kernel)) (Nat.le_of_ble_eq_true rfl) (Nat.le_of_ble_eq_true rfl) (Nat.zero_le _) (Nat.zero_le _) dX6_takeRefused_21 ?_
  refine pN_Asker_count hx hb hts hX0 hown hK.1 hW hS rfl (by first | assumption | omega | exact Nat.zero_lt_one | decide) (hK.2 _ (List.mem_of_getElem? (i := 10) rfl)) dX6_takeRefused_24 (fun H locs hW hS => ?_)
  have hW : cw D y (cF z s.heap.size) (sI z 3 a (cnt4 z m0 a)) H := hW
  cases hc : cR z 1 a with
  | none =>
    refine lv_aload_n hx hb dX6_takeRefused_27 rfl (lv_at hl 0 rfl) ?_
    refine gN_Asker_current_n hx hb hts hX0 hown hK.1 hW rfl hc (by first | assumption | omega | exact Nat.zero_lt_one | decide) (hK.2 _ (List.mem_of_getElem? (i := 11) rfl)) dX6_takeRefused_28 ?_
    refine lv_ifnullN (tgt := 54) hx hb dX6_takeRefused_31 (by decide) ?_
    refine W.vret hx hb hr ?_ hS.2.2 dX6_takeRefused_54
    refine cq0 ?_ hW hS
    exact (by rw [fRef, hc])
  | some r =>
    have hr0 : r < cNr z := hcr r hc
    refine lv_aload_n hx hb dX6_takeRefused_27 rfl (lv_at hl 0 rfl) ?_
    refine gN_Asker_current_s hx hb hts hX0 hown hK.1 hW rfl hc (by first | assumption | omega | exact Nat.zero_lt_one | decide) (hK.2 _ (List.mem_of_getElem? (i := 11) rfl)) dX6_takeRefused_28 ?_
    refine lv_ifnull hx hb dX6_takeRefused_31 ?_
    refine lv_aload_n hx hb dX6_takeRefused_34 rfl (lv_at hl 0 rfl) ?_
    refine gN_Asker_current_s hx hb hts hX0 hown hK.1 hW rfl hc (by first | assumption | omega | exact Nat.zero_lt_one | decide) (hK.2 _ (List.mem_of_getElem? (i := 11) rfl)) dX6_takeRefused_35 ?_
    refine gN_Request_number hx hb hts hX3 hown hK.1 hW rfl (by first | assumption | omega | exact Nat.zero_lt_one | decide) (hK.2 _ (List.mem_of_getElem? (i := 28) rfl)) dX6_takeRefused_38 ?_
    refine lv_aload_n hx hb dX6_takeRefused_41 rfl (lv_at hl 2 rfl) ?_
    refine gN_Message_request hx hb hts hX1 hown hK.1 hW rfl (by first | assumption | omega | exact Nat.zero_lt_one | decide) (hK.2 _ (List.mem_of_getElem? (i := 19) rfl)) dX6_takeRefused_42 ?_
    refine lv_icmp_ne (tgt := 54) hx hb dX6_takeRefused_45 (by decide) (fun c_45 => ?_) (fun c_45 => ?_)
    · refine W.vret hx hb hr ?_ hS.2.2 dX6_takeRefused_54
      refine cq0 ?_ hW hS
      exact (by rw [fRef, hc]; simp only; rw [if_neg (show ¬ cI z 12 r = cI z 9 m0 from c_45)])
    · refine lv_aload_n hx hb dX6_takeRefused_48 rfl (lv_at hl 0 rfl) ?_
      refine lv_iconst (v := 2) hx hb dX6_takeRefused_49 (by decide) ?_
      refine cc1 (va_runS (As := [.ref (cA z 0 a), .int 2]) (rest := []) ⟨hx, hb, hml, hown, hts⟩ (m_endCurrent l D y (sI z 3 a (cnt4 z m0 a)) _ a 2 ha hcr) (va_cwS 2 hts gX6_takeRefused_X6_endCurrent rfl rfl rfl (by decide +kernel) ⟨Nat.le_of_ble_eq_true rfl, Nat.le_of_ble_eq_true rfl⟩) (cPreS hW hK [.ref (cA z 0 a), .int 2]) rfl rfl hl.1 rfl (lv_room (Nat.le_of_ble_eq_true rfl)) dX6_takeRefused_50 ⟨Nat.le_of_ble_eq_true rfl, Nat.le_of_ble_eq_true rfl⟩) hW hS hA (fun v50 u50 H locs hu50 hW hS => ?_)
      obtain ⟨rfl, rfl⟩ := hu50
      refine lv_pop hx hb dX6_takeRefused_53 rfl ?_
      refine W.vret hx hb hr ?_ hS.2.2 dX6_takeRefused_54
      refine cq0 ?_ hW hS
      exact (by rw [fRef, hc]; simp only; rw [if_pos (show cI z 12 r = cI z 9 m0 from c_45)])
