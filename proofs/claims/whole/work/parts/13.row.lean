/-- a message more at the end of the row, if it has room -/
def fSend (z : CS) (so as ke rq ky ba : Int32) (st : Nat) : CS := if cI z 25 0 < 300 then sS (sI (sI (sI (sI (sI (sI (sI z 25 0 (cI z 25 0 + 1)) 6 (cS z 3 (cI z 25 0).toNatClampNeg) so) 7 (cS z 3 (cI z 25 0).toNatClampNeg) as) 8 (cS z 3 (cI z 25 0).toNatClampNeg) ke) 9 (cS z 3 (cI z 25 0).toNatClampNeg) rq) 10 (cS z 3 (cI z 25 0).toNatClampNeg) ky) 11 (cS z 3 (cI z 25 0).toNatClampNeg) ba) 2 (cS z 3 (cI z 25 0).toNatClampNeg) st else z
set_option maxHeartbeats 4000000 in
set_option maxRecDepth 100000 in
theorem m_Row_send (l : Launch) (D : va_G) (y : Nat → ClassId) (z : CS) (sz : Nat) (so as ke rq ky ba : Int32) (st n : Nat) (hn : cI z 25 0 = nI n) (hn0 : n ≤ 300) (h3 : ∀ j, j < 301 → cS z 3 j < 301)  : Met l yX4_send wsX4_send ({ frames := 0, cells := 0, slots := 0, locals := 0 }) (va_Pc [.ref (cA z 4 0), .int so, .int as, .int ke, .int rq, .int ky, .int ba, .ref (cA z 5 st)] (cPre D y z sz)) (cQ0 D y z sz (fun u => u = fSend z so as ke rq ky ba st)) 0 0 (cF z sz) := by
  refine Met.ofW (cc := cX4_send) (maxL := 9) (ret := none) (by decide) rfl ?_
  intro p e s m args below meth c s₁ B hml hv
  obtain ⟨rfl, hsz, hW0, hK⟩ := hv
  have hx := B.exec
  have hb := B.bytes
  have hr := B.returns
  have hts := atoms_spec (ws := wsX4_send) B.pre
  have hown : s.vm.findClass RX4 = some m.cls := findClass_of_methodNamed B.named
  have hlocks := B.notSynchronized
  subst hsz
  have hW := hW0.self (sz := s.heap.size)
  have hA : ∀ q, s.heap.size ≤ q → cF z s.heap.size q := fun q h => Or.inr h
  have hS : va_S (cF z s.heap.size) s.heap s.heap [] := va_S.rf
  have hl := lv_entry ([.ref (cA z 4 0), .int so, .int as, .int ke, .int rq, .int ky, .int ba, .ref (cA z 5 st)]) (n := 9) (Nat.le_of_ble_eq_true rfl)
  rw [lg_entry_eq]
  generalize (lg_sl ([.ref (cA z 4 0), .int so, .int as, .int ke, .int rq, .int ky, .int ba, .ref (cA z 5 st)]) ++ List.replicate (9 - (lg_sl ([.ref (cA z 4 0), .int so, .int as, .int ke, .int rq, .int ky, .int ba, .ref (cA z 5 st)])).length) Slot.unset).toArray = ls at hl ⊢
  have hl : lv_has ls 9 [(0, .ref (cA z 4 0)), (1, .int so), (2, .int as), (3, .int ke), (4, .int rq), (5, .int ky), (6, .int ba), (7, .ref (cA z 5 st))] := hl
  have hX4 : ∀ w ∈ wsX40, w ∈ wsX4_send := by decide +kernel
  have hX1 : ∀ w ∈ wsX10, w ∈ wsX4_send := by decide +kernel
  refine lv_aload_n hx hb dX4_send_0 rfl (lv_at hl 0 rfl) ?_
  refine g_Row_size hx hb hts hX4 hown hK.1 hW rfl (by first | assumption | omega | exact Nat.zero_lt_one | decide) (hts (.fieldLink RX4 20 "SharedRegisters$Row" "size" "I") (by decide +kernel)) dX4_send_1 ?_
  refine lv_sipush (v := 300) hx hb dX4_send_4 (by decide) ?_
  refine lv_icmp_lt (tgt := 11) hx hb dX4_send_7 (by decide) (fun c_7 => ?_) (fun c_7 => ?_)
  · have hn3 : n < 300 := by rw [hn] at c_7; exact (nI_ltI (by omega) (by decide)).mp c_7
    have hin25 : vp_in (cI z 25 0) 301 := by rw [hn]; exact vp_in_nI (by omega) (by decide)
    have hm0 : cS z 3 (cI z 25 0).toNatClampNeg < 301 := by rw [hn, nI_clamp (by omega)]; exact h3 n (by omega)
    refine lv_aload_n hx hb dX4_send_11 rfl (lv_at hl 0 rfl) ?_
    refine g_Row_messages hx hb hts hX4 hown hK.1 hW rfl (by first | assumption | omega | exact Nat.zero_lt_one | decide) (hts (.fieldLink RX4 11 "SharedRegisters$Row" "messages" "[LSharedRegisters$Message;") (by decide +kernel)) dX4_send_12 ?_
    refine lv_aload_n hx hb dX4_send_15 rfl (lv_at hl 0 rfl) ?_
    refine g_Row_size hx hb hts hX4 hown hK.1 hW rfl (by first | assumption | omega | exact Nat.zero_lt_one | decide) (hts (.fieldLink RX4 20 "SharedRegisters$Row" "size" "I") (by decide +kernel)) dX4_send_16 ?_
    refine al_messages hx hb hK.1 hW rfl hin25 dX4_send_19 ?_
    refine lv_astore (lv' := [(8, _), (0, _), (1, _), (2, _), (3, _), (4, _), (5, _), (6, _), (7, _)]) hx hb dX4_send_20 hl (by decide) rfl (fun ls hl => ?_)
    refine lv_aload_n hx hb dX4_send_22 rfl (lv_at hl 1 rfl) ?_
    refine lv_dup hx hb dX4_send_23 rfl ?_
    refine g_Row_size hx hb hts hX4 hown hK.1 hW rfl (by first | assumption | omega | exact Nat.zero_lt_one | decide) (hts (.fieldLink RX4 20 "SharedRegisters$Row" "size" "I") (by decide +kernel)) dX4_send_24 ?_
    refine lv_iconst (v := 1) hx hb dX4_send_27 (by decide) ?_
    refine lv_iadd hx hb dX4_send_28 ?_
    refine p_Row_size hx hb hts hX4 hown hK.1 hW hS rfl (by first | assumption | omega | exact Nat.zero_lt_one | decide) (hts (.fieldLink RX4 20 "SharedRegisters$Row" "size" "I") (by decide +kernel)) dX4_send_29 (fun H locs hW hS => ?_)
    refine lv_aload hx hb dX4_send_32 (lv_at hl 0 rfl) ?_
    refine lv_iload_n hx hb dX4_send_34 rfl (lv_at hl 2 rfl) ?_
    refine pN_Message_sort hx hb hts hX1 hown hK.1 hW hS rfl (by first | assumption | omega | exact Nat.zero_lt_one | decide) (hK.2 _ (List.mem_of_getElem? (i := 12) rfl)) dX4_send_35 (fun H locs hW hS => ?_)
    refine lv_aload hx hb dX4_send_38 (lv_at hl 0 rfl) ?_
    refine lv_iload_n hx hb dX4_send_40 rfl (lv_at hl 3 rfl) ?_
    refine pN_Message_asker hx hb hts hX1 hown hK.1 hW hS rfl (by first | assumption | omega | exact Nat.zero_lt_one | decide) (hK.2 _ (List.mem_of_getElem? (i := 14) rfl)) dX4_send_41 (fun H locs hW hS => ?_)
    refine lv_aload hx hb dX4_send_44 (lv_at hl 0 rfl) ?_
    refine lv_iload_n hx hb dX4_send_46 rfl (lv_at hl 4 rfl) ?_
    refine pN_Message_keeper hx hb hts hX1 hown hK.1 hW hS rfl (by first | assumption | omega | exact Nat.zero_lt_one | decide) (hK.2 _ (List.mem_of_getElem? (i := 16) rfl)) dX4_send_47 (fun H locs hW hS => ?_)
    refine lv_aload hx hb dX4_send_50 (lv_at hl 0 rfl) ?_
    refine lv_iload hx hb dX4_send_52 (lv_at hl 5 rfl) ?_
    refine pN_Message_request hx hb hts hX1 hown hK.1 hW hS rfl (by first | assumption | omega | exact Nat.zero_lt_one | decide) (hK.2 _ (List.mem_of_getElem? (i := 18) rfl)) dX4_send_54 (fun H locs hW hS => ?_)
    refine lv_aload hx hb dX4_send_57 (lv_at hl 0 rfl) ?_
    refine lv_iload hx hb dX4_send_59 (lv_at hl 6 rfl) ?_
    refine pN_Message_key hx hb hts hX1 hown hK.1 hW hS rfl (by first | assumption | omega | exact Nat.zero_lt_one | decide) (hK.2 _ (List.mem_of_getElem? (i := 20) rfl)) dX4_send_61 (fun H locs hW hS => ?_)
    refine lv_aload hx hb dX4_send_64 (lv_at hl 0 rfl) ?_
    refine lv_iload hx hb dX4_send_66 (lv_at hl 7 rfl) ?_
    refine pN_Message_ballot hx hb hts hX1 hown hK.1 hW hS rfl (by first | assumption | omega | exact Nat.zero_lt_one | decide) (hK.2 _ (List.mem_of_getElem? (i := 22) rfl)) dX4_send_68 (fun H locs hW hS => ?_)
    refine lv_aload hx hb dX4_send_71 (lv_at hl 0 rfl) ?_
    refine lv_aload hx hb dX4_send_73 (lv_at hl 8 rfl) ?_
    refine pN_Message_state hx hb hts hX1 hown hK.1 hW hS rfl (by first | assumption | omega | exact Nat.zero_lt_one | decide) rfl (hK.2 _ (List.mem_of_getElem? (i := 24) rfl)) dX4_send_75 (fun H locs hW hS => ?_)
    refine W.vret hx hb hr ?_ hS.2.2 dX4_send_78
    refine cq0 ?_ hW hS
    exact (by rw [fSend, if_pos c_7])
  · refine W.vret hx hb hr ?_ hS.2.2 dX4_send_10
    refine cq0 ?_ hW hS
    exact (by rw [fSend, if_neg c_7])
/-- k references of the row moved one down, from j on -/
def fShift : Nat → CS → Nat → CS
  | 0, z, _ => z
  | k + 1, z, j => fShift k (sS z 3 j (cS z 3 (j + 1))) (j + 1)
theorem fShift_cA (k : Nat) : ∀ (z : CS) (j : Nat), cA (fShift k z j) = cA z := by
  induction k with
  | zero => intro z j; rfl
  | succ k ih => intro z j; exact ih _ _
theorem fShift_cI (k : Nat) : ∀ (z : CS) (j : Nat), cI (fShift k z j) = cI z := by
  induction k with
  | zero => intro z j; rfl
  | succ k ih => intro z j; exact ih _ _
theorem fShift_cV (k : Nat) : ∀ (z : CS) (j : Nat), j + k < 301 → (∀ q, q < 301 → cS z 3 q < 301) → ∀ q, q < 301 → cS (fShift k z j) 3 q < 301 := by
  induction k with
  | zero => intro z j _ h; exact h
  | succ k ih =>
    intro z j hj h
    refine ih _ _ (by omega) (fun q hq => ?_)
    rw [sS_cS]
    by_cases e : q = j
    · subst e; rw [up2_s]; exact h _ (by omega)
    · rw [up2_i e]; exact h q hq
/-- the message i of n drawn out of the row: it lies behind the most then -/
def fDraw (z : CS) (i n : Nat) : CS := sS (sS (fShift (n - 1 - i) (sI z 25 0 (nI (n - 1))) i) 3 (n - 1) (cS (fShift (n - 1 - i) (sI z 25 0 (nI (n - 1))) i) 3 300)) 3 300 (cS z 3 i)
set_option maxHeartbeats 4000000 in
set_option maxRecDepth 100000 in
theorem m_Row_drawOut (l : Launch) (D : va_G) (y : Nat → ClassId) (z : CS) (sz : Nat) (i n : Nat) (hn : cI z 25 0 = nI n) (hi : i < n) (hn0 : n ≤ 300) (h3 : ∀ j, j < 301 → cS z 3 j < 301)  : Met l yX4_drawOut wsX4_drawOut ({ frames := 0, cells := 0, slots := 0, locals := 0 }) (va_Pc [.ref (cA z 4 0), .int (nI i)] (cPre D y z sz)) (cQ1 D y z sz (fun v u => v = .ref (cA z 1 (cS z 3 i)) ∧ u = fDraw z i n)) 0 0 (cF z sz) := by
  refine Met.ofW (cc := cX4_drawOut) (maxL := 4) (ret := (some (.object "SharedRegisters$Message"))) (by decide) rfl ?_
  intro p e s m args below meth c s₁ B hml hv
  obtain ⟨rfl, hsz, hW0, hK⟩ := hv
  have hx := B.exec
  have hb := B.bytes
  have hr := B.returns
  have hts := atoms_spec (ws := wsX4_drawOut) B.pre
  have hown : s.vm.findClass RX4 = some m.cls := findClass_of_methodNamed B.named
  have hlocks := B.notSynchronized
  subst hsz
  have hW := hW0.self (sz := s.heap.size)
  have hA : ∀ q, s.heap.size ≤ q → cF z s.heap.size q := fun q h => Or.inr h
  have hS : va_S (cF z s.heap.size) s.heap s.heap [] := va_S.rf
  have hl := lv_entry ([.ref (cA z 4 0), .int (nI i)]) (n := 4) (Nat.le_of_ble_eq_true rfl)
  rw [lg_entry_eq]
  generalize (lg_sl ([.ref (cA z 4 0), .int (nI i)]) ++ List.replicate (4 - (lg_sl ([.ref (cA z 4 0), .int (nI i)])).length) Slot.unset).toArray = ls at hl ⊢
  have hl : lv_has ls 4 [(0, .ref (cA z 4 0)), (1, .int (nI i))] := hl
  have hX4 : ∀ w ∈ wsX40, w ∈ wsX4_drawOut := by decide +kernel
  have hin0 : vp_in (nI i) 301 := vp_in_nI (by omega) (by decide)
  refine lv_aload_n hx hb dX4_drawOut_0 rfl (lv_at hl 0 rfl) ?_
  refine g_Row_messages hx hb hts hX4 hown hK.1 hW rfl (by first | assumption | omega | exact Nat.zero_lt_one | decide) (hts (.fieldLink RX4 11 "SharedRegisters$Row" "messages" "[LSharedRegisters$Message;") (by decide +kernel)) dX4_drawOut_1 ?_
  refine lv_iload_n hx hb dX4_drawOut_4 rfl (lv_at hl 1 rfl) ?_
  refine al_messages hx hb hK.1 hW rfl hin0 dX4_drawOut_5 ?_
  rw [nI_clamp (show i < 2 ^ 31 by omega)]
  refine lv_astore_n (lv' := [(2, _), (0, _), (1, _)]) hx hb dX4_drawOut_6 rfl hl (by decide) rfl (fun ls hl => ?_)
  refine lv_aload_n hx hb dX4_drawOut_7 rfl (lv_at hl 1 rfl) ?_
  refine lv_dup hx hb dX4_drawOut_8 rfl ?_
  refine g_Row_size hx hb hts hX4 hown hK.1 hW rfl (by first | assumption | omega | exact Nat.zero_lt_one | decide) (hts (.fieldLink RX4 20 "SharedRegisters$Row" "size" "I") (by decide +kernel)) dX4_drawOut_9 ?_
  refine lv_iconst (v := 1) hx hb dX4_drawOut_12 (by decide) ?_
  refine lv_isub hx hb dX4_drawOut_13 ?_
  rw [hn, show nI n - 1 = nI (n - 1) from pk_sub (a := n) (b := 1) (by omega)]
  refine p_Row_size hx hb hts hX4 hown hK.1 hW hS rfl (by first | assumption | omega | exact Nat.zero_lt_one | decide) (hts (.fieldLink RX4 20 "SharedRegisters$Row" "size" "I") (by decide +kernel)) dX4_drawOut_14 (fun H locs hW hS => ?_)
  refine lv_iload_n hx hb dX4_drawOut_17 rfl (lv_at hl 2 rfl) ?_
  refine lv_istore_n (lv' := [(3, _), (2, _), (0, _), (1, _)]) hx hb dX4_drawOut_18 rfl hl (by decide) rfl (fun ls hl => ?_)
  have loop : ∀ (k : Nat) (x : CS) (j : Nat) (H : Heap) (locs : List Loc) (ls : Array Slot), j + k = n - 1 → cA x = cA z → cI x 25 0 = nI (n - 1) → (∀ q, q < 301 → cS x 3 q < 301) → fShift k x j = fShift (n - 1 - i) (sI z 25 0 (nI (n - 1))) i → cw D y (cF z s.heap.size) x H → va_S (cF z s.heap.size) s.heap H locs → lv_has ls 4 [(3, .int (nI j)), (2, .ref (cA z 1 (cS z 3 i))), (0, .ref (cA z 4 0)), (1, .int (nI i))] → W p l e (headSpec wsX4_drawOut { frames := 0, cells := 0, slots := 0, locals := 0 }).room s m #[.ref (cA z 4 0), .int (nI i)] below meth c H locs 0 0 (MQ below (cQ1 D y z s.heap.size (fun v u => v = .ref (cA z 1 (cS z 3 i)) ∧ u = fDraw z i n)) #[.ref (cA z 4 0), .int (nI i)] s 0 0 (cF z s.heap.size)) (F0 m 19 ls []) := by
    intro k
    induction k with
    | zero =>
      intro x j H locs ls hj hAx hIx h3x hfx hW hS hl
      have hz4 : cA z 4 0 = cA x 4 0 := by rw [hAx]
      have hz1 : cA z 1 (cS z 3 i) = cA x 1 (cS z 3 i) := by rw [hAx]
      refine lv_iload_n hx hb dX4_drawOut_19 rfl (lv_at hl 0 rfl) ?_
      refine lv_aload_n hx hb dX4_drawOut_20 rfl (lv_at hl 2 rfl) ?_
      refine g_Row_size hx hb hts hX4 hown hK.1 hW hz4 (by first | assumption | omega | exact Nat.zero_lt_one | decide) (hts (.fieldLink RX4 20 "SharedRegisters$Row" "size" "I") (by decide +kernel)) dX4_drawOut_21 ?_
      rw [hIx]
      refine lv_icmp_ge (tgt := 47) hx hb dX4_drawOut_24 (by decide) (fun _ => ?_) (fun c_24 => absurd (nI_le (by omega) (by omega)) c_24)
      have hin3 : vp_in (300 : Int32) 301 := vp_in_nI (n := 300) (by decide) (by decide)
      have hcl3 : (300 : Int32).toNatClampNeg = 300 := nI_clamp (n := 300) (by decide)
      have hinn : vp_in (nI (n - 1)) 301 := vp_in_nI (by omega) (by decide)
      have hfx : x = fShift (n - 1 - i) (sI z 25 0 (nI (n - 1))) i := hfx
      refine lv_aload_n hx hb dX4_drawOut_47 rfl (lv_at hl 2 rfl) ?_
      refine g_Row_messages hx hb hts hX4 hown hK.1 hW hz4 (by first | assumption | omega | exact Nat.zero_lt_one | decide) (hts (.fieldLink RX4 11 "SharedRegisters$Row" "messages" "[LSharedRegisters$Message;") (by decide +kernel)) dX4_drawOut_48 ?_
      refine lv_aload_n hx hb dX4_drawOut_51 rfl (lv_at hl 2 rfl) ?_
      refine g_Row_size hx hb hts hX4 hown hK.1 hW hz4 (by first | assumption | omega | exact Nat.zero_lt_one | decide) (hts (.fieldLink RX4 20 "SharedRegisters$Row" "size" "I") (by decide +kernel)) dX4_drawOut_52 ?_
      rw [hIx]
      refine lv_aload_n hx hb dX4_drawOut_55 rfl (lv_at hl 2 rfl) ?_
      refine g_Row_messages hx hb hts hX4 hown hK.1 hW hz4 (by first | assumption | omega | exact Nat.zero_lt_one | decide) (hts (.fieldLink RX4 11 "SharedRegisters$Row" "messages" "[LSharedRegisters$Message;") (by decide +kernel)) dX4_drawOut_56 ?_
      refine lv_sipush (v := 300) hx hb dX4_drawOut_59 (by decide) ?_
      refine al_messages hx hb hK.1 hW rfl hin3 dX4_drawOut_62 ?_
      rw [hcl3]
      refine as_messages hx hb hK.1 hW hS rfl rfl (h3x 300 (by decide)) hinn dX4_drawOut_63 (fun H locs hW hS => ?_)
      rw [nI_clamp (show n - 1 < 2 ^ 31 by omega)] at hW
      refine lv_aload_n hx hb dX4_drawOut_64 rfl (lv_at hl 2 rfl) ?_
      refine g_Row_messages hx hb hts hX4 hown hK.1 hW hz4 (by first | assumption | omega | exact Nat.zero_lt_one | decide) (hts (.fieldLink RX4 11 "SharedRegisters$Row" "messages" "[LSharedRegisters$Message;") (by decide +kernel)) dX4_drawOut_65 ?_
      refine lv_sipush (v := 300) hx hb dX4_drawOut_68 (by decide) ?_
      refine lv_aload_n hx hb dX4_drawOut_71 rfl (lv_at hl 1 rfl) ?_
      refine as_messages hx hb hK.1 hW hS rfl hz1 (h3 i (by omega)) hin3 dX4_drawOut_72 (fun H locs hW hS => ?_)
      rw [hcl3] at hW
      refine lv_aload_n hx hb dX4_drawOut_73 rfl (lv_at hl 1 rfl) ?_
      have hjn : j = n - 1 := by omega
      refine W.aret hx hb hr (Or.inl ⟨_, rfl⟩) (Or.inr ⟨_, rfl⟩) ?_ hS.2.2 dX4_drawOut_74
      refine cq1 ?_ hW hS
      exact ⟨rfl, by rw [fDraw, ← hfx]⟩
    | succ k ih =>
      intro x j H locs ls hj hAx hIx h3x hfx hW hS hl
      have hz4 : cA z 4 0 = cA x 4 0 := by rw [hAx]
      refine lv_iload_n hx hb dX4_drawOut_19 rfl (lv_at hl 0 rfl) ?_
      refine lv_aload_n hx hb dX4_drawOut_20 rfl (lv_at hl 2 rfl) ?_
      refine g_Row_size hx hb hts hX4 hown hK.1 hW hz4 (by first | assumption | omega | exact Nat.zero_lt_one | decide) (hts (.fieldLink RX4 20 "SharedRegisters$Row" "size" "I") (by decide +kernel)) dX4_drawOut_21 ?_
      rw [hIx]
      refine lv_icmp_ge (tgt := 47) hx hb dX4_drawOut_24 (by decide) (fun c_24 => absurd c_24 (nI_ge (by omega) (by omega))) (fun _ => ?_)
      have hinj : vp_in (nI j) 301 := vp_in_nI (by omega) (by decide)
      have hinj1 : vp_in (nI (j + 1)) 301 := vp_in_nI (by omega) (by decide)
      refine lv_aload_n hx hb dX4_drawOut_27 rfl (lv_at hl 2 rfl) ?_
      refine g_Row_messages hx hb hts hX4 hown hK.1 hW hz4 (by first | assumption | omega | exact Nat.zero_lt_one | decide) (hts (.fieldLink RX4 11 "SharedRegisters$Row" "messages" "[LSharedRegisters$Message;") (by decide +kernel)) dX4_drawOut_28 ?_
      refine lv_iload_n hx hb dX4_drawOut_31 rfl (lv_at hl 0 rfl) ?_
      refine lv_aload_n hx hb dX4_drawOut_32 rfl (lv_at hl 2 rfl) ?_
      refine g_Row_messages hx hb hts hX4 hown hK.1 hW hz4 (by first | assumption | omega | exact Nat.zero_lt_one | decide) (hts (.fieldLink RX4 11 "SharedRegisters$Row" "messages" "[LSharedRegisters$Message;") (by decide +kernel)) dX4_drawOut_33 ?_
      refine lv_iload_n hx hb dX4_drawOut_36 rfl (lv_at hl 0 rfl) ?_
      refine lv_iconst (v := 1) hx hb dX4_drawOut_37 (by decide) ?_
      refine lv_iadd hx hb dX4_drawOut_38 ?_
      rw [nI_1]
      refine al_messages hx hb hK.1 hW rfl hinj1 dX4_drawOut_39 ?_
      rw [nI_clamp (show j + 1 < 2 ^ 31 by omega)]
      refine as_messages hx hb hK.1 hW hS rfl rfl (h3x (j + 1) (by omega)) hinj dX4_drawOut_40 (fun H locs hW hS => ?_)
      rw [nI_clamp (show j < 2 ^ 31 by omega)] at hW
      refine lv_iinc (v := nI (j + 1)) (lv' := [(3, _), (2, _), (0, _), (1, _)]) hx hb dX4_drawOut_41 hl (k := 0) rfl (nI_1 j) (by decide) rfl (fun ls hl => ?_)
      refine lv_goto (tgt := 19) hx hb dX4_drawOut_44 (by decide) ?_
      exact ih (sS x 3 j (cS x 3 (j + 1))) (j + 1) _ _ ls (by omega) hAx hIx (fun q hq => by rw [sS_cS]; by_cases e : q = j; (subst e; rw [up2_s]; exact h3x _ (by omega)); (rw [up2_i e]; exact h3x q hq)) hfx hW hS hl
  exact loop (n - 1 - i) (sI z 25 0 (nI (n - 1))) i _ _ ls (by omega) rfl rfl h3 rfl hW hS hl
