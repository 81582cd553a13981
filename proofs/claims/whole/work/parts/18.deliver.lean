theorem fShift_form (k : Nat) : ∀ (z : CS) (j : Nat), ∃ g : Nat → Nat → Nat, fShift k z j = (z.1, z.2.1, z.2.2.1, z.2.2.2.1, z.2.2.2.2.1, g, z.2.2.2.2.2.2) ∧ ∀ f q, f ≠ 3 → g f q = cS z f q := by
  induction k with
  | zero => intro z j; exact ⟨_, rfl, fun _ _ _ => rfl⟩
  | succ k ih =>
    intro z j
    obtain ⟨g, h1, h2⟩ := ih (sS z 3 j (cS z 3 (j + 1))) (j + 1)
    exact ⟨g, h1, fun f q hf => (h2 f q hf).trans (up2_k hf)⟩
theorem fDraw_form (z : CS) (i n : Nat) : ∃ g : Nat → Nat → Nat, fDraw z i n = (z.1, z.2.1, up2 z.2.2.1 25 0 (nI (n - 1)), z.2.2.2.1, z.2.2.2.2.1, g, z.2.2.2.2.2.2) ∧ ∀ f q, f ≠ 3 → g f q = cS z f q := by
  obtain ⟨g, h1, h2⟩ := fShift_form (n - 1 - i) (sI z 25 0 (nI (n - 1))) i
  refine ⟨up2 (up2 g 3 (n - 1) (g 3 300)) 3 300 (cS z 3 i), ?_, fun f q hf => ?_⟩
  · unfold fDraw
    rw [h1]
    rfl
  · rw [up2_k hf, up2_k hf]
    exact h2 f q hf
theorem fDraw_cA (z : CS) (i n : Nat) : cA (fDraw z i n) = cA z := by obtain ⟨g, h, -⟩ := fDraw_form z i n; rw [h]; rfl
theorem fDraw_cNr (z : CS) (i n : Nat) : cNr (fDraw z i n) = cNr z := by obtain ⟨g, h, -⟩ := fDraw_form z i n; rw [h]; rfl
theorem fDraw_cNs (z : CS) (i n : Nat) : cNs (fDraw z i n) = cNs z := by obtain ⟨g, h, -⟩ := fDraw_form z i n; rw [h]; rfl
theorem fDraw_cR (z : CS) (i n : Nat) : cR (fDraw z i n) = cR z := by obtain ⟨g, h, -⟩ := fDraw_form z i n; rw [h]; rfl
theorem fDraw_cJ (z : CS) (i n : Nat) : cJ (fDraw z i n) = cJ z := by obtain ⟨g, h, -⟩ := fDraw_form z i n; rw [h]; rfl
theorem fDraw_cE (z : CS) (i n : Nat) : cE (fDraw z i n) = cE z := by obtain ⟨g, h, -⟩ := fDraw_form z i n; rw [h]; rfl
theorem fDraw_cI (z : CS) (i n : Nat) : cI (fDraw z i n) = up2 (cI z) 25 0 (nI (n - 1)) := by obtain ⟨g, h, -⟩ := fDraw_form z i n; rw [h]; rfl
theorem fDraw_cS (z : CS) (i n : Nat) {f q : Nat} (hf : f ≠ 3) : cS (fDraw z i n) f q = cS z f q := by obtain ⟨g, h, h2⟩ := fDraw_form z i n; rw [h]; exact h2 f q hf
theorem fDraw_v3 {z : CS} {i n : Nat} (hi : i < n) (hn : n ≤ 300) (h : ∀ q, q < 301 → cS z 3 q < 301) : ∀ q, q < 301 → cS (fDraw z i n) 3 q < 301 := by
  intro q hq
  have h1 := fShift_cV (n - 1 - i) (sI z 25 0 (nI (n - 1))) i (by omega) h
  unfold fDraw
  rw [sS_cS, sS_cS]
  by_cases e : q = 300
  · subst e; rw [up2_s]; exact h i (by omega)
  · rw [up2_i e]
    by_cases e2 : q = n - 1
    · subst e2; rw [up2_s]; exact h1 300 (by omega)
    · rw [up2_i e2]; exact h1 q hq
theorem fDraw_row {z : CS} {i n : Nat} (hi : i < n) (h : RowOk z n) : RowOk (fDraw z i n) (n - 1) := ⟨by rw [fDraw_cI, up2_s], by have := h.2.1; omega, fDraw_v3 hi h.2.1 h.2.2⟩
theorem fDraw_inv {z : CS} {i n : Nat} (hi : i < n) (hn : n ≤ 300) (h : cInv z) : cInv (fDraw z i n) := by
  obtain ⟨⟨v0, v1, v2, v3, v4, v5, v6⟩, h2, h3⟩ := h
  refine ⟨⟨by rw [fDraw_cNs]; exact v0, fun q hq => by rw [fDraw_cS _ _ _ (by decide), fDraw_cNs]; exact v1 q hq, fun q hq => by rw [fDraw_cS _ _ _ (by decide), fDraw_cNs]; exact v2 q hq, by rw [fDraw_cNr, fDraw_cR, fDraw_cNs]; exact v3, by rw [fDraw_cNr, fDraw_cR]; exact v4, by rw [fDraw_cNr, fDraw_cR]; exact v5, fDraw_v3 hi hn v6⟩, ?_, ?_⟩
  · rw [fDraw_cNs, fDraw_cI, fDraw_cJ]
    intro q hq
    rw [up2_k (by decide), up2_k (by decide)]
    exact h2 q hq
  · rw [fDraw_cNr, fDraw_cI, fDraw_cR, fDraw_cNs]
    intro q hq
    rw [up2_k (by decide)]
    exact h3 q hq
/-- a message as it must be: sort, asker, keeper, key -/
def msgOk (z : CS) (m so a k q : Nat) : Prop := cI z 6 m = nI so ∧ cI z 7 m = nI a ∧ cI z 8 m = nI k ∧ cI z 10 m = nI q ∧ so < 5 ∧ a < 4 ∧ k < 9 ∧ q < 4
/-- what the taking of the message m of the sort so leaves -/
def takeTo (z : CS) (m so a k q : Nat) (u : CS) : Prop := match so with
  | 0 => u = fPrep z m k q
  | 1 => promTo z m a u
  | 2 => u = fAcc z m k q
  | 3 => u = fTaken z m a
  | _ => u = fRef z m a
theorem takeTo_cA {z : CS} {m so a k q : Nat} {u : CS} (h : takeTo z m so a k q u) {k' i : Nat} (hk : k' ≠ 5) : cA u k' i = cA z k' i := by
  unfold takeTo at h
  split at h
  · rw [h, fPrep_cA]
  · exact promTo_cA h hk
  · rw [h, fAcc_cA]
  · rw [h, fTaken_cA]
  · rw [h, fRef_cA]
set_option maxHeartbeats 4000000 in
set_option maxRecDepth 100000 in
theorem m_deliver (l : Launch) (D : va_G) (y : Nat → ClassId) (z : CS) (sz : Nat) (i n so a k q : Nat) (hi : i < n) (hrow : RowOk z n) (hI : cInv z) (hmsg : msgOk z (cS z 3 i) so a k q)  : Met l yX6_deliver wsX6_deliver ({ frames := 6, cells := 1, slots := 3, locals := 150 }) (va_Pc [.ref (cA z 6 0), .int (nI i)] (cPre D y z sz)) (cQ1 D y z sz (fun v u => v = .int (cI u 6 (cS z 3 i)) ∧ takeTo (fDraw z i n) (cS z 3 i) so a k q u)) 1 3 (cF z sz) := by
  refine Met.ofW (cc := cX6_deliver) (maxL := 3) (ret := (some .int)) (by decide) rfl ?_
  intro p e s m args below meth c s₁ B hml hv
  obtain ⟨rfl, hsz, hW0, hK⟩ := hv
  have hx := B.exec
  have hb := B.bytes
  have hr := B.returns
  have hts := atoms_spec (ws := wsX6_deliver) B.pre
  have hown : s.vm.findClass RX6 = some m.cls := findClass_of_methodNamed B.named
  have hlocks := B.notSynchronized
  subst hsz
  have hW := hW0.self (sz := s.heap.size)
  have hA : ∀ q, s.heap.size ≤ q → cF z s.heap.size q := fun q h => Or.inr h
  have hS : va_S (cF z s.heap.size) s.heap s.heap [] := va_S.rf
  have hl := lv_entry ([.ref (cA z 6 0), .int (nI i)]) (n := 3) (Nat.le_of_ble_eq_true rfl)
  rw [lg_entry_eq]
  generalize (lg_sl ([.ref (cA z 6 0), .int (nI i)]) ++ List.replicate (3 - (lg_sl ([.ref (cA z 6 0), .int (nI i)])).length) Slot.unset).toArray = ls at hl ⊢
  have hl : lv_has ls 3 [(0, .ref (cA z 6 0)), (1, .int (nI i))] := hl
  have hX6 : ∀ w ∈ wsX60, w ∈ wsX6_deliver := by decide +kernel
  have hX1 : ∀ w ∈ wsX10, w ∈ wsX6_deliver := by decide +kernel
  refine lv_aload_n hx hb dX6_deliver_0 rfl (lv_at hl 0 rfl) ?_
  refine g_SharedRegisters_row hx hb hts hX6 hown hK.1 hW rfl (by first | assumption | omega | exact Nat.zero_lt_one | decide) (hts (.fieldLink RX6 49 "SharedRegisters" "row" "LSharedRegisters$Row;") (by decide +kernel)) dX6_deliver_1 ?_
  refine lv_iload_n hx hb dX6_deliver_4 rfl (lv_at hl 1 rfl) ?_
  refine cc1 (va_runVN (As := [.int (nI i)]) (rest := []) ⟨hx, hb, hml, hown, hts⟩ (m_Row_drawOut l D y z _ i n hrow.1 hi hrow.2.1 hrow.2.2) ⟨(va_cnB 1 hts gX6_deliver_X4_drawOut_n105 rfl rfl rfl (hK.2 _ (List.mem_of_getElem? (i := 46) rfl)) (hts (.initialized RX4) (by decide +kernel)) (by decide +kernel) ⟨Nat.le_of_ble_eq_true rfl, Nat.le_of_ble_eq_true rfl⟩), hts (.instanceMethod yX4_drawOut) (by decide +kernel), hts (.selects RX4 yX4_drawOut yX4_drawOut) (by decide +kernel)⟩ (cPreV (k := 4) (q := (RX4, TX4, 2)) hW hK (show 0 < 1 from Nat.zero_lt_one) rfl rfl [.int (nI i)]) rfl rfl hl.1 rfl (lv_room (Nat.le_of_ble_eq_true rfl)) dX6_deliver_5 ⟨Nat.le_of_ble_eq_true rfl, Nat.le_of_ble_eq_true rfl⟩) hW hS hA (fun v5 u5 H locs hu5 hW hS => ?_)
  obtain ⟨rfl, hu5⟩ := hu5
  have hA5 : cA u5 = cA z := by rw [hu5]; exact fDraw_cA _ _ _
  have hrow5 : RowOk u5 (n - 1) := by rw [hu5]; exact fDraw_row hi hrow
  have hI5 : cInv u5 := by rw [hu5]; exact fDraw_inv hi hrow.2.1 hI
  have hn300 : n ≤ 300 := hrow.2.1
  have hm0 : cS z 3 i < 301 := hrow.2.2 i (by omega)
  generalize hme : cS z 3 i = m0 at hm0 hmsg ⊢
  have hms5 : msgOk u5 m0 so a k q := by rw [hu5]; unfold msgOk; rw [fDraw_cI]; exact hmsg
  obtain ⟨e6, e7, e8, e10, hso, ha, hk, hq⟩ := hms5
  have hcr : ∀ r, cR u5 1 a = some r → r < cNr u5 := fun r h => hI5.1.2.2.2.2.1 a r h
  refine lv_astore_n (lv' := [(2, _), (0, _), (1, _)]) hx hb dX6_deliver_8 rfl hl (by decide) rfl (fun ls hl => ?_)
  rw [← hA5] at hl
  refine lv_aload_n hx hb dX6_deliver_9 rfl (lv_at hl 0 rfl) ?_
  refine gN_Message_sort hx hb hts hX1 hown hK.1 hW rfl (by first | assumption | omega | exact Nat.zero_lt_one | decide) (hK.2 _ (List.mem_of_getElem? (i := 13) rfl)) dX6_deliver_10 ?_
  rw [e6]
  rcases (show so = 0 ∨ so = 1 ∨ so = 2 ∨ so = 3 ∨ so = 4 by omega) with rfl | rfl | rfl | rfl | rfl
  · refine lv_tableIn (off := 31) (tgt := 44) hx hb dX6_deliver_13 (by decide) (by decide) (by decide) (by decide) ?_
    refine lv_aload_n hx hb dX6_deliver_44 rfl (lv_at hl 1 rfl) ?_
    refine lv_aload_n hx hb dX6_deliver_45 rfl (lv_at hl 0 rfl) ?_
    refine cc0 (va_runV (As := [.ref (cA u5 1 m0)]) (rest := []) ⟨hx, hb, hml, hown, hts⟩ (m_takePrepare l D y u5 _ m0 k q (n - 1) hm0 hk hq e8 e10 hrow5.1 hrow5.2.1 hrow5.2.2) (cwV 1 hts gX6_deliver_X6_takePrepare rfl rfl rfl (by decide +kernel) ⟨Nat.le_of_ble_eq_true rfl, Nat.le_of_ble_eq_true rfl⟩) (cPreV (k := 6) (q := (RX6, TX6, 7)) hW hK (show 0 < 1 from Nat.zero_lt_one) rfl rfl [.ref (cA u5 1 m0)]) rfl rfl hl.1 rfl (lv_room (Nat.le_of_ble_eq_true rfl)) dX6_deliver_46 ⟨Nat.le_of_ble_eq_true rfl, Nat.le_of_ble_eq_true rfl⟩) hW hS hA (fun u46 H locs hu46 hW hS => ?_)
    have ht9 : takeTo u5 m0 0 a k q u46 := hu46
    have hA9 : cA u5 1 m0 = cA u46 1 m0 := (takeTo_cA ht9 (by decide)).symm
    rw [hA9] at hl
    refine lv_goto (tgt := 81) hx hb dX6_deliver_49 (by decide) ?_
    refine lv_aload_n hx hb dX6_deliver_81 rfl (lv_at hl 0 rfl) ?_
    refine gN_Message_sort hx hb hts hX1 hown hK.1 hW rfl (by first | assumption | omega | exact Nat.zero_lt_one | decide) (hK.2 _ (List.mem_of_getElem? (i := 13) rfl)) dX6_deliver_82 ?_
    refine W.widen (k := 1) (n := 3) (Nat.le_of_ble_eq_true rfl) (Nat.le_of_ble_eq_true rfl) ?_
    refine W.iret hx hb hr ?_ hS.2.2 dX6_deliver_85
    refine cq1 ?_ hW hS
    exact ⟨rfl, by rw [← hu5]; exact ht9⟩
  · refine lv_tableIn (off := 39) (tgt := 52) hx hb dX6_deliver_13 (by decide) (by decide) (by decide) (by decide) ?_
    refine lv_aload_n hx hb dX6_deliver_52 rfl (lv_at hl 1 rfl) ?_
    refine lv_aload_n hx hb dX6_deliver_53 rfl (lv_at hl 0 rfl) ?_
    refine cc0 (va_runV (As := [.ref (cA u5 1 m0)]) (rest := []) ⟨hx, hb, hml, hown, hts⟩ (m_takePromised l D y u5 _ m0 a (n - 1) hm0 ha e7 hI5 hrow5) (cwV 1 hts gX6_deliver_X6_takePromised rfl rfl rfl (by decide +kernel) ⟨Nat.le_of_ble_eq_true rfl, Nat.le_of_ble_eq_true rfl⟩) (cPreV (k := 6) (q := (RX6, TX6, 7)) hW hK (show 0 < 1 from Nat.zero_lt_one) rfl rfl [.ref (cA u5 1 m0)]) rfl rfl hl.1 rfl (lv_room (Nat.le_of_ble_eq_true rfl)) dX6_deliver_54 ⟨Nat.le_of_ble_eq_true rfl, Nat.le_of_ble_eq_true rfl⟩) hW hS hA (fun u54 H locs hu54 hW hS => ?_)
    have ht9 : takeTo u5 m0 1 a k q u54 := hu54
    have hA9 : cA u5 1 m0 = cA u54 1 m0 := (takeTo_cA ht9 (by decide)).symm
    rw [hA9] at hl
    refine lv_goto (tgt := 81) hx hb dX6_deliver_57 (by decide) ?_
    refine lv_aload_n hx hb dX6_deliver_81 rfl (lv_at hl 0 rfl) ?_
    refine gN_Message_sort hx hb hts hX1 hown hK.1 hW rfl (by first | assumption | omega | exact Nat.zero_lt_one | decide) (hK.2 _ (List.mem_of_getElem? (i := 13) rfl)) dX6_deliver_82 ?_
    refine W.widen (k := 1) (n := 3) (Nat.le_of_ble_eq_true rfl) (Nat.le_of_ble_eq_true rfl) ?_
    refine W.iret hx hb hr ?_ hS.2.2 dX6_deliver_85
    refine cq1 ?_ hW hS
    exact ⟨rfl, by rw [← hu5]; exact ht9⟩
  · refine lv_tableIn (off := 47) (tgt := 60) hx hb dX6_deliver_13 (by decide) (by decide) (by decide) (by decide) ?_
    refine lv_aload_n hx hb dX6_deliver_60 rfl (lv_at hl 1 rfl) ?_
    refine lv_aload_n hx hb dX6_deliver_61 rfl (lv_at hl 0 rfl) ?_
    refine cc0 (va_runV (As := [.ref (cA u5 1 m0)]) (rest := []) ⟨hx, hb, hml, hown, hts⟩ (m_takeAccept l D y u5 _ m0 k q (n - 1) hm0 hk hq e8 e10 hrow5.1 hrow5.2.1 hrow5.2.2) (cwV 1 hts gX6_deliver_X6_takeAccept rfl rfl rfl (by decide +kernel) ⟨Nat.le_of_ble_eq_true rfl, Nat.le_of_ble_eq_true rfl⟩) (cPreV (k := 6) (q := (RX6, TX6, 7)) hW hK (show 0 < 1 from Nat.zero_lt_one) rfl rfl [.ref (cA u5 1 m0)]) rfl rfl hl.1 rfl (lv_room (Nat.le_of_ble_eq_true rfl)) dX6_deliver_62 ⟨Nat.le_of_ble_eq_true rfl, Nat.le_of_ble_eq_true rfl⟩) hW hS hA (fun u62 H locs hu62 hW hS => ?_)
    have ht9 : takeTo u5 m0 2 a k q u62 := hu62
    have hA9 : cA u5 1 m0 = cA u62 1 m0 := (takeTo_cA ht9 (by decide)).symm
    rw [hA9] at hl
    refine lv_goto (tgt := 81) hx hb dX6_deliver_65 (by decide) ?_
    refine lv_aload_n hx hb dX6_deliver_81 rfl (lv_at hl 0 rfl) ?_
    refine gN_Message_sort hx hb hts hX1 hown hK.1 hW rfl (by first | assumption | omega | exact Nat.zero_lt_one | decide) (hK.2 _ (List.mem_of_getElem? (i := 13) rfl)) dX6_deliver_82 ?_
    refine W.widen (k := 1) (n := 3) (Nat.le_of_ble_eq_true rfl) (Nat.le_of_ble_eq_true rfl) ?_
    refine W.iret hx hb hr ?_ hS.2.2 dX6_deliver_85
    refine cq1 ?_ hW hS
    exact ⟨rfl, by rw [← hu5]; exact ht9⟩
  · refine lv_tableIn (off := 55) (tgt := 68) hx hb dX6_deliver_13 (by decide) (by decide) (by decide) (by decide) ?_
    refine lv_aload_n hx hb dX6_deliver_68 rfl (lv_at hl 1 rfl) ?_
    refine lv_aload_n hx hb dX6_deliver_69 rfl (lv_at hl 0 rfl) ?_
    refine cc0 (va_runV (As := [.ref (cA u5 1 m0)]) (rest := []) ⟨hx, hb, hml, hown, hts⟩ (m_takeTaken l D y u5 _ m0 a hm0 ha e7 hcr) (cwV 1 hts gX6_deliver_X6_takeTaken rfl rfl rfl (by decide +kernel) ⟨Nat.le_of_ble_eq_true rfl, Nat.le_of_ble_eq_true rfl⟩) (cPreV (k := 6) (q := (RX6, TX6, 7)) hW hK (show 0 < 1 from Nat.zero_lt_one) rfl rfl [.ref (cA u5 1 m0)]) rfl rfl hl.1 rfl (lv_room (Nat.le_of_ble_eq_true rfl)) dX6_deliver_70 ⟨Nat.le_of_ble_eq_true rfl, Nat.le_of_ble_eq_true rfl⟩) hW hS hA (fun u70 H locs hu70 hW hS => ?_)
    have ht9 : takeTo u5 m0 3 a k q u70 := hu70
    have hA9 : cA u5 1 m0 = cA u70 1 m0 := (takeTo_cA ht9 (by decide)).symm
    rw [hA9] at hl
    refine lv_goto (tgt := 81) hx hb dX6_deliver_73 (by decide) ?_
    refine lv_aload_n hx hb dX6_deliver_81 rfl (lv_at hl 0 rfl) ?_
    refine gN_Message_sort hx hb hts hX1 hown hK.1 hW rfl (by first | assumption | omega | exact Nat.zero_lt_one | decide) (hK.2 _ (List.mem_of_getElem? (i := 13) rfl)) dX6_deliver_82 ?_
    refine W.widen (k := 1) (n := 3) (Nat.le_of_ble_eq_true rfl) (Nat.le_of_ble_eq_true rfl) ?_
    refine W.iret hx hb hr ?_ hS.2.2 dX6_deliver_85
    refine cq1 ?_ hW hS
    exact ⟨rfl, by rw [← hu5]; exact ht9⟩
  · refine lv_tableOut (tgt := 76) hx hb dX6_deliver_13 (by decide) (by decide) ?_
    refine lv_aload_n hx hb dX6_deliver_76 rfl (lv_at hl 1 rfl) ?_
    refine lv_aload_n hx hb dX6_deliver_77 rfl (lv_at hl 0 rfl) ?_
    refine cc0 (va_runV (As := [.ref (cA u5 1 m0)]) (rest := []) ⟨hx, hb, hml, hown, hts⟩ (m_takeRefused l D y u5 _ m0 a hm0 ha e7 hcr) (cwV 1 hts gX6_deliver_X6_takeRefused rfl rfl rfl (by decide +kernel) ⟨Nat.le_of_ble_eq_true rfl, Nat.le_of_ble_eq_true rfl⟩) (cPreV (k := 6) (q := (RX6, TX6, 7)) hW hK (show 0 < 1 from Nat.zero_lt_one) rfl rfl [.ref (cA u5 1 m0)]) rfl rfl hl.1 rfl (lv_room (Nat.le_of_ble_eq_true rfl)) dX6_deliver_78 ⟨Nat.le_of_ble_eq_true rfl, Nat.le_of_ble_eq_true rfl⟩) hW hS hA (fun u78 H locs hu78 hW hS => ?_)
    have ht9 : takeTo u5 m0 4 a k q u78 := hu78
    have hA9 : cA u5 1 m0 = cA u78 1 m0 := (takeTo_cA ht9 (by decide)).symm
    rw [hA9] at hl
    refine lv_aload_n hx hb dX6_deliver_81 rfl (lv_at hl 0 rfl) ?_
    refine gN_Message_sort hx hb hts hX1 hown hK.1 hW rfl (by first | assumption | omega | exact Nat.zero_lt_one | decide) (hK.2 _ (List.mem_of_getElem? (i := 13) rfl)) dX6_deliver_82 ?_
    refine W.widen (k := 1) (n := 3) (Nat.le_of_ble_eq_true rfl) (Nat.le_of_ble_eq_true rfl) ?_
    refine W.iret hx hb hr ?_ hS.2.2 dX6_deliver_85
    refine cq1 ?_ hW hS
    exact ⟨rfl, by rw [← hu5]; exact ht9⟩
