theorem fHear_cA (z : CS) (r : Nat) (b : Int32) (st : Nat) : cA (fHear z r b st) = cA z := by unfold fHear; split <;> rfl
theorem fHear_cNr (z : CS) (r : Nat) (b : Int32) (st : Nat) : cNr (fHear z r b st) = cNr z := by unfold fHear; split <;> rfl
theorem fHear_cNs (z : CS) (r : Nat) (b : Int32) (st : Nat) : cNs (fHear z r b st) = cNs z := by unfold fHear; split <;> rfl
theorem fHear_cS (z : CS) (r : Nat) (b : Int32) (st : Nat) : cS (fHear z r b st) = cS z := by unfold fHear; split <;> rfl
theorem fHear_cJ (z : CS) (r : Nat) (b : Int32) (st : Nat) : cJ (fHear z r b st) = cJ z := by unfold fHear; split <;> rfl
theorem fHear_cI (z : CS) (r : Nat) (b : Int32) (st : Nat) {f i : Nat} (hf : f ≠ 22) : cI (fHear z r b st) f i = cI z f i := by unfold fHear; split; rfl; exact up2_k hf
theorem fHear_cR (z : CS) (r : Nat) (b : Int32) (st : Nat) {f i : Nat} (hf : ¬ (f = 3 ∧ i = r)) : cR (fHear z r b st) f i = cR z f i := by unfold fHear; split; rfl; exact up2_n hf
theorem fHear_st (z : CS) (r : Nat) (b : Int32) (st : Nat) : cR (fHear z r b st) 3 r = cR z 3 r ∨ cR (fHear z r b st) 3 r = some st := by unfold fHear; split; exact Or.inl rfl; exact Or.inr (up2_s _ _ _ _)
/-- what the class's methods need of its state: the references, the states (an absent one has 0, 0), the requests -/
def cInv (z : CS) : Prop := cV z ∧ (∀ i, i < cNs z → (cI z 26 i = 0 ∧ cI z 27 i = 0 ∧ cJ z 1 i = 0) ∨ cI z 26 i = 1) ∧ ∀ r, r < cNr z → (∃ k, k < 7 ∧ cI z 15 r = nI k) ∧ ∃ st, st < cNs z ∧ cR z 3 r = some st
theorem cInv.bo {z : CS} (h : cInv z) {i : Nat} (hi : i < cNs z) : cI z 26 i = 0 ∨ cI z 26 i = 1 := (h.2.1 i hi).elim (fun q => Or.inl q.1) Or.inr
theorem cInv_hear {z : CS} {r : Nat} {b : Int32} {st : Nat} (h : cInv z) (hst : st < cNs z) : cInv (fHear z r b st) := by
  obtain ⟨⟨v0, v1, v2, v3, v4, v5, v6⟩, h2, h3⟩ := h
  refine ⟨⟨by rw [fHear_cNs]; exact v0, by rw [fHear_cS, fHear_cNs]; exact v1, by rw [fHear_cS, fHear_cNs]; exact v2, fun r' st' hr' hs' => ?_, fun a r' hr' => ?_, fun j r' hr' => ?_, by rw [fHear_cS]; exact v6⟩, fun i hi => ?_, fun r' hr' => ?_⟩
  · rw [fHear_cNr] at hr'
    rw [fHear_cNs]
    by_cases e : r' = r
    · subst e
      rcases fHear_st z r' b st with q | q
      · rw [q] at hs'; exact v3 _ _ hr' hs'
      · rw [q] at hs'; cases hs'; exact hst
    · rw [fHear_cR z r b st (fun q => e q.2)] at hs'
      exact v3 _ _ hr' hs'
  · rw [fHear_cR z r b st (fun q => absurd q.1 (by decide))] at hr'
    rw [fHear_cNr]; exact v4 _ _ hr'
  · rw [fHear_cR z r b st (fun q => absurd q.1 (by decide))] at hr'
    rw [fHear_cNr]; exact v5 _ _ hr'
  · rw [fHear_cNs] at hi
    rw [fHear_cI _ _ _ _ (by decide), fHear_cI _ _ _ _ (by decide), fHear_cJ]
    exact h2 i hi
  · rw [fHear_cNr] at hr'
    rw [fHear_cI _ _ _ _ (by decide), fHear_cNs]
    obtain ⟨a1, st1, b1, b2⟩ := h3 r' hr'
    refine ⟨a1, ?_⟩
    by_cases e : r' = r
    · subst e
      rcases fHear_st z r' b st with q | q
      · exact ⟨st1, b1, by rw [q]; exact b2⟩
      · exact ⟨st, hst, q⟩
    · exact ⟨st1, b1, by rw [fHear_cR z r b st (fun q => e q.2)]; exact b2⟩
theorem beginTo_facts {z : CS} {r st k : Nat} {a : Int64} {u : CS} (h : beginTo z r st k a u) : (∀ k i, k ≠ 5 → cA u k i = cA z k i) ∧ cNr u = cNr z ∧ cI u 25 0 = cI z 25 0 ∧ cS u = cS z ∧ (∀ f i, f ≠ 20 → f ≠ 21 → f ≠ 23 → f ≠ 26 → f ≠ 27 → cI u f i = cI z f i) ∧ ∃ st3, cR u 3 r = some st3 := by
  unfold beginTo at h
  cases hc : fChg z st k a with
  | none =>
    rw [hc] at h
    simp only at h
    subst h
    exact ⟨fun _ _ _ => rfl, rfl, rfl, rfl, fun f i a1 a2 a3 a4 a5 => by simp [sI_cI, sR_cI, up2, a1, a2, a3], st, up2_s _ _ _ _⟩
  | some t =>
    rw [hc] at h
    obtain ⟨q, rfl⟩ := h
    exact ⟨fun k i hk => up2_k hk, rfl, rfl, rfl, fun f i a1 a2 a3 a4 a5 => by simp [newS, addS_cI, sI_cI, sR_cI, sJ_cI, up2, a1, a2, a3, a4, a5], _, up2_s _ _ _ _⟩
theorem fSet_cA (k : Nat) : ∀ (z : CS) (j : Nat) (so : Int32) (r : Nat) (set : Int32) (st : Nat), cA (fSet k z j so r set st) = cA z := by
  induction k with
  | zero => intros; rfl
  | succ k ih =>
    intro z j so r set st
    rw [fSet, ih]
    split
    · rfl
    · exact fSend_cA _ _ _ _ _ _ _ _
/-- what takePromised leaves, of the request r with one answer more -/
def promR (x : CS) (r : Nat) (u : CS) : Prop := if fBC (cI x 21 r) < cI x 17 r then u = x else ∃ (st k : Nat) (w : CS) (st3 : Nat), cR x 3 r = some st ∧ cI x 15 r = nI k ∧ k < 7 ∧ beginTo x r st k (cJ x 0 r) w ∧ cR w 3 r = some st3 ∧ u = fSet 9 w 0 2 r (cI w 18 r) st3
def ansd (x : CS) (r m : Nat) : CS := sI x 21 r (cI x 21 r ||| ((1 : Int32) <<< (cI x 8 m &&& 31)))
def promTo (z : CS) (m a : Nat) (u : CS) : Prop := match fAwait z m a 0 with
  | none => u = z
  | some r => promR (ansd (fHear z r (cI z 11 m) (cS z 2 m)) r m) r u
theorem promTo_cA {z : CS} {m a : Nat} {u : CS} (h : promTo z m a u) {k i : Nat} (hk : k ≠ 5) : cA u k i = cA z k i := by
  unfold promTo at h
  cases hc : fAwait z m a 0 with
  | none => rw [hc] at h; simp only at h; rw [h]
  | some r =>
    rw [hc] at h
    simp only [promR] at h
    split at h
    · rw [h]; show cA (fHear _ _ _ _) k i = _; rw [fHear_cA]
    · obtain ⟨st, k', w, st3, -, -, -, hb, -, rfl⟩ := h
      rw [fSet_cA, (beginTo_facts hb).1 k i hk]
      show cA (fHear _ _ _ _) k i = _
      rw [fHear_cA]
theorem fBack_cA (z : CS) (so : Int32) (m : Nat) (ba : Int32) (st : Nat) : cA (fBack z so m ba st) = cA z := fSend_cA _ _ _ _ _ _ _ _
theorem fPrep_cA (z : CS) (m k q : Nat) : cA (fPrep z m k q) = cA z := by unfold fPrep; split; (split <;> rw [fBack_cA]; rfl); rfl
theorem fAcc_cA (z : CS) (m k q : Nat) : cA (fAcc z m k q) = cA z := by unfold fAcc; split; (split <;> rw [fBack_cA]; rfl); rfl
theorem fEnd_cA (z : CS) (a : Nat) (en : Int32) : cA (fEnd z a en) = cA z := by unfold fEnd; split <;> rfl
theorem fTaken_cA (z : CS) (m a : Nat) : cA (fTaken z m a) = cA z := by
  unfold fTaken; split
  · rfl
  · split
    · rfl
    · rw [fEnd_cA]; rfl
theorem fRef_cA (z : CS) (m a : Nat) : cA (fRef z m a) = cA z := by
  unfold fRef; split
  · rfl
  · split
    · rw [fEnd_cA]; rfl
    · rfl
set_option maxHeartbeats 4000000 in
set_option maxRecDepth 100000 in
theorem m_takePromised (l : Launch) (D : va_G) (y : Nat → ClassId) (z : CS) (sz : Nat) (m0 a n : Nat) (hm0 : m0 < 301) (ha : a < 4) (ham : cI z 7 m0 = nI a) (hI : cInv z) (hrow : RowOk z n)  : Met l yX6_takePromised wsX6_takePromised ({ frames := 5, cells := 1, slots := 3, locals := 125 }) (va_Pc [.ref (cA z 6 0), .ref (cA z 1 m0)] (cPre D y z sz)) (cQ0 D y z sz (fun u => promTo z m0 a u)) 1 3 (cF z sz) := by
  have hcr : ∀ r, cR z 1 a = some r → r < cNr z := fun r h => hI.1.2.2.2.2.1 a r h
  refine Met.ofW (cc := cX6_takePromised) (maxL := 3) (ret := none) (by decide) rfl ?_
  intro p e s m args below meth c s₁ B hml hv
  obtain ⟨rfl, hsz, hW0, hK⟩ := hv
  have hx := B.exec
  have hb := B.bytes
  have hr := B.returns
  have hts := atoms_spec (ws := wsX6_takePromised) B.pre
  have hown : s.vm.findClass RX6 = some m.cls := findClass_of_methodNamed B.named
  have hlocks := B.notSynchronized
  subst hsz
  have hW := hW0.self (sz := s.heap.size)
  have hA : ∀ q, s.heap.size ≤ q → cF z s.heap.size q := fun q h => Or.inr h
  have hS : va_S (cF z s.heap.size) s.heap s.heap [] := va_S.rf
  have hl := lv_entry ([.ref (cA z 6 0), .ref (cA z 1 m0)]) (n := 3) (Nat.le_of_ble_eq_true rfl)
  rw [lg_entry_eq]
  generalize (lg_sl ([.ref (cA z 6 0), .ref (cA z 1 m0)]) ++ List.replicate (3 - (lg_sl ([.ref (cA z 6 0), .ref (cA z 1 m0)])).length) Slot.unset).toArray = ls at hl ⊢
  have hl : lv_has ls 3 [(0, .ref (cA z 6 0)), (1, .ref (cA z 1 m0))] := hl
  have hX6 : ∀ w ∈ wsX60, w ∈ wsX6_takePromised := by decide +kernel
  have hX1 : ∀ w ∈ wsX10, w ∈ wsX6_takePromised := by decide +kernel
  have hX3 : ∀ w ∈ wsX30, w ∈ wsX6_takePromised := by decide +kernel
  refine lv_aload_n hx hb dX6_takePromised_0 rfl (lv_at hl 0 rfl) ?_
  refine lv_aload_n hx hb dX6_takePromised_1 rfl (lv_at hl 1 rfl) ?_
  refine lv_iconst (v := 0) hx hb dX6_takePromised_2 (by decide) ?_
  refine cc1 (va_runV (As := [.ref (cA z 1 m0), .int 0]) (rest := []) ⟨hx, hb, hml, hown, hts⟩ (m_awaiting l D y z _ m0 a 0 hm0 ha ham hcr) (cwV 2 hts gX6_takePromised_X6_awaiting rfl rfl rfl (by decide +kernel) ⟨Nat.le_of_ble_eq_true rfl, Nat.le_of_ble_eq_true rfl⟩) (cPreV (k := 6) (q := (RX6, TX6, 7)) hW hK (show 0 < 1 from Nat.zero_lt_one) rfl rfl [.ref (cA z 1 m0), .int 0]) rfl rfl hl.1 rfl (lv_room (Nat.le_of_ble_eq_true rfl)) dX6_takePromised_3 ⟨Nat.le_of_ble_eq_true rfl, Nat.le_of_ble_eq_true rfl⟩) hW hS hA (fun v3 u3 H locs hu3 hW hS => ?_)
  obtain ⟨rfl, f3⟩ := hu3
  replace f3 := f3.symm
  subst f3
  cases ho : fAwait z m0 a 0 with
  | none =>
    refine W.eq (g2 := F0 m 6 ls [.null]) rfl ?_
    refine lv_astore_nN (lv' := [(2, _), (0, _), (1, _)]) hx hb dX6_takePromised_6 rfl hl (by decide) rfl (fun ls hl => ?_)
    refine lv_aload_nN hx hb dX6_takePromised_7 rfl (lv_at hl 0 rfl) ?_
    refine lv_ifnonnullN hx hb dX6_takePromised_8 ?_
    refine W.widen (k := 1) (n := 3) (Nat.le_of_ble_eq_true rfl) (Nat.le_of_ble_eq_true rfl) ?_
    refine W.vret hx hb hr ?_ hS.2.2 dX6_takePromised_11
    refine cq0 ?_ hW hS
    exact (by rw [promTo, ho])
  | some r =>
    refine W.eq (g2 := F0 m 6 ls [.ref (cA z 3 r)]) rfl ?_
    obtain ⟨hr0, hc⟩ := fAwait_lt hcr ho
    have hms : cS z 2 m0 < cNs z := hI.1.2.2.1 m0 hm0
    refine lv_astore_n (lv' := [(2, _), (0, _), (1, _)]) hx hb dX6_takePromised_6 rfl hl (by decide) rfl (fun ls hl => ?_)
    refine lv_aload_n hx hb dX6_takePromised_7 rfl (lv_at hl 0 rfl) ?_
    refine lv_ifnonnull (tgt := 12) hx hb dX6_takePromised_8 (by decide) ?_
    refine lv_aload_n hx hb dX6_takePromised_12 rfl (lv_at hl 0 rfl) ?_
    refine lv_aload_n hx hb dX6_takePromised_13 rfl (lv_at hl 2 rfl) ?_
    refine gN_Message_ballot hx hb hts hX1 hown hK.1 hW rfl (by first | assumption | omega | exact Nat.zero_lt_one | decide) (hK.2 _ (List.mem_of_getElem? (i := 23) rfl)) dX6_takePromised_14 ?_
    refine lv_aload_n hx hb dX6_takePromised_17 rfl (lv_at hl 2 rfl) ?_
    refine gN_Message_state hx hb hts hX1 hown hK.1 hW rfl (by first | assumption | omega | exact Nat.zero_lt_one | decide) (hK.2 _ (List.mem_of_getElem? (i := 25) rfl)) dX6_takePromised_18 ?_
    refine cc0 (va_runVN (As := [.int (cI z 11 m0), .ref (cA z 5 (cS z 2 m0))]) (rest := []) ⟨hx, hb, hml, hown, hts⟩ (m_Request_hearState l D y z _ r (cI z 11 m0) (cS z 2 m0) hr0) ⟨(va_cnB 2 hts gX6_takePromised_X3_hearState_n231 rfl rfl rfl (hK.2 _ (List.mem_of_getElem? (i := 49) rfl)) (hts (.initialized RX3) (by decide +kernel)) (by decide +kernel) ⟨Nat.le_of_ble_eq_true rfl, Nat.le_of_ble_eq_true rfl⟩), hts (.instanceMethod yX3_hearState) (by decide +kernel), hts (.selects RX3 yX3_hearState yX3_hearState) (by decide +kernel)⟩ (cPreV (k := 3) (q := (RX3, TX3, 15)) hW hK hr0 rfl rfl [.int (cI z 11 m0), .ref (cA z 5 (cS z 2 m0))]) rfl rfl hl.1 rfl (lv_room (Nat.le_of_ble_eq_true rfl)) dX6_takePromised_21 ⟨Nat.le_of_ble_eq_true rfl, Nat.le_of_ble_eq_true rfl⟩) hW hS hA (fun u21 H locs hu21 hW hS => ?_)
    have hA1 : cA u21 = cA z := by rw [hu21]; exact fHear_cA _ _ _ _
    have hr1 : r < cNr u21 := by rw [hu21, fHear_cNr]; exact hr0
    have hI1 : cInv u21 := by rw [hu21]; exact cInv_hear hI hms
    have hrow1 : RowOk u21 n := by rw [hu21]; exact ⟨by rw [fHear_cI _ _ _ _ (by decide)]; exact hrow.1, hrow.2.1, by rw [fHear_cS]; exact hrow.2.2⟩
    rw [← hA1] at hl
    refine lv_aload_n hx hb dX6_takePromised_24 rfl (lv_at hl 0 rfl) ?_
    refine lv_aload_n hx hb dX6_takePromised_25 rfl (lv_at hl 2 rfl) ?_
    refine gN_Message_keeper hx hb hts hX1 hown hK.1 hW rfl (by first | assumption | omega | exact Nat.zero_lt_one | decide) (hK.2 _ (List.mem_of_getElem? (i := 17) rfl)) dX6_takePromised_26 ?_
    refine cc0 (va_runVN (As := [.int (cI u21 8 m0)]) (rest := []) ⟨hx, hb, hml, hown, hts⟩ (m_Request_countAnswer l D y u21 _ r (cI u21 8 m0) hr1) ⟨(va_cnB 1 hts gX6_takePromised_X3_countAnswer_n234 rfl rfl rfl (hK.2 _ (List.mem_of_getElem? (i := 50) rfl)) (hts (.initialized RX3) (by decide +kernel)) (by decide +kernel) ⟨Nat.le_of_ble_eq_true rfl, Nat.le_of_ble_eq_true rfl⟩), hts (.instanceMethod yX3_countAnswer) (by decide +kernel), hts (.selects RX3 yX3_countAnswer yX3_countAnswer) (by decide +kernel)⟩ (cPreV (k := 3) (q := (RX3, TX3, 15)) hW hK hr1 rfl rfl [.int (cI u21 8 m0)]) rfl rfl hl.1 rfl (lv_room (Nat.le_of_ble_eq_true rfl)) dX6_takePromised_29 ⟨Nat.le_of_ble_eq_true rfl, Nat.le_of_ble_eq_true rfl⟩) hW hS hA (fun u29 H locs hu29 hW hS => ?_)
    have hu29 : u29 = ansd u21 r m0 := hu29
    subst hu29
    refine lv_aload_n hx hb dX6_takePromised_32 rfl (lv_at hl 0 rfl) ?_
    refine cc1 (va_runVN (As := []) (rest := []) ⟨hx, hb, hml, hown, hts⟩ (m_Request_answers l D y (ansd u21 r m0) _ r hr1) ⟨(va_cnB 0 hts gX6_takePromised_X3_answers_n174 rfl rfl rfl (hK.2 _ (List.mem_of_getElem? (i := 51) rfl)) (hts (.initialized RX3) (by decide +kernel)) (by decide +kernel) ⟨Nat.le_of_ble_eq_true rfl, Nat.le_of_ble_eq_true rfl⟩), hts (.instanceMethod yX3_answers) (by decide +kernel), hts (.selects RX3 yX3_answers yX3_answers) (by decide +kernel)⟩ (cPreV (k := 3) (q := (RX3, TX3, 15)) hW hK hr1 rfl rfl []) rfl rfl hl.1 rfl (lv_room (Nat.le_of_ble_eq_true rfl)) dX6_takePromised_33 ⟨Nat.le_of_ble_eq_true rfl, Nat.le_of_ble_eq_true rfl⟩) hW hS hA (fun v33 u33 H locs hu33 hW hS => ?_)
    obtain ⟨rfl, f33⟩ := hu33
    replace f33 := f33.symm
    subst f33
    refine lv_aload_n hx hb dX6_takePromised_36 rfl (lv_at hl 0 rfl) ?_
    refine gN_Request_enoughPromised hx hb hts hX3 hown hK.1 hW rfl (by first | assumption | omega | exact Nat.zero_lt_one | decide) (hK.2 _ (List.mem_of_getElem? (i := 32) rfl)) dX6_takePromised_37 ?_
    refine lv_icmp_lt (tgt := 61) hx hb dX6_takePromised_40 (by decide) (fun c_40 => ?_) (fun c_40 => ?_)
    · refine W.widen (k := 1) (n := 3) (Nat.le_of_ble_eq_true rfl) (Nat.le_of_ble_eq_true rfl) ?_
      refine W.vret hx hb hr ?_ hS.2.2 dX6_takePromised_61
      refine cq0 ?_ hW hS
      exact (by rw [promTo, ho]; simp only; rw [← hu21, promR, if_pos c_40])
    · obtain ⟨⟨k, hk, hk15⟩, st, hst0, hst⟩ := hI1.2.2 r hr1
      refine lv_aload_n hx hb dX6_takePromised_43 rfl (lv_at hl 0 rfl) ?_
      refine cc0 (va_runVN (As := []) (rest := []) ⟨hx, hb, hml, hown, hts⟩ (m_Request_beginAccepting l D y (ansd u21 r m0) _ r st k hr1 hst hst0 hk15 hk (hI1.bo hst0) hI1.1) ⟨(va_cnB 0 hts gX6_takePromised_X3_beginAccepting_n240 rfl rfl rfl (hK.2 _ (List.mem_of_getElem? (i := 52) rfl)) (hts (.initialized RX3) (by decide +kernel)) (by decide +kernel) ⟨Nat.le_of_ble_eq_true rfl, Nat.le_of_ble_eq_true rfl⟩), hts (.instanceMethod yX3_beginAccepting) (by decide +kernel), hts (.selects RX3 yX3_beginAccepting yX3_beginAccepting) (by decide +kernel)⟩ (cPreV (k := 3) (q := (RX3, TX3, 15)) hW hK hr1 rfl rfl []) rfl rfl hl.1 rfl (lv_room (Nat.le_of_ble_eq_true rfl)) dX6_takePromised_44 ⟨Nat.le_of_ble_eq_true rfl, Nat.le_of_ble_eq_true rfl⟩) hW hS hA (fun u44 H locs hu44 hW hS => ?_)
      obtain ⟨hA4, hNr4, hI4, hS4, -, st3, hst3⟩ := beginTo_facts hu44
      have hrow4 : RowOk u44 n := ⟨by rw [hI4]; exact hrow1.1, hrow1.2.1, by rw [hS4]; exact hrow1.2.2⟩
      have hr4 : r < cNr u44 := by rw [hNr4]; exact hr1
      have hl : lv_has ls 3 [(2, .ref (cA u44 3 r)), (0, .ref (cA u44 6 0)), (1, .ref (cA u44 1 m0))] := by rw [hA4 3 r (by decide), hA4 6 0 (by decide), hA4 1 m0 (by decide)]; exact hl
      refine lv_aload_n hx hb dX6_takePromised_47 rfl (lv_at hl 1 rfl) ?_
      refine lv_iconst (v := 2) hx hb dX6_takePromised_48 (by decide) ?_
      refine lv_aload_n hx hb dX6_takePromised_49 rfl (lv_at hl 0 rfl) ?_
      refine lv_aload_n hx hb dX6_takePromised_50 rfl (lv_at hl 0 rfl) ?_
      refine gN_Request_acceptSet hx hb hts hX3 hown hK.1 hW rfl (by first | assumption | omega | exact Nat.zero_lt_one | decide) (hK.2 _ (List.mem_of_getElem? (i := 33) rfl)) dX6_takePromised_51 ?_
      refine lv_aload_n hx hb dX6_takePromised_54 rfl (lv_at hl 0 rfl) ?_
      refine gN_Request_state_s hx hb hts hX3 hown hK.1 hW rfl hst3 (by first | assumption | omega | exact Nat.zero_lt_one | decide) (hK.2 _ (List.mem_of_getElem? (i := 36) rfl)) dX6_takePromised_55 ?_
      refine cc0 (va_runV (As := [.int 2, .ref (cA u44 3 r), .int (cI u44 18 r), .ref (cA u44 5 st3)]) (rest := []) ⟨hx, hb, hml, hown, hts⟩ (m_sendToSet l D y u44 _ 2 r (cI u44 18 r) st3 n hr4 hrow4) (cwV 4 hts gX6_takePromised_X6_sendToSet rfl rfl rfl (by decide +kernel) ⟨Nat.le_of_ble_eq_true rfl, Nat.le_of_ble_eq_true rfl⟩) (cPreV (k := 6) (q := (RX6, TX6, 7)) hW hK (show 0 < 1 from Nat.zero_lt_one) rfl rfl [.int 2, .ref (cA u44 3 r), .int (cI u44 18 r), .ref (cA u44 5 st3)]) rfl rfl hl.1 rfl (lv_room (Nat.le_of_ble_eq_true rfl)) dX6_takePromised_58 ⟨Nat.le_of_ble_eq_true rfl, Nat.le_of_ble_eq_true rfl⟩) hW hS hA (fun u58 H locs hu58 hW hS => ?_)
      refine W.widen (k := 1) (n := 3) (Nat.le_of_ble_eq_true rfl) (Nat.le_of_ble_eq_true rfl) ?_
      refine W.vret hx hb hr ?_ hS.2.2 dX6_takePromised_61
      refine cq0 ?_ hW hS
      exact (by rw [promTo, ho]; simp only; rw [← hu21, promR, if_neg c_40]; exact ⟨st, k, u44, st3, hst, hk15, hk, hu44, hst3, hu58⟩)
