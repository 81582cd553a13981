/-- the greater one of both ballots of a register -/
def gbal (z : CS) (p : Nat) : Int32 := if cI z 0 p < cI z 1 p then cI z 1 p else cI z 0 p
def fPrep (z : CS) (m k q : Nat) : CS := if cI z 29 k = 0 then (if cI z 11 m ≤ gbal z (4 * k + q) then fBack z 4 m (gbal z (4 * k + q)) 0 else fBack (sI z 0 (4 * k + q) (cI z 11 m)) 1 m (cI z 1 (4 * k + q)) (cS z 0 (4 * k + q))) else z
def fAcc (z : CS) (m k q : Nat) : CS := if cI z 29 k = 0 then (if cI z 11 m < gbal z (4 * k + q) then fBack z 4 m (gbal z (4 * k + q)) 0 else fBack (sI (sS (sI z 1 (4 * k + q) (cI z 11 m)) 0 (4 * k + q) (cS z 2 m)) 0 (4 * k + q) 0) 3 m (cI z 11 m) 0) else z
set_option maxHeartbeats 4000000 in
set_option maxRecDepth 100000 in
theorem m_takePrepare (l : Launch) (D : va_G) (y : Nat → ClassId) (z : CS) (sz : Nat) (m0 k q n : Nat) (hm0 : m0 < 301) (hk : k < 9) (hq : q < 4) (hkm : cI z 8 m0 = nI k) (hqm : cI z 10 m0 = nI q) (hn : cI z 25 0 = nI n) (hn0 : n ≤ 300) (h3 : ∀ j, j < 301 → cS z 3 j < 301)  : Met l yX6_takePrepare wsX6_takePrepare ({ frames := 2, cells := 0, slots := 0, locals := 60 }) (va_Pc [.ref (cA z 6 0), .ref (cA z 1 m0)] (cPre D y z sz)) (cQ0 D y z sz (fun u => u = fPrep z m0 k q)) 0 0 (cF z sz) := by
  refine Met.ofW (cc := cX6_takePrepare) (maxL := 3) (ret := none) (by decide) rfl ?_
  intro p e s m args below meth c s₁ B hml hv
  obtain ⟨rfl, hsz, hW0, hK⟩ := hv
  have hx := B.exec
  have hb := B.bytes
  have hr := B.returns
  have hts := atoms_spec (ws := wsX6_takePrepare) B.pre
  have hown : s.vm.findClass RX6 = some m.cls := findClass_of_methodNamed B.named
  have hlocks := B.notSynchronized
  subst hsz
  have hW := hW0.self (sz := s.heap.size)
  have hA : ∀ q, s.heap.size ≤ q → cF z s.heap.size q := fun q h => Or.inr h
  have hS : va_S (cF z s.heap.size) s.heap s.heap [] := va_S.rf
  have hl := lv_entry ([.ref (cA z 6 0), .ref (cA z 1 m0)]) (n := 3) (Nat.le_of_ble_eq_true rfl)
  rw [lg_entry_eq]
  generalize (lg_sl ([.ref (cA z 6 0), .ref (cA z 1 m0)]) ++ List.replicate (3 - (lg_sl ([.ref (cA z 6 0), .ref (cA z 1 m0)])).length) Slot.unset).toArray = ls at hl ⊢
  have hl : lv_has ls 3 [(0, .ref (cA z 6 0)), (1, .ref (cA z 1 m0))] := hl
  have hX6 : ∀ w ∈ wsX60, w ∈ wsX6_takePrepare := by decide +kernel
  have hX1 : ∀ w ∈ wsX10, w ∈ wsX6_takePrepare := by decide +kernel
  have hX2 : ∀ w ∈ wsX20, w ∈ wsX6_takePrepare := by decide +kernel
  refine lv_aload_n hx hb dX6_takePrepare_0 rfl (lv_at hl 0 rfl) ?_
  refine g_SharedRegisters_isDown hx hb hts hX6 hown hK.1 hW rfl (by first | assumption | omega | exact Nat.zero_lt_one | decide) (hts (.fieldLink RX6 27 "SharedRegisters" "isDown" "[Z") (by decide +kernel)) dX6_takePrepare_1 ?_
  refine lv_aload_n hx hb dX6_takePrepare_4 rfl (lv_at hl 1 rfl) ?_
  refine gN_Message_keeper hx hb hts hX1 hown hK.1 hW rfl (by first | assumption | omega | exact Nat.zero_lt_one | decide) (hK.2 _ (List.mem_of_getElem? (i := 17) rfl)) dX6_takePrepare_5 ?_
  rw [hkm]
  refine al_isDown hx hb hK.1 hW rfl (vp_in_nI hk (by decide)) dX6_takePrepare_8 ?_
  rw [nI_clamp (show k < 2 ^ 31 by omega)]
  refine lv_if_eq (tgt := 13) hx hb dX6_takePrepare_9 (by decide) (fun c_9 => ?_) (fun c_9 => ?_)
  · refine lv_aload_n hx hb dX6_takePrepare_13 rfl (lv_at hl 0 rfl) ?_
    refine lv_aload_n hx hb dX6_takePrepare_14 rfl (lv_at hl 1 rfl) ?_
    refine gN_Message_keeper hx hb hts hX1 hown hK.1 hW rfl (by first | assumption | omega | exact Nat.zero_lt_one | decide) (hK.2 _ (List.mem_of_getElem? (i := 17) rfl)) dX6_takePrepare_15 ?_
    rw [hkm]
    refine lv_aload_n hx hb dX6_takePrepare_18 rfl (lv_at hl 1 rfl) ?_
    refine gN_Message_key hx hb hts hX1 hown hK.1 hW rfl (by first | assumption | omega | exact Nat.zero_lt_one | decide) (hK.2 _ (List.mem_of_getElem? (i := 21) rfl)) dX6_takePrepare_19 ?_
    rw [hqm]
    refine cc1 (va_runV (As := [.int (nI k), .int (nI q)]) (rest := []) ⟨hx, hb, hml, hown, hts⟩ (m_registerOf l D y z _ k q hk hq) (cwV 2 hts gX6_takePrepare_X6_registerOf rfl rfl rfl (by decide +kernel) ⟨Nat.le_of_ble_eq_true rfl, Nat.le_of_ble_eq_true rfl⟩) (cPreV (k := 6) (q := (RX6, TX6, 7)) hW hK (show 0 < 1 from Nat.zero_lt_one) rfl rfl [.int (nI k), .int (nI q)]) rfl rfl hl.1 rfl (lv_room (Nat.le_of_ble_eq_true rfl)) dX6_takePrepare_22 ⟨Nat.le_of_ble_eq_true rfl, Nat.le_of_ble_eq_true rfl⟩) hW hS hA (fun v22 u22 H locs hu22 hW hS => ?_)
    obtain ⟨rfl, e22⟩ := hu22
    replace e22 := e22.symm
    subst e22
    have hp36 : 4 * k + q < 36 := by omega
    refine lv_astore_n (lv' := [(2, _), (0, _), (1, _)]) hx hb dX6_takePrepare_25 rfl hl (by decide) rfl (fun ls hl => ?_)
    refine lv_aload_n hx hb dX6_takePrepare_26 rfl (lv_at hl 2 rfl) ?_
    refine gN_Message_ballot hx hb hts hX1 hown hK.1 hW rfl (by first | assumption | omega | exact Nat.zero_lt_one | decide) (hK.2 _ (List.mem_of_getElem? (i := 23) rfl)) dX6_takePrepare_27 ?_
    refine lv_aload_n hx hb dX6_takePrepare_30 rfl (lv_at hl 0 rfl) ?_
    refine cc1 (va_runVN (As := []) (rest := [.int (cI z 11 m0)]) ⟨hx, hb, hml, hown, hts⟩ (m_Register_greaterBallot l D y z _ (4 * k + q) hp36) ⟨(va_cnB 0 hts gX6_takePrepare_X2_greaterBallot_n216 rfl rfl rfl (hK.2 _ (List.mem_of_getElem? (i := 47) rfl)) (hts (.initialized RX2) (by decide +kernel)) (by decide +kernel) ⟨Nat.le_of_ble_eq_true rfl, Nat.le_of_ble_eq_true rfl⟩), hts (.instanceMethod yX2_greaterBallot) (by decide +kernel), hts (.selects RX2 yX2_greaterBallot yX2_greaterBallot) (by decide +kernel)⟩ (cPreV (k := 2) (q := (RX2, TX2, 3)) hW hK hp36 rfl rfl []) rfl rfl hl.1 rfl (lv_room (Nat.le_of_ble_eq_true rfl)) dX6_takePrepare_31 ⟨Nat.le_of_ble_eq_true rfl, Nat.le_of_ble_eq_true rfl⟩) hW hS hA (fun v31 u31 H locs hu31 hW hS => ?_)
    obtain ⟨e31, f31⟩ := hu31
    replace f31 := f31.symm
    subst f31
    rw [show (if cI z 0 (4 * k + q) < cI z 1 (4 * k + q) then cI z 1 (4 * k + q) else cI z 0 (4 * k + q)) = gbal z (4 * k + q) from rfl] at e31
    subst e31
    refine lv_icmp_le (tgt := 62) hx hb dX6_takePrepare_34 (by decide) (fun c_34 => ?_) (fun c_34 => ?_)
    · refine lv_aload_n hx hb dX6_takePrepare_62 rfl (lv_at hl 1 rfl) ?_
      refine lv_iconst (v := 4) hx hb dX6_takePrepare_63 (by decide) ?_
      refine lv_aload_n hx hb dX6_takePrepare_64 rfl (lv_at hl 2 rfl) ?_
      refine lv_aload_n hx hb dX6_takePrepare_65 rfl (lv_at hl 0 rfl) ?_
      refine cc1 (va_runVN (As := []) (rest := [.ref (cA z 1 m0), .int 4, .ref (cA z 6 0)]) ⟨hx, hb, hml, hown, hts⟩ (m_Register_greaterBallot l D y z _ (4 * k + q) hp36) ⟨(va_cnB 0 hts gX6_takePrepare_X2_greaterBallot_n216 rfl rfl rfl (hK.2 _ (List.mem_of_getElem? (i := 47) rfl)) (hts (.initialized RX2) (by decide +kernel)) (by decide +kernel) ⟨Nat.le_of_ble_eq_true rfl, Nat.le_of_ble_eq_true rfl⟩), hts (.instanceMethod yX2_greaterBallot) (by decide +kernel), hts (.selects RX2 yX2_greaterBallot yX2_greaterBallot) (by decide +kernel)⟩ (cPreV (k := 2) (q := (RX2, TX2, 3)) hW hK hp36 rfl rfl []) rfl rfl hl.1 rfl (lv_room (Nat.le_of_ble_eq_true rfl)) dX6_takePrepare_66 ⟨Nat.le_of_ble_eq_true rfl, Nat.le_of_ble_eq_true rfl⟩) hW hS hA (fun v66 u66 H locs hu66 hW hS => ?_)
      obtain ⟨e66, f66⟩ := hu66
      replace f66 := f66.symm
      subst f66
      rw [show (if cI z 0 (4 * k + q) < cI z 1 (4 * k + q) then cI z 1 (4 * k + q) else cI z 0 (4 * k + q)) = gbal z (4 * k + q) from rfl] at e66
      subst e66
      refine lv_aload_n hx hb dX6_takePrepare_69 rfl (lv_at hl 1 rfl) ?_
      refine g_SharedRegisters_absent hx hb hts hX6 hown hK.1 hW rfl (by first | assumption | omega | exact Nat.zero_lt_one | decide) (hts (.fieldLink RX6 12 "SharedRegisters" "absent" "LSharedRegisters$State;") (by decide +kernel)) dX6_takePrepare_70 ?_
      refine cc0 (va_runV (As := [.int 4, .ref (cA z 1 m0), .int (gbal z (4 * k + q)), .ref (cA z 5 (0))]) (rest := []) ⟨hx, hb, hml, hown, hts⟩ (m_sendBack l D y z _ 4 m0 (gbal z (4 * k + q)) (0) n hm0 hn hn0 h3) (cwV 4 hts gX6_takePrepare_X6_sendBack rfl rfl rfl (by decide +kernel) ⟨Nat.le_of_ble_eq_true rfl, Nat.le_of_ble_eq_true rfl⟩) (cPreV (k := 6) (q := (RX6, TX6, 7)) hW hK (show 0 < 1 from Nat.zero_lt_one) rfl rfl [.int 4, .ref (cA z 1 m0), .int (gbal z (4 * k + q)), .ref (cA z 5 (0))]) rfl rfl hl.1 rfl (lv_room (Nat.le_of_ble_eq_true rfl)) dX6_takePrepare_73 ⟨Nat.le_of_ble_eq_true rfl, Nat.le_of_ble_eq_true rfl⟩) hW hS hA (fun u73 H locs hu73 hW hS => ?_)
      subst hu73
      refine W.vret hx hb hr ?_ hS.2.2 dX6_takePrepare_76
      refine cq0 ?_ hW hS
      exact (by rw [fPrep, if_pos c_9, if_pos c_34])
    · refine lv_aload_n hx hb dX6_takePrepare_37 rfl (lv_at hl 0 rfl) ?_
      refine lv_aload_n hx hb dX6_takePrepare_38 rfl (lv_at hl 2 rfl) ?_
      refine gN_Message_ballot hx hb hts hX1 hown hK.1 hW rfl (by first | assumption | omega | exact Nat.zero_lt_one | decide) (hK.2 _ (List.mem_of_getElem? (i := 23) rfl)) dX6_takePrepare_39 ?_
      refine pN_Register_promise hx hb hts hX2 hown hK.1 hW hS rfl (by first | assumption | omega | exact Nat.zero_lt_one | decide) (hK.2 _ (List.mem_of_getElem? (i := 1) rfl)) dX6_takePrepare_42 (fun H locs hW hS => ?_)
      refine lv_aload_n hx hb dX6_takePrepare_45 rfl (lv_at hl 1 rfl) ?_
      refine lv_iconst (v := 1) hx hb dX6_takePrepare_46 (by decide) ?_
      refine lv_aload_n hx hb dX6_takePrepare_47 rfl (lv_at hl 2 rfl) ?_
      refine lv_aload_n hx hb dX6_takePrepare_48 rfl (lv_at hl 0 rfl) ?_
      refine gN_Register_ballot hx hb hts hX2 hown hK.1 hW rfl (by first | assumption | omega | exact Nat.zero_lt_one | decide) (hK.2 _ (List.mem_of_getElem? (i := 2) rfl)) dX6_takePrepare_49 ?_
      refine lv_aload_n hx hb dX6_takePrepare_52 rfl (lv_at hl 0 rfl) ?_
      refine gN_Register_state hx hb hts hX2 hown hK.1 hW rfl (by first | assumption | omega | exact Nat.zero_lt_one | decide) (hK.2 _ (List.mem_of_getElem? (i := 3) rfl)) dX6_takePrepare_53 ?_
      refine cc0 (va_runV (As := [.int 1, .ref (cA z 1 m0), .int (cI z 1 (4 * k + q)), .ref (cA z 5 (cS z 0 (4 * k + q)))]) (rest := []) ⟨hx, hb, hml, hown, hts⟩ (m_sendBack l D y (sI z 0 (4 * k + q) (cI z 11 m0)) _ 1 m0 (cI z 1 (4 * k + q)) (cS z 0 (4 * k + q)) n hm0 hn hn0 h3) (cwV 4 hts gX6_takePrepare_X6_sendBack rfl rfl rfl (by decide +kernel) ⟨Nat.le_of_ble_eq_true rfl, Nat.le_of_ble_eq_true rfl⟩) (cPreV (k := 6) (q := (RX6, TX6, 7)) hW hK (show 0 < 1 from Nat.zero_lt_one) rfl rfl [.int 1, .ref (cA z 1 m0), .int (cI z 1 (4 * k + q)), .ref (cA z 5 (cS z 0 (4 * k + q)))]) rfl rfl hl.1 rfl (lv_room (Nat.le_of_ble_eq_true rfl)) dX6_takePrepare_56 ⟨Nat.le_of_ble_eq_true rfl, Nat.le_of_ble_eq_true rfl⟩) hW hS hA (fun u56 H locs hu56 hW hS => ?_)
      subst hu56
      refine lv_goto (tgt := 76) hx hb dX6_takePrepare_59 (by decide) ?_
      refine W.vret hx hb hr ?_ hS.2.2 dX6_takePrepare_76
      refine cq0 ?_ hW hS
      exact (by rw [fPrep, if_pos c_9, if_neg c_34])
  · refine W.vret hx hb hr ?_ hS.2.2 dX6_takePrepare_12
    refine cq0 ?_ hW hS
    exact (by rw [fPrep, if_neg c_9])
set_option maxHeartbeats 4000000 in
set_option maxRecDepth 100000 in
theorem m_takeAccept (l : Launch) (D : va_G) (y : Nat → ClassId) (z : CS) (sz : Nat) (m0 k q n : Nat) (hm0 : m0 < 301) (hk : k < 9) (hq : q < 4) (hkm : cI z 8 m0 = nI k) (hqm : cI z 10 m0 = nI q) (hn : cI z 25 0 = nI n) (hn0 : n ≤ 300) (h3 : ∀ j, j < 301 → cS z 3 j < 301)  : Met l yX6_takeAccept wsX6_takeAccept ({ frames := 2, cells := 0, slots := 0, locals := 60 }) (va_Pc [.ref (cA z 6 0), .ref (cA z 1 m0)] (cPre D y z sz)) (cQ0 D y z sz (fun u => u = fAcc z m0 k q)) 0 0 (cF z sz) := by
  refine Met.ofW (cc := cX6_takeAccept) (maxL := 3) (ret := none) (by decide) rfl ?_
  intro p e s m args below meth c s₁ B hml hv
  obtain ⟨rfl, hsz, hW0, hK⟩ := hv
  have hx := B.exec
  have hb := B.bytes
  have hr := B.returns
  have hts := atoms_spec (ws := wsX6_takeAccept) B.pre
  have hown : s.vm.findClass RX6 = some m.cls := findClass_of_methodNamed B.named
  have hlocks := B.notSynchronized
  subst hsz
  have hW := hW0.self (sz := s.heap.size)
  have hA : ∀ q, s.heap.size ≤ q → cF z s.heap.size q := fun q h => Or.inr h
  have hS : va_S (cF z s.heap.size) s.heap s.heap [] := va_S.rf
  have hl := lv_entry ([.ref (cA z 6 0), .ref (cA z 1 m0)]) (n := 3) (Nat.le_of_ble_eq_true rfl)
  rw [lg_entry_eq]
  generalize (lg_sl ([.ref (cA z 6 0), .ref (cA z 1 m0)]) ++ List.replicate (3 - (lg_sl ([.ref (cA z 6 0), .ref (cA z 1 m0)])).length) Slot.unset).toArray = ls at hl ⊢
  have hl : lv_has ls 3 [(0, .ref (cA z 6 0)), (1, .ref (cA z 1 m0))] := hl
  have hX6 : ∀ w ∈ wsX60, w ∈ wsX6_takeAccept := by decide +kernel
  have hX1 : ∀ w ∈ wsX10, w ∈ wsX6_takeAccept := by decide +kernel
  have hX2 : ∀ w ∈ wsX20, w ∈ wsX6_takeAccept := by decide +kernel
  refine lv_aload_n hx hb dX6_takeAccept_0 rfl (lv_at hl 0 rfl) ?_
  refine g_SharedRegisters_isDown hx hb hts hX6 hown hK.1 hW rfl (by first | assumption | omega | exact Nat.zero_lt_one | decide) (hts (.fieldLink RX6 27 "SharedRegisters" "isDown" "[Z") (by decide +kernel)) dX6_takeAccept_1 ?_
  refine lv_aload_n hx hb dX6_takeAccept_4 rfl (lv_at hl 1 rfl) ?_
  refine gN_Message_keeper hx hb hts hX1 hown hK.1 hW rfl (by first | assumption | omega | exact Nat.zero_lt_one | decide) (hK.2 _ (List.mem_of_getElem? (i := 17) rfl)) dX6_takeAccept_5 ?_
  rw [hkm]
  refine al_isDown hx hb hK.1 hW rfl (vp_in_nI hk (by decide)) dX6_takeAccept_8 ?_
  rw [nI_clamp (show k < 2 ^ 31 by omega)]
  refine lv_if_eq (tgt := 13) hx hb dX6_takeAccept_9 (by decide) (fun c_9 => ?_) (fun c_9 => ?_)
  · refine lv_aload_n hx hb dX6_takeAccept_13 rfl (lv_at hl 0 rfl) ?_
    refine lv_aload_n hx hb dX6_takeAccept_14 rfl (lv_at hl 1 rfl) ?_
    refine gN_Message_keeper hx hb hts hX1 hown hK.1 hW rfl (by first | assumption | omega | exact Nat.zero_lt_one | decide) (hK.2 _ (List.mem_of_getElem? (i := 17) rfl)) dX6_takeAccept_15 ?_
    rw [hkm]
    refine lv_aload_n hx hb dX6_takeAccept_18 rfl (lv_at hl 1 rfl) ?_
    refine gN_Message_key hx hb hts hX1 hown hK.1 hW rfl (by first | assumption | omega | exact Nat.zero_lt_one | decide) (hK.2 _ (List.mem_of_getElem? (i := 21) rfl)) dX6_takeAccept_19 ?_
    rw [hqm]
    refine cc1 (va_runV (As := [.int (nI k), .int (nI q)]) (rest := []) ⟨hx, hb, hml, hown, hts⟩ (m_registerOf l D y z _ k q hk hq) (cwV 2 hts gX6_takeAccept_X6_registerOf rfl rfl rfl (by decide +kernel) ⟨Nat.le_of_ble_eq_true rfl, Nat.le_of_ble_eq_true rfl⟩) (cPreV (k := 6) (q := (RX6, TX6, 7)) hW hK (show 0 < 1 from Nat.zero_lt_one) rfl rfl [.int (nI k), .int (nI q)]) rfl rfl hl.1 rfl (lv_room (Nat.le_of_ble_eq_true rfl)) dX6_takeAccept_22 ⟨Nat.le_of_ble_eq_true rfl, Nat.le_of_ble_eq_true rfl⟩) hW hS hA (fun v22 u22 H locs hu22 hW hS => ?_)
    obtain ⟨rfl, e22⟩ := hu22
    replace e22 := e22.symm
    subst e22
    have hp36 : 4 * k + q < 36 := by omega
    refine lv_astore_n (lv' := [(2, _), (0, _), (1, _)]) hx hb dX6_takeAccept_25 rfl hl (by decide) rfl (fun ls hl => ?_)
    refine lv_aload_n hx hb dX6_takeAccept_26 rfl (lv_at hl 2 rfl) ?_
    refine gN_Message_ballot hx hb hts hX1 hown hK.1 hW rfl (by first | assumption | omega | exact Nat.zero_lt_one | decide) (hK.2 _ (List.mem_of_getElem? (i := 23) rfl)) dX6_takeAccept_27 ?_
    refine lv_aload_n hx hb dX6_takeAccept_30 rfl (lv_at hl 0 rfl) ?_
    refine cc1 (va_runVN (As := []) (rest := [.int (cI z 11 m0)]) ⟨hx, hb, hml, hown, hts⟩ (m_Register_greaterBallot l D y z _ (4 * k + q) hp36) ⟨(va_cnB 0 hts gX6_takeAccept_X2_greaterBallot_n216 rfl rfl rfl (hK.2 _ (List.mem_of_getElem? (i := 47) rfl)) (hts (.initialized RX2) (by decide +kernel)) (by decide +kernel) ⟨Nat.le_of_ble_eq_true rfl, Nat.le_of_ble_eq_true rfl⟩), hts (.instanceMethod yX2_greaterBallot) (by decide +kernel), hts (.selects RX2 yX2_greaterBallot yX2_greaterBallot) (by decide +kernel)⟩ (cPreV (k := 2) (q := (RX2, TX2, 3)) hW hK hp36 rfl rfl []) rfl rfl hl.1 rfl (lv_room (Nat.le_of_ble_eq_true rfl)) dX6_takeAccept_31 ⟨Nat.le_of_ble_eq_true rfl, Nat.le_of_ble_eq_true rfl⟩) hW hS hA (fun v31 u31 H locs hu31 hW hS => ?_)
    obtain ⟨e31, f31⟩ := hu31
    replace f31 := f31.symm
    subst f31
    rw [show (if cI z 0 (4 * k + q) < cI z 1 (4 * k + q) then cI z 1 (4 * k + q) else cI z 0 (4 * k + q)) = gbal z (4 * k + q) from rfl] at e31
    subst e31
    refine lv_icmp_lt (tgt := 66) hx hb dX6_takeAccept_34 (by decide) (fun c_34 => ?_) (fun c_34 => ?_)
    · refine lv_aload_n hx hb dX6_takeAccept_66 rfl (lv_at hl 1 rfl) ?_
      refine lv_iconst (v := 4) hx hb dX6_takeAccept_67 (by decide) ?_
      refine lv_aload_n hx hb dX6_takeAccept_68 rfl (lv_at hl 2 rfl) ?_
      refine lv_aload_n hx hb dX6_takeAccept_69 rfl (lv_at hl 0 rfl) ?_
      refine cc1 (va_runVN (As := []) (rest := [.ref (cA z 1 m0), .int 4, .ref (cA z 6 0)]) ⟨hx, hb, hml, hown, hts⟩ (m_Register_greaterBallot l D y z _ (4 * k + q) hp36) ⟨(va_cnB 0 hts gX6_takeAccept_X2_greaterBallot_n216 rfl rfl rfl (hK.2 _ (List.mem_of_getElem? (i := 47) rfl)) (hts (.initialized RX2) (by decide +kernel)) (by decide +kernel) ⟨Nat.le_of_ble_eq_true rfl, Nat.le_of_ble_eq_true rfl⟩), hts (.instanceMethod yX2_greaterBallot) (by decide +kernel), hts (.selects RX2 yX2_greaterBallot yX2_greaterBallot) (by decide +kernel)⟩ (cPreV (k := 2) (q := (RX2, TX2, 3)) hW hK hp36 rfl rfl []) rfl rfl hl.1 rfl (lv_room (Nat.le_of_ble_eq_true rfl)) dX6_takeAccept_70 ⟨Nat.le_of_ble_eq_true rfl, Nat.le_of_ble_eq_true rfl⟩) hW hS hA (fun v70 u70 H locs hu70 hW hS => ?_)
      obtain ⟨e70, f70⟩ := hu70
      replace f70 := f70.symm
      subst f70
      rw [show (if cI z 0 (4 * k + q) < cI z 1 (4 * k + q) then cI z 1 (4 * k + q) else cI z 0 (4 * k + q)) = gbal z (4 * k + q) from rfl] at e70
      subst e70
      refine lv_aload_n hx hb dX6_takeAccept_73 rfl (lv_at hl 1 rfl) ?_
      refine g_SharedRegisters_absent hx hb hts hX6 hown hK.1 hW rfl (by first | assumption | omega | exact Nat.zero_lt_one | decide) (hts (.fieldLink RX6 12 "SharedRegisters" "absent" "LSharedRegisters$State;") (by decide +kernel)) dX6_takeAccept_74 ?_
      refine cc0 (va_runV (As := [.int 4, .ref (cA z 1 m0), .int (gbal z (4 * k + q)), .ref (cA z 5 (0))]) (rest := []) ⟨hx, hb, hml, hown, hts⟩ (m_sendBack l D y z _ 4 m0 (gbal z (4 * k + q)) (0) n hm0 hn hn0 h3) (cwV 4 hts gX6_takeAccept_X6_sendBack rfl rfl rfl (by decide +kernel) ⟨Nat.le_of_ble_eq_true rfl, Nat.le_of_ble_eq_true rfl⟩) (cPreV (k := 6) (q := (RX6, TX6, 7)) hW hK (show 0 < 1 from Nat.zero_lt_one) rfl rfl [.int 4, .ref (cA z 1 m0), .int (gbal z (4 * k + q)), .ref (cA z 5 (0))]) rfl rfl hl.1 rfl (lv_room (Nat.le_of_ble_eq_true rfl)) dX6_takeAccept_77 ⟨Nat.le_of_ble_eq_true rfl, Nat.le_of_ble_eq_true rfl⟩) hW hS hA (fun u77 H locs hu77 hW hS => ?_)
      subst hu77
      refine W.vret hx hb hr ?_ hS.2.2 dX6_takeAccept_80
      refine cq0 ?_ hW hS
      exact (by rw [fAcc, if_pos c_9, if_pos c_34])
    · refine lv_aload_n hx hb dX6_takeAccept_37 rfl (lv_at hl 0 rfl) ?_
      refine lv_aload_n hx hb dX6_takeAccept_38 rfl (lv_at hl 2 rfl) ?_
      refine gN_Message_ballot hx hb hts hX1 hown hK.1 hW rfl (by first | assumption | omega | exact Nat.zero_lt_one | decide) (hK.2 _ (List.mem_of_getElem? (i := 23) rfl)) dX6_takeAccept_39 ?_
      refine lv_aload_n hx hb dX6_takeAccept_42 rfl (lv_at hl 2 rfl) ?_
      refine gN_Message_state hx hb hts hX1 hown hK.1 hW rfl (by first | assumption | omega | exact Nat.zero_lt_one | decide) (hK.2 _ (List.mem_of_getElem? (i := 25) rfl)) dX6_takeAccept_43 ?_
      refine cc0 (va_runVN (As := [.int (cI z 11 m0), .ref (cA z 5 (cS z 2 m0))]) (rest := []) ⟨hx, hb, hml, hown, hts⟩ (m_Register_accept l D y z _ (4 * k + q) (cI z 11 m0) (cS z 2 m0) hp36) ⟨(va_cnB 2 hts gX6_takeAccept_X2_accept_n223 rfl rfl rfl (hK.2 _ (List.mem_of_getElem? (i := 55) rfl)) (hts (.initialized RX2) (by decide +kernel)) (by decide +kernel) ⟨Nat.le_of_ble_eq_true rfl, Nat.le_of_ble_eq_true rfl⟩), hts (.instanceMethod yX2_accept) (by decide +kernel), hts (.selects RX2 yX2_accept yX2_accept) (by decide +kernel)⟩ (cPreV (k := 2) (q := (RX2, TX2, 3)) hW hK hp36 rfl rfl [.int (cI z 11 m0), .ref (cA z 5 (cS z 2 m0))]) rfl rfl hl.1 rfl (lv_room (Nat.le_of_ble_eq_true rfl)) dX6_takeAccept_46 ⟨Nat.le_of_ble_eq_true rfl, Nat.le_of_ble_eq_true rfl⟩) hW hS hA (fun u46 H locs hu46 hW hS => ?_)
      subst hu46
      refine lv_aload_n hx hb dX6_takeAccept_49 rfl (lv_at hl 1 rfl) ?_
      refine lv_iconst (v := 3) hx hb dX6_takeAccept_50 (by decide) ?_
      refine lv_aload_n hx hb dX6_takeAccept_51 rfl (lv_at hl 2 rfl) ?_
      refine lv_aload_n hx hb dX6_takeAccept_52 rfl (lv_at hl 2 rfl) ?_
      refine gN_Message_ballot hx hb hts hX1 hown hK.1 hW rfl (by first | assumption | omega | exact Nat.zero_lt_one | decide) (hK.2 _ (List.mem_of_getElem? (i := 23) rfl)) dX6_takeAccept_53 ?_
      refine lv_aload_n hx hb dX6_takeAccept_56 rfl (lv_at hl 1 rfl) ?_
      refine g_SharedRegisters_absent hx hb hts hX6 hown hK.1 hW rfl (by first | assumption | omega | exact Nat.zero_lt_one | decide) (hts (.fieldLink RX6 12 "SharedRegisters" "absent" "LSharedRegisters$State;") (by decide +kernel)) dX6_takeAccept_57 ?_
      refine cc0 (va_runV (As := [.int 3, .ref (cA z 1 m0), .int (cI z 11 m0), .ref (cA z 5 (0))]) (rest := []) ⟨hx, hb, hml, hown, hts⟩ (m_sendBack l D y (sI (sS (sI z 1 (4 * k + q) (cI z 11 m0)) 0 (4 * k + q) (cS z 2 m0)) 0 (4 * k + q) 0) _ 3 m0 (cI z 11 m0) (0) n hm0 hn hn0 h3) (cwV 4 hts gX6_takeAccept_X6_sendBack rfl rfl rfl (by decide +kernel) ⟨Nat.le_of_ble_eq_true rfl, Nat.le_of_ble_eq_true rfl⟩) (cPreV (k := 6) (q := (RX6, TX6, 7)) hW hK (show 0 < 1 from Nat.zero_lt_one) rfl rfl [.int 3, .ref (cA z 1 m0), .int (cI z 11 m0), .ref (cA z 5 (0))]) rfl rfl hl.1 rfl (lv_room (Nat.le_of_ble_eq_true rfl)) dX6_takeAccept_60 ⟨Nat.le_of_ble_eq_true rfl, Nat.le_of_ble_eq_true rfl⟩) hW hS hA (fun u60 H locs hu60 hW hS => ?_)
      subst hu60
      refine lv_goto (tgt := 80) hx hb dX6_takeAccept_63 (by decide) ?_
      refine W.vret hx hb hr ?_ hS.2.2 dX6_takeAccept_80
      refine cq0 ?_ hW hS
      exact (by rw [fAcc, if_pos c_9, if_neg c_34])
  · refine W.vret hx hb hr ?_ hS.2.2 dX6_takeAccept_12
    refine cq0 ?_ hW hS
    exact (by rw [fAcc, if_neg c_9])
