theorem le_lt {x : Int32} {a b : Int32} (h : x ≤ a) (hab : a < b) : x < b := Int32.lt_of_le_of_lt h hab
def MH (z : MS) : Prop := ∀ a, a < 4 → mI z 19 a = -1 ∨ ∃ r, r < 200 ∧ mI z 19 a = nI r
theorem mMsg_t {z : MS} {t : Int32} {j so a k r q ch : Nat} (h : mMsg z j so a k r q ch) : mMsg (tI z 38 0 t) j so a k r q ch := h
theorem MB_t {z : MS} {t : Int32} (h : MB z) : MB (tI z 38 0 t) := h
set_option maxHeartbeats 4000000 in
set_option maxRecDepth 100000 in
theorem m7_give (l : Launch) (D : va_G) (y : Nat → ClassId) (z : MS) (sz : Nat) (i : Int32) (hH : MH z) : Met l yX7_give wsX7_give ({ frames := 1, cells := 0, slots := 0, locals := 40 }) (va_Pc [.ref (mA z 0 0), .int i] (mPre D y z sz)) (mQ1 D y z sz (fun v u => (∃ a, a < 4 ∧ i = nI a ∧ v = .int (mI z 19 a) ∧ ((mI z 19 a = -1 ∧ u = tI z 38 0 0) ∨ (∃ r, r < 200 ∧ mI z 19 a = nI r ∧ u = tI (tI (tI z 38 0 0) 31 r 2) 19 a (-1)))) ∨ (¬ inR i 4 ∧ v = .int 0 ∧ u = tI z 38 0 1))) 0 0 (mF z sz) := by
  refine Met.ofW (cc := cX7_give) (maxL := 3) (ret := (some .int)) (by decide) rfl ?_
  intro p e s m args below meth c s₁ B hml hv
  obtain ⟨rfl, hsz, hW0, hK⟩ := hv
  have hx := B.exec
  have hb := B.bytes
  have hr := B.returns
  have hts := atoms_spec (ws := wsX7_give) B.pre
  have hown : s.vm.findClass RX7 = some m.cls := findClass_of_methodNamed B.named
  have hlocks := B.notSynchronized
  subst hsz
  have hW := hW0.self (sz := s.heap.size)
  have hA : ∀ q, s.heap.size ≤ q → mF z s.heap.size q := fun q h => Or.inr h
  have hS : va_S (mF z s.heap.size) s.heap s.heap [] := va_S.rf
  have hl := lv_entry ([.ref (mA z 0 0), .int i]) (n := 3) (Nat.le_of_ble_eq_true rfl)
  rw [lg_entry_eq]
  generalize (lg_sl ([.ref (mA z 0 0), .int i]) ++ List.replicate (3 - (lg_sl ([.ref (mA z 0 0), .int i])).length) Slot.unset).toArray = ls at hl ⊢
  have hl : lv_has ls 3 [(0, .ref (mA z 0 0)), (1, .int i)] := hl
  have hX7 : ∀ w ∈ wsX70, w ∈ wsX7_give := by decide +kernel
  by_cases hok : inR i 4
  · obtain ⟨a, ha, rfl⟩ := inR_nat (n := 4) hok (by decide)
    refine lv_aload_n hx hb dX7_give_0 rfl (lv_at hl 0 rfl) ?_
    refine lv_iload_n hx hb dX7_give_1 rfl (lv_at hl 1 rfl) ?_
    refine mc1 (va_runS (As := [.int (nI a)]) (rest := [.ref (mA z 0 0)]) ⟨hx, hb, hml, hown, hts⟩ (m7_noAsker l D y z _ (nI a)) (va_cwS 1 hts gX7_give_X7_noAsker rfl rfl rfl (by decide +kernel) ⟨Nat.le_of_ble_eq_true rfl, Nat.le_of_ble_eq_true rfl⟩) (mPreS hW hK [.int (nI a)]) rfl rfl hl.1 rfl (lv_room (Nat.le_of_ble_eq_true rfl)) dX7_give_2 ⟨Nat.le_of_ble_eq_true rfl, Nat.le_of_ble_eq_true rfl⟩) hW hS hA (fun v2 u2 H locs hu2 hW hS => ?_)
    obtain ⟨rfl, f2⟩ := hu2
    replace f2 := f2.symm
    subst f2
    rw [if_pos (show (¬ _ < (0 : Int32) ∧ _ < _) from hok)]
    refine lv_if_eq (tgt := 12) hx hb dX7_give_5 (by decide) (fun _ => ?_) (fun c_ => absurd c_ (by decide))
    refine lv_iconst (v := 0) hx hb dX7_give_12 (by decide) ?_
    refine pM_thrown hx hb hts hX7 hown hK.1 hW hS rfl (hts (.fieldLink RX7 120 "SharedRegistersModel" "thrown" "I") (by decide +kernel)) dX7_give_13 (fun H locs hW hS => ?_)
    refine lv_aload_n hx hb dX7_give_16 rfl (lv_at hl 0 rfl) ?_
    refine gM 38 hx hb hts hX7 hown hK.1 hW (by simp only [tI_mA, tJ_mA]) (by decide) rfl (hts (.fieldLink RX7 120 "SharedRegistersModel" "thrown" "I") (by decide +kernel)) rfl dX7_give_17 ?_
    rw [show mI (tI z 38 0 0) 38 0 = 0 from by simp [tI_mI, tJ_mI, tI_mJ, tJ_mJ, up2]]
    refine lv_if_le (tgt := 25) hx hb dX7_give_20 (by decide) (fun _ => ?_) (fun c_ => absurd c_ (by decide))
    refine lv_aload_n hx hb dX7_give_25 rfl (lv_at hl 0 rfl) ?_
    refine gM 20 hx hb hts hX7 hown hK.1 hW (by simp only [tI_mA, tJ_mA]) (by decide) rfl (hts (.fieldLink RX7 69 "SharedRegistersModel" "now" "[I") (by decide +kernel)) rfl dX7_give_26 ?_
    refine lv_iload_n hx hb dX7_give_29 rfl (lv_at hl 1 rfl) ?_
    refine mil_n 19 hx hb hK.1 hW (by simp only [tI_mA, tJ_mA]) (by decide) rfl (show _ < 4 by omega) (by decide) dX7_give_30 ?_
    rw [show mI (tI z 38 0 0) 19 a = mI z 19 a from by simp [tI_mI, tJ_mI, tI_mJ, tJ_mJ, up2]]
    refine lv_istore_n (lv' := [(2, _), (0, _), (1, _)]) hx hb dX7_give_31 rfl hl (by decide) rfl (fun ls hl => ?_)
    rcases hH a ha with h19 | ⟨r, hr0, h19⟩
    · rw [h19] at hl
      refine lv_iload_n hx hb dX7_give_32 rfl (lv_at hl 0 rfl) ?_
      refine lv_if_lt (tgt := 41) hx hb dX7_give_33 (by decide) (fun _ => ?_) (fun c_ => absurd c_ (by decide))
      refine lv_iload_n hx hb dX7_give_41 rfl (lv_at hl 0 rfl) ?_
      refine W.iret hx hb hr ?_ hS.2.2 dX7_give_42
      refine mq1 ?_ hW hS
      exact Or.inl ⟨a, ha, rfl, by rw [h19], Or.inl ⟨h19, rfl⟩⟩
    · rw [h19] at hl
      refine lv_iload_n hx hb dX7_give_32 rfl (lv_at hl 0 rfl) ?_
      refine lv_if_lt (tgt := 41) hx hb dX7_give_33 (by decide) (fun c_ => absurd c_ (nI_pos (by omega))) (fun _ => ?_)
      refine lv_aload_n hx hb dX7_give_36 rfl (lv_at hl 1 rfl) ?_
      refine lv_iload_n hx hb dX7_give_37 rfl (lv_at hl 2 rfl) ?_
      refine mc0 (va_runV (As := [.int (nI a)]) (rest := []) ⟨hx, hb, hml, hown, hts⟩ (m7_lose0 l D y (tI z 38 0 0) _ a r ha h19 hr0) (cwV 1 hts gX7_give_X7_lose0 rfl rfl rfl (by decide +kernel) ⟨Nat.le_of_ble_eq_true rfl, Nat.le_of_ble_eq_true rfl⟩) (mPreV (k := 0) (q := (RX7, TX7, 39)) hW hK (show 0 < 1 from Nat.zero_lt_one) rfl rfl [.int (nI a)]) rfl rfl hl.1 rfl (lv_room (Nat.le_of_ble_eq_true rfl)) dX7_give_38 ⟨Nat.le_of_ble_eq_true rfl, Nat.le_of_ble_eq_true rfl⟩) hW hS hA (fun u38 H locs hu38 hW hS => ?_)
      subst hu38
      refine lv_iload_n hx hb dX7_give_41 rfl (lv_at hl 0 rfl) ?_
      refine W.iret hx hb hr ?_ hS.2.2 dX7_give_42
      refine mq1 ?_ hW hS
      exact Or.inl ⟨a, ha, rfl, by rw [h19], Or.inr ⟨r, hr0, h19, rfl⟩⟩
  · refine lv_aload_n hx hb dX7_give_0 rfl (lv_at hl 0 rfl) ?_
    refine lv_iload_n hx hb dX7_give_1 rfl (lv_at hl 1 rfl) ?_
    refine mc1 (va_runS (As := [.int i]) (rest := [.ref (mA z 0 0)]) ⟨hx, hb, hml, hown, hts⟩ (m7_noAsker l D y z _ i) (va_cwS 1 hts gX7_give_X7_noAsker rfl rfl rfl (by decide +kernel) ⟨Nat.le_of_ble_eq_true rfl, Nat.le_of_ble_eq_true rfl⟩) (mPreS hW hK [.int i]) rfl rfl hl.1 rfl (lv_room (Nat.le_of_ble_eq_true rfl)) dX7_give_2 ⟨Nat.le_of_ble_eq_true rfl, Nat.le_of_ble_eq_true rfl⟩) hW hS hA (fun v2 u2 H locs hu2 hW hS => ?_)
    obtain ⟨rfl, f2⟩ := hu2
    replace f2 := f2.symm
    subst f2
    rw [if_neg (show ¬ (¬ _ < (0 : Int32) ∧ _ < _) from hok)]
    refine lv_if_eq (tgt := 12) hx hb dX7_give_5 (by decide) (fun c_ => absurd c_ (by decide)) (fun _ => ?_)
    refine lv_iconst (v := 1) hx hb dX7_give_8 (by decide) ?_
    refine lv_goto (tgt := 13) hx hb dX7_give_9 (by decide) ?_
    refine pM_thrown hx hb hts hX7 hown hK.1 hW hS rfl (hts (.fieldLink RX7 120 "SharedRegistersModel" "thrown" "I") (by decide +kernel)) dX7_give_13 (fun H locs hW hS => ?_)
    refine lv_aload_n hx hb dX7_give_16 rfl (lv_at hl 0 rfl) ?_
    refine gM 38 hx hb hts hX7 hown hK.1 hW (by simp only [tI_mA, tJ_mA]) (by decide) rfl (hts (.fieldLink RX7 120 "SharedRegistersModel" "thrown" "I") (by decide +kernel)) rfl dX7_give_17 ?_
    rw [show mI (tI z 38 0 1) 38 0 = 1 from by simp [tI_mI, tJ_mI, tI_mJ, tJ_mJ, up2]]
    refine lv_if_le (tgt := 25) hx hb dX7_give_20 (by decide) (fun c_ => absurd c_ (by decide)) (fun _ => ?_)
    refine lv_iconst (v := 0) hx hb dX7_give_23 (by decide) ?_
    refine W.iret hx hb hr ?_ hS.2.2 dX7_give_24
    refine mq1 ?_ hW hS
    exact Or.inr ⟨hok, rfl, rfl⟩
set_option maxHeartbeats 4000000 in
set_option maxRecDepth 100000 in
theorem m7_take (l : Launch) (D : va_G) (y : Nat → ClassId) (z : MS) (sz : Nat) (i : Int32) (n : Nat) (hn : mI z 36 0 = nI n) (hn0 : n ≤ 300) (hB : MB z) (hms : ∀ j, j < n → ∃ so a k r q ch, mMsg z j so a k r q ch) : Met l yX7_take wsX7_take ({ frames := 4, cells := 0, slots := 0, locals := 120 }) (va_Pc [.ref (mA z 0 0), .int i] (mPre D y z sz)) (mQ1 D y z sz (fun v u => (∃ j, j < n ∧ i = nI j ∧ v = .int (mI z 0 j) ∧ u = mTake (tI z 38 0 0) j n) ∨ (¬ inR i (nI n) ∧ v = .int 0 ∧ u = tI z 38 0 1))) 0 0 (mF z sz) := by
  refine Met.ofW (cc := cX7_take) (maxL := 2) (ret := (some .int)) (by decide) rfl ?_
  intro p e s m args below meth c s₁ B hml hv
  obtain ⟨rfl, hsz, hW0, hK⟩ := hv
  have hx := B.exec
  have hb := B.bytes
  have hr := B.returns
  have hts := atoms_spec (ws := wsX7_take) B.pre
  have hown : s.vm.findClass RX7 = some m.cls := findClass_of_methodNamed B.named
  have hlocks := B.notSynchronized
  subst hsz
  have hW := hW0.self (sz := s.heap.size)
  have hA : ∀ q, s.heap.size ≤ q → mF z s.heap.size q := fun q h => Or.inr h
  have hS : va_S (mF z s.heap.size) s.heap s.heap [] := va_S.rf
  have hl := lv_entry ([.ref (mA z 0 0), .int i]) (n := 2) (Nat.le_of_ble_eq_true rfl)
  rw [lg_entry_eq]
  generalize (lg_sl ([.ref (mA z 0 0), .int i]) ++ List.replicate (2 - (lg_sl ([.ref (mA z 0 0), .int i])).length) Slot.unset).toArray = ls at hl ⊢
  have hl : lv_has ls 2 [(0, .ref (mA z 0 0)), (1, .int i)] := hl
  have hX7 : ∀ w ∈ wsX70, w ∈ wsX7_take := by decide +kernel
  by_cases hok : inR i (nI n)
  · obtain ⟨j, hj, rfl⟩ := inR_nat (n := n) hok (by omega)
    obtain ⟨so, a, k, r, q, ch, hm⟩ := hms j hj
    refine lv_aload_n hx hb dX7_take_0 rfl (lv_at hl 0 rfl) ?_
    refine lv_aload_n hx hb dX7_take_1 rfl (lv_at hl 0 rfl) ?_
    refine lv_iload_n hx hb dX7_take_2 rfl (lv_at hl 1 rfl) ?_
    refine mc1 (va_runV (As := [.int (nI j)]) (rest := [.ref (mA z 0 0)]) ⟨hx, hb, hml, hown, hts⟩ (m7_noMessage l D y z _ (nI j)) (cwV 1 hts gX7_take_X7_noMessage rfl rfl rfl (by decide +kernel) ⟨Nat.le_of_ble_eq_true rfl, Nat.le_of_ble_eq_true rfl⟩) (mPreV (k := 0) (q := (RX7, TX7, 39)) hW hK (show 0 < 1 from Nat.zero_lt_one) rfl rfl [.int (nI j)]) rfl rfl hl.1 rfl (lv_room (Nat.le_of_ble_eq_true rfl)) dX7_take_3 ⟨Nat.le_of_ble_eq_true rfl, Nat.le_of_ble_eq_true rfl⟩) hW hS hA (fun v3 u3 H locs hu3 hW hS => ?_)
    obtain ⟨rfl, f3⟩ := hu3
    replace f3 := f3.symm
    subst f3
    rw [hn]
    rw [if_pos (show (¬ _ < (0 : Int32) ∧ _ < _) from hok)]
    refine lv_if_eq (tgt := 13) hx hb dX7_take_6 (by decide) (fun _ => ?_) (fun c_ => absurd c_ (by decide))
    refine lv_iconst (v := 0) hx hb dX7_take_13 (by decide) ?_
    refine pM_thrown hx hb hts hX7 hown hK.1 hW hS rfl (hts (.fieldLink RX7 120 "SharedRegistersModel" "thrown" "I") (by decide +kernel)) dX7_take_14 (fun H locs hW hS => ?_)
    refine lv_aload_n hx hb dX7_take_17 rfl (lv_at hl 0 rfl) ?_
    refine gM 38 hx hb hts hX7 hown hK.1 hW (by simp only [tI_mA, tJ_mA]) (by decide) rfl (hts (.fieldLink RX7 120 "SharedRegistersModel" "thrown" "I") (by decide +kernel)) rfl dX7_take_18 ?_
    rw [show mI (tI z 38 0 0) 38 0 = 0 from by simp [tI_mI, tJ_mI, tI_mJ, tJ_mJ, up2]]
    refine lv_if_le (tgt := 28) hx hb dX7_take_21 (by decide) (fun _ => ?_) (fun c_ => absurd c_ (by decide))
    refine lv_aload_n hx hb dX7_take_28 rfl (lv_at hl 0 rfl) ?_
    refine lv_iload_n hx hb dX7_take_29 rfl (lv_at hl 1 rfl) ?_
    refine mc1 (va_runV (As := [.int (nI j)]) (rest := []) ⟨hx, hb, hml, hown, hts⟩ (m7_takeOne l D y (tI z 38 0 0) _ j n so a k r q ch hn hj hn0 (MB_t hB) (mMsg_t hm)) (cwV 1 hts gX7_take_X7_takeOne rfl rfl rfl (by decide +kernel) ⟨Nat.le_of_ble_eq_true rfl, Nat.le_of_ble_eq_true rfl⟩) (mPreV (k := 0) (q := (RX7, TX7, 39)) hW hK (show 0 < 1 from Nat.zero_lt_one) rfl rfl [.int (nI j)]) rfl rfl hl.1 rfl (lv_room (Nat.le_of_ble_eq_true rfl)) dX7_take_30 ⟨Nat.le_of_ble_eq_true rfl, Nat.le_of_ble_eq_true rfl⟩) hW hS hA (fun v30 u30 H locs hu30 hW hS => ?_)
    obtain ⟨rfl, hu30⟩ := hu30
    refine W.iret hx hb hr ?_ hS.2.2 dX7_take_33
    refine mq1 ?_ hW hS
    exact Or.inl ⟨j, hj, rfl, by rw [hm.1], by rw [hu30, mTake_eq (mMsg_t hm)]⟩
  · refine lv_aload_n hx hb dX7_take_0 rfl (lv_at hl 0 rfl) ?_
    refine lv_aload_n hx hb dX7_take_1 rfl (lv_at hl 0 rfl) ?_
    refine lv_iload_n hx hb dX7_take_2 rfl (lv_at hl 1 rfl) ?_
    refine mc1 (va_runV (As := [.int i]) (rest := [.ref (mA z 0 0)]) ⟨hx, hb, hml, hown, hts⟩ (m7_noMessage l D y z _ i) (cwV 1 hts gX7_take_X7_noMessage rfl rfl rfl (by decide +kernel) ⟨Nat.le_of_ble_eq_true rfl, Nat.le_of_ble_eq_true rfl⟩) (mPreV (k := 0) (q := (RX7, TX7, 39)) hW hK (show 0 < 1 from Nat.zero_lt_one) rfl rfl [.int i]) rfl rfl hl.1 rfl (lv_room (Nat.le_of_ble_eq_true rfl)) dX7_take_3 ⟨Nat.le_of_ble_eq_true rfl, Nat.le_of_ble_eq_true rfl⟩) hW hS hA (fun v3 u3 H locs hu3 hW hS => ?_)
    obtain ⟨rfl, f3⟩ := hu3
    replace f3 := f3.symm
    subst f3
    rw [hn]
    rw [if_neg (show ¬ (¬ _ < (0 : Int32) ∧ _ < _) from hok)]
    refine lv_if_eq (tgt := 13) hx hb dX7_take_6 (by decide) (fun c_ => absurd c_ (by decide)) (fun _ => ?_)
    refine lv_iconst (v := 1) hx hb dX7_take_9 (by decide) ?_
    refine lv_goto (tgt := 14) hx hb dX7_take_10 (by decide) ?_
    refine pM_thrown hx hb hts hX7 hown hK.1 hW hS rfl (hts (.fieldLink RX7 120 "SharedRegistersModel" "thrown" "I") (by decide +kernel)) dX7_take_14 (fun H locs hW hS => ?_)
    refine lv_aload_n hx hb dX7_take_17 rfl (lv_at hl 0 rfl) ?_
    refine gM 38 hx hb hts hX7 hown hK.1 hW (by simp only [tI_mA, tJ_mA]) (by decide) rfl (hts (.fieldLink RX7 120 "SharedRegistersModel" "thrown" "I") (by decide +kernel)) rfl dX7_take_18 ?_
    rw [show mI (tI z 38 0 1) 38 0 = 1 from by simp [tI_mI, tJ_mI, tI_mJ, tJ_mJ, up2]]
    refine lv_if_le (tgt := 28) hx hb dX7_take_21 (by decide) (fun c_ => absurd c_ (by decide)) (fun _ => ?_)
    refine lv_iconst (v := 0) hx hb dX7_take_24 (by decide) ?_
    refine lv_goto (tgt := 33) hx hb dX7_take_25 (by decide) ?_
    refine W.iret hx hb hr ?_ hS.2.2 dX7_take_33
    refine mq1 ?_ hW hS
    exact Or.inr ⟨hok, rfl, rfl⟩
set_option maxHeartbeats 4000000 in
set_option maxRecDepth 100000 in
theorem m7_lose (l : Launch) (D : va_G) (y : Nat → ClassId) (z : MS) (sz : Nat) (i : Int32) (n : Nat) (hn : mI z 36 0 = nI n) (hn0 : n ≤ 300) (hB : MB z) : Met l yX7_lose wsX7_lose ({ frames := 1, cells := 0, slots := 0, locals := 40 }) (va_Pc [.ref (mA z 0 0), .int i] (mPre D y z sz)) (mQ1 D y z sz (fun v u => (∃ j, j < n ∧ i = nI j ∧ v = .int (mI z 0 j) ∧ u = mDrop (tI z 38 0 0) j n) ∨ (¬ inR i (nI n) ∧ v = .int 0 ∧ u = tI z 38 0 1))) 0 0 (mF z sz) := by
  refine Met.ofW (cc := cX7_lose) (maxL := 3) (ret := (some .int)) (by decide) rfl ?_
  intro p e s m args below meth c s₁ B hml hv
  obtain ⟨rfl, hsz, hW0, hK⟩ := hv
  have hx := B.exec
  have hb := B.bytes
  have hr := B.returns
  have hts := atoms_spec (ws := wsX7_lose) B.pre
  have hown : s.vm.findClass RX7 = some m.cls := findClass_of_methodNamed B.named
  have hlocks := B.notSynchronized
  subst hsz
  have hW := hW0.self (sz := s.heap.size)
  have hA : ∀ q, s.heap.size ≤ q → mF z s.heap.size q := fun q h => Or.inr h
  have hS : va_S (mF z s.heap.size) s.heap s.heap [] := va_S.rf
  have hl := lv_entry ([.ref (mA z 0 0), .int i]) (n := 3) (Nat.le_of_ble_eq_true rfl)
  rw [lg_entry_eq]
  generalize (lg_sl ([.ref (mA z 0 0), .int i]) ++ List.replicate (3 - (lg_sl ([.ref (mA z 0 0), .int i])).length) Slot.unset).toArray = ls at hl ⊢
  have hl : lv_has ls 3 [(0, .ref (mA z 0 0)), (1, .int i)] := hl
  have hX7 : ∀ w ∈ wsX70, w ∈ wsX7_lose := by decide +kernel
  by_cases hok : inR i (nI n)
  · obtain ⟨j, hj, rfl⟩ := inR_nat (n := n) hok (by omega)
    refine lv_aload_n hx hb dX7_lose_0 rfl (lv_at hl 0 rfl) ?_
    refine lv_aload_n hx hb dX7_lose_1 rfl (lv_at hl 0 rfl) ?_
    refine lv_iload_n hx hb dX7_lose_2 rfl (lv_at hl 1 rfl) ?_
    refine mc1 (va_runV (As := [.int (nI j)]) (rest := [.ref (mA z 0 0)]) ⟨hx, hb, hml, hown, hts⟩ (m7_noMessage l D y z _ (nI j)) (cwV 1 hts gX7_lose_X7_noMessage rfl rfl rfl (by decide +kernel) ⟨Nat.le_of_ble_eq_true rfl, Nat.le_of_ble_eq_true rfl⟩) (mPreV (k := 0) (q := (RX7, TX7, 39)) hW hK (show 0 < 1 from Nat.zero_lt_one) rfl rfl [.int (nI j)]) rfl rfl hl.1 rfl (lv_room (Nat.le_of_ble_eq_true rfl)) dX7_lose_3 ⟨Nat.le_of_ble_eq_true rfl, Nat.le_of_ble_eq_true rfl⟩) hW hS hA (fun v3 u3 H locs hu3 hW hS => ?_)
    obtain ⟨rfl, f3⟩ := hu3
    replace f3 := f3.symm
    subst f3
    rw [hn]
    rw [if_pos (show (¬ _ < (0 : Int32) ∧ _ < _) from hok)]
    refine lv_if_eq (tgt := 13) hx hb dX7_lose_6 (by decide) (fun _ => ?_) (fun c_ => absurd c_ (by decide))
    refine lv_iconst (v := 0) hx hb dX7_lose_13 (by decide) ?_
    refine pM_thrown hx hb hts hX7 hown hK.1 hW hS rfl (hts (.fieldLink RX7 120 "SharedRegistersModel" "thrown" "I") (by decide +kernel)) dX7_lose_14 (fun H locs hW hS => ?_)
    refine lv_aload_n hx hb dX7_lose_17 rfl (lv_at hl 0 rfl) ?_
    refine gM 38 hx hb hts hX7 hown hK.1 hW (by simp only [tI_mA, tJ_mA]) (by decide) rfl (hts (.fieldLink RX7 120 "SharedRegistersModel" "thrown" "I") (by decide +kernel)) rfl dX7_lose_18 ?_
    rw [show mI (tI z 38 0 0) 38 0 = 0 from by simp [tI_mI, tJ_mI, tI_mJ, tJ_mJ, up2]]
    refine lv_if_le (tgt := 26) hx hb dX7_lose_21 (by decide) (fun _ => ?_) (fun c_ => absurd c_ (by decide))
    refine lv_aload_n hx hb dX7_lose_26 rfl (lv_at hl 0 rfl) ?_
    refine gM 1 hx hb hts hX7 hown hK.1 hW (by simp only [tI_mA, tJ_mA]) (by decide) rfl (hts (.fieldLink RX7 7 "SharedRegistersModel" "sort" "[I") (by decide +kernel)) rfl dX7_lose_27 ?_
    refine lv_iload_n hx hb dX7_lose_30 rfl (lv_at hl 1 rfl) ?_
    refine mil_n 0 hx hb hK.1 hW (by simp only [tI_mA, tJ_mA]) (by decide) rfl (show _ < 301 by omega) (by decide) dX7_lose_31 ?_
    rw [show mI (tI z 38 0 0) 0 j = mI z 0 j from by simp [tI_mI, tJ_mI, tI_mJ, tJ_mJ, up2]]
    refine lv_istore_n (lv' := [(2, _), (0, _), (1, _)]) hx hb dX7_lose_32 rfl hl (by decide) rfl (fun ls hl => ?_)
    refine lv_aload_n hx hb dX7_lose_33 rfl (lv_at hl 1 rfl) ?_
    refine lv_iload_n hx hb dX7_lose_34 rfl (lv_at hl 2 rfl) ?_
    refine mc0 (va_runV (As := [.int (nI j)]) (rest := []) ⟨hx, hb, hml, hown, hts⟩ (m7_drop l D y (tI z 38 0 0) _ j n hn hj hn0 hB.1) (cwV 1 hts gX7_lose_X7_drop rfl rfl rfl (by decide +kernel) ⟨Nat.le_of_ble_eq_true rfl, Nat.le_of_ble_eq_true rfl⟩) (mPreV (k := 0) (q := (RX7, TX7, 39)) hW hK (show 0 < 1 from Nat.zero_lt_one) rfl rfl [.int (nI j)]) rfl rfl hl.1 rfl (lv_room (Nat.le_of_ble_eq_true rfl)) dX7_lose_35 ⟨Nat.le_of_ble_eq_true rfl, Nat.le_of_ble_eq_true rfl⟩) hW hS hA (fun u35 H locs hu35 hW hS => ?_)
    subst hu35
    refine lv_iload_n hx hb dX7_lose_38 rfl (lv_at hl 0 rfl) ?_
    refine W.iret hx hb hr ?_ hS.2.2 dX7_lose_39
    refine mq1 ?_ hW hS
    exact Or.inl ⟨j, hj, rfl, rfl, rfl⟩
  · refine lv_aload_n hx hb dX7_lose_0 rfl (lv_at hl 0 rfl) ?_
    refine lv_aload_n hx hb dX7_lose_1 rfl (lv_at hl 0 rfl) ?_
    refine lv_iload_n hx hb dX7_lose_2 rfl (lv_at hl 1 rfl) ?_
    refine mc1 (va_runV (As := [.int i]) (rest := [.ref (mA z 0 0)]) ⟨hx, hb, hml, hown, hts⟩ (m7_noMessage l D y z _ i) (cwV 1 hts gX7_lose_X7_noMessage rfl rfl rfl (by decide +kernel) ⟨Nat.le_of_ble_eq_true rfl, Nat.le_of_ble_eq_true rfl⟩) (mPreV (k := 0) (q := (RX7, TX7, 39)) hW hK (show 0 < 1 from Nat.zero_lt_one) rfl rfl [.int i]) rfl rfl hl.1 rfl (lv_room (Nat.le_of_ble_eq_true rfl)) dX7_lose_3 ⟨Nat.le_of_ble_eq_true rfl, Nat.le_of_ble_eq_true rfl⟩) hW hS hA (fun v3 u3 H locs hu3 hW hS => ?_)
    obtain ⟨rfl, f3⟩ := hu3
    replace f3 := f3.symm
    subst f3
    rw [hn]
    rw [if_neg (show ¬ (¬ _ < (0 : Int32) ∧ _ < _) from hok)]
    refine lv_if_eq (tgt := 13) hx hb dX7_lose_6 (by decide) (fun c_ => absurd c_ (by decide)) (fun _ => ?_)
    refine lv_iconst (v := 1) hx hb dX7_lose_9 (by decide) ?_
    refine lv_goto (tgt := 14) hx hb dX7_lose_10 (by decide) ?_
    refine pM_thrown hx hb hts hX7 hown hK.1 hW hS rfl (hts (.fieldLink RX7 120 "SharedRegistersModel" "thrown" "I") (by decide +kernel)) dX7_lose_14 (fun H locs hW hS => ?_)
    refine lv_aload_n hx hb dX7_lose_17 rfl (lv_at hl 0 rfl) ?_
    refine gM 38 hx hb hts hX7 hown hK.1 hW (by simp only [tI_mA, tJ_mA]) (by decide) rfl (hts (.fieldLink RX7 120 "SharedRegistersModel" "thrown" "I") (by decide +kernel)) rfl dX7_lose_18 ?_
    rw [show mI (tI z 38 0 1) 38 0 = 1 from by simp [tI_mI, tJ_mI, tI_mJ, tJ_mJ, up2]]
    refine lv_if_le (tgt := 26) hx hb dX7_lose_21 (by decide) (fun c_ => absurd c_ (by decide)) (fun _ => ?_)
    refine lv_iconst (v := 0) hx hb dX7_lose_24 (by decide) ?_
    refine W.iret hx hb hr ?_ hS.2.2 dX7_lose_25
    refine mq1 ?_ hW hS
    exact Or.inr ⟨hok, rfl, rfl⟩
def mTwice (z : MS) (j n : Nat) : MS := mSend (tI z 38 0 0) n (mI z 0 j) (mI z 1 j) (mI z 2 j) (mI z 3 j) (mI z 4 j) (mI z 5 j) (mI z 6 j) (mJ z 7 j)
set_option maxHeartbeats 4000000 in
set_option maxRecDepth 100000 in
theorem m7_twice (l : Launch) (D : va_G) (y : Nat → ClassId) (z : MS) (sz : Nat) (i : Int32) (n : Nat) (hn : mI z 36 0 = nI n) (hn0 : n ≤ 300) (hB : MB z) : Met l yX7_twice wsX7_twice ({ frames := 1, cells := 0, slots := 0, locals := 40 }) (va_Pc [.ref (mA z 0 0), .int i] (mPre D y z sz)) (mQ1 D y z sz (fun v u => (∃ j, j < n ∧ i = nI j ∧ ((¬ n < 300 ∧ v = .int (-1) ∧ u = tI z 38 0 0) ∨ (n < 300 ∧ v = .int (mI u 36 0) ∧ u = mTwice z j n))) ∨ (¬ inR i (nI n) ∧ v = .int 0 ∧ u = tI z 38 0 1))) 0 0 (mF z sz) := by
  refine Met.ofW (cc := cX7_twice) (maxL := 2) (ret := (some .int)) (by decide) rfl ?_
  intro p e s m args below meth c s₁ B hml hv
  obtain ⟨rfl, hsz, hW0, hK⟩ := hv
  have hx := B.exec
  have hb := B.bytes
  have hr := B.returns
  have hts := atoms_spec (ws := wsX7_twice) B.pre
  have hown : s.vm.findClass RX7 = some m.cls := findClass_of_methodNamed B.named
  have hlocks := B.notSynchronized
  subst hsz
  have hW := hW0.self (sz := s.heap.size)
  have hA : ∀ q, s.heap.size ≤ q → mF z s.heap.size q := fun q h => Or.inr h
  have hS : va_S (mF z s.heap.size) s.heap s.heap [] := va_S.rf
  have hl := lv_entry ([.ref (mA z 0 0), .int i]) (n := 2) (Nat.le_of_ble_eq_true rfl)
  rw [lg_entry_eq]
  generalize (lg_sl ([.ref (mA z 0 0), .int i]) ++ List.replicate (2 - (lg_sl ([.ref (mA z 0 0), .int i])).length) Slot.unset).toArray = ls at hl ⊢
  have hl : lv_has ls 2 [(0, .ref (mA z 0 0)), (1, .int i)] := hl
  have hX7 : ∀ w ∈ wsX70, w ∈ wsX7_twice := by decide +kernel
  by_cases hok : inR i (nI n)
  · obtain ⟨j, hj, rfl⟩ := inR_nat (n := n) hok (by omega)
    refine lv_aload_n hx hb dX7_twice_0 rfl (lv_at hl 0 rfl) ?_
    refine lv_aload_n hx hb dX7_twice_1 rfl (lv_at hl 0 rfl) ?_
    refine lv_iload_n hx hb dX7_twice_2 rfl (lv_at hl 1 rfl) ?_
    refine mc1 (va_runV (As := [.int (nI j)]) (rest := [.ref (mA z 0 0)]) ⟨hx, hb, hml, hown, hts⟩ (m7_noMessage l D y z _ (nI j)) (cwV 1 hts gX7_twice_X7_noMessage rfl rfl rfl (by decide +kernel) ⟨Nat.le_of_ble_eq_true rfl, Nat.le_of_ble_eq_true rfl⟩) (mPreV (k := 0) (q := (RX7, TX7, 39)) hW hK (show 0 < 1 from Nat.zero_lt_one) rfl rfl [.int (nI j)]) rfl rfl hl.1 rfl (lv_room (Nat.le_of_ble_eq_true rfl)) dX7_twice_3 ⟨Nat.le_of_ble_eq_true rfl, Nat.le_of_ble_eq_true rfl⟩) hW hS hA (fun v3 u3 H locs hu3 hW hS => ?_)
    obtain ⟨rfl, f3⟩ := hu3
    replace f3 := f3.symm
    subst f3
    rw [hn]
    rw [if_pos (show (¬ _ < (0 : Int32) ∧ _ < _) from hok)]
    refine lv_if_eq (tgt := 13) hx hb dX7_twice_6 (by decide) (fun _ => ?_) (fun c_ => absurd c_ (by decide))
    refine lv_iconst (v := 0) hx hb dX7_twice_13 (by decide) ?_
    refine pM_thrown hx hb hts hX7 hown hK.1 hW hS rfl (hts (.fieldLink RX7 120 "SharedRegistersModel" "thrown" "I") (by decide +kernel)) dX7_twice_14 (fun H locs hW hS => ?_)
    refine lv_aload_n hx hb dX7_twice_17 rfl (lv_at hl 0 rfl) ?_
    refine gM 38 hx hb hts hX7 hown hK.1 hW (by simp only [tI_mA, tJ_mA]) (by decide) rfl (hts (.fieldLink RX7 120 "SharedRegistersModel" "thrown" "I") (by decide +kernel)) rfl dX7_twice_18 ?_
    rw [show mI (tI z 38 0 0) 38 0 = 0 from by simp [tI_mI, tJ_mI, tI_mJ, tJ_mJ, up2]]
    refine lv_if_le (tgt := 26) hx hb dX7_twice_21 (by decide) (fun _ => ?_) (fun c_ => absurd c_ (by decide))
    refine lv_aload_n hx hb dX7_twice_26 rfl (lv_at hl 0 rfl) ?_
    refine gM 0 hx hb hts hX7 hown hK.1 hW (by simp only [tI_mA, tJ_mA]) (by decide) rfl (hts (.fieldLink RX7 124 "SharedRegistersModel" "many" "I") (by decide +kernel)) rfl dX7_twice_27 ?_
    rw [show mI (tI z 38 0 0) 36 0 = mI z 36 0 from by simp [tI_mI, tJ_mI, tI_mJ, tJ_mJ, up2]]
    rw [show mI z 36 0 = nI n from hn]
    refine lv_sipush (v := 300) hx hb dX7_twice_30 (by decide) ?_
    refine lv_icmp_ne (tgt := 38) hx hb dX7_twice_33 (by decide) (fun c_33 => ?_) (fun c_33 => ?_)
    · have hlt : n < 300 := by rcases Nat.lt_or_ge n 300 with q | q; exact q; exact absurd (show nI n = 300 from by rw [show n = 300 by omega]; rfl) c_33
      refine lv_aload_n hx hb dX7_twice_38 rfl (lv_at hl 0 rfl) ?_
      refine lv_aload_n hx hb dX7_twice_39 rfl (lv_at hl 0 rfl) ?_
      refine gM 1 hx hb hts hX7 hown hK.1 hW (by simp only [tI_mA, tJ_mA]) (by decide) rfl (hts (.fieldLink RX7 7 "SharedRegistersModel" "sort" "[I") (by decide +kernel)) rfl dX7_twice_40 ?_
      refine lv_iload_n hx hb dX7_twice_43 rfl (lv_at hl 1 rfl) ?_
      refine mil_n 0 hx hb hK.1 hW (by simp only [tI_mA, tJ_mA]) (by decide) rfl (show _ < 301 by omega) (by decide) dX7_twice_44 ?_
      rw [show mI (tI z 38 0 0) 0 j = mI z 0 j from by simp [tI_mI, tJ_mI, tI_mJ, tJ_mJ, up2]]
      refine lv_aload_n hx hb dX7_twice_45 rfl (lv_at hl 0 rfl) ?_
      refine gM 2 hx hb hts hX7 hown hK.1 hW (by simp only [tI_mA, tJ_mA]) (by decide) rfl (hts (.fieldLink RX7 13 "SharedRegistersModel" "who" "[I") (by decide +kernel)) rfl dX7_twice_46 ?_
      refine lv_iload_n hx hb dX7_twice_49 rfl (lv_at hl 1 rfl) ?_
      refine mil_n 1 hx hb hK.1 hW (by simp only [tI_mA, tJ_mA]) (by decide) rfl (show _ < 301 by omega) (by decide) dX7_twice_50 ?_
      rw [show mI (tI z 38 0 0) 1 j = mI z 1 j from by simp [tI_mI, tJ_mI, tI_mJ, tJ_mJ, up2]]
      refine lv_aload_n hx hb dX7_twice_51 rfl (lv_at hl 0 rfl) ?_
      refine gM 3 hx hb hts hX7 hown hK.1 hW (by simp only [tI_mA, tJ_mA]) (by decide) rfl (hts (.fieldLink RX7 16 "SharedRegistersModel" "whom" "[I") (by decide +kernel)) rfl dX7_twice_52 ?_
      refine lv_iload_n hx hb dX7_twice_55 rfl (lv_at hl 1 rfl) ?_
      refine mil_n 2 hx hb hK.1 hW (by simp only [tI_mA, tJ_mA]) (by decide) rfl (show _ < 301 by omega) (by decide) dX7_twice_56 ?_
      rw [show mI (tI z 38 0 0) 2 j = mI z 2 j from by simp [tI_mI, tJ_mI, tI_mJ, tJ_mJ, up2]]
      refine lv_aload_n hx hb dX7_twice_57 rfl (lv_at hl 0 rfl) ?_
      refine gM 4 hx hb hts hX7 hown hK.1 hW (by simp only [tI_mA, tJ_mA]) (by decide) rfl (hts (.fieldLink RX7 19 "SharedRegistersModel" "about" "[I") (by decide +kernel)) rfl dX7_twice_58 ?_
      refine lv_iload_n hx hb dX7_twice_61 rfl (lv_at hl 1 rfl) ?_
      refine mil_n 3 hx hb hK.1 hW (by simp only [tI_mA, tJ_mA]) (by decide) rfl (show _ < 301 by omega) (by decide) dX7_twice_62 ?_
      rw [show mI (tI z 38 0 0) 3 j = mI z 3 j from by simp [tI_mI, tJ_mI, tI_mJ, tJ_mJ, up2]]
      refine lv_aload_n hx hb dX7_twice_63 rfl (lv_at hl 0 rfl) ?_
      refine gM 5 hx hb hts hX7 hown hK.1 hW (by simp only [tI_mA, tJ_mA]) (by decide) rfl (hts (.fieldLink RX7 22 "SharedRegistersModel" "ballot" "[I") (by decide +kernel)) rfl dX7_twice_64 ?_
      refine lv_iload_n hx hb dX7_twice_67 rfl (lv_at hl 1 rfl) ?_
      refine mil_n 4 hx hb hK.1 hW (by simp only [tI_mA, tJ_mA]) (by decide) rfl (show _ < 301 by omega) (by decide) dX7_twice_68 ?_
      rw [show mI (tI z 38 0 0) 4 j = mI z 4 j from by simp [tI_mI, tJ_mI, tI_mJ, tJ_mJ, up2]]
      refine lv_aload_n hx hb dX7_twice_69 rfl (lv_at hl 0 rfl) ?_
      refine gM 6 hx hb hts hX7 hown hK.1 hW (by simp only [tI_mA, tJ_mA]) (by decide) rfl (hts (.fieldLink RX7 25 "SharedRegistersModel" "tells" "[Z") (by decide +kernel)) rfl dX7_twice_70 ?_
      refine lv_iload_n hx hb dX7_twice_73 rfl (lv_at hl 1 rfl) ?_
      refine mzl_n 5 hx hb hK.1 hW (by simp only [tI_mA, tJ_mA]) (by decide) rfl (show _ < 301 by omega) (by decide) dX7_twice_74 ?_
      rw [show mI (tI z 38 0 0) 5 j = mI z 5 j from by simp [tI_mI, tJ_mI, tI_mJ, tJ_mJ, up2]]
      refine lv_aload_n hx hb dX7_twice_75 rfl (lv_at hl 0 rfl) ?_
      refine gM 7 hx hb hts hX7 hown hK.1 hW (by simp only [tI_mA, tJ_mA]) (by decide) rfl (hts (.fieldLink RX7 29 "SharedRegistersModel" "version" "[I") (by decide +kernel)) rfl dX7_twice_76 ?_
      refine lv_iload_n hx hb dX7_twice_79 rfl (lv_at hl 1 rfl) ?_
      refine mil_n 6 hx hb hK.1 hW (by simp only [tI_mA, tJ_mA]) (by decide) rfl (show _ < 301 by omega) (by decide) dX7_twice_80 ?_
      rw [show mI (tI z 38 0 0) 6 j = mI z 6 j from by simp [tI_mI, tJ_mI, tI_mJ, tJ_mJ, up2]]
      refine lv_aload_n hx hb dX7_twice_81 rfl (lv_at hl 0 rfl) ?_
      refine gM 8 hx hb hts hX7 hown hK.1 hW (by simp only [tI_mA, tJ_mA]) (by decide) rfl (hts (.fieldLink RX7 32 "SharedRegistersModel" "value" "[J") (by decide +kernel)) rfl dX7_twice_82 ?_
      refine lv_iload_n hx hb dX7_twice_85 rfl (lv_at hl 1 rfl) ?_
      refine mll_n 7 hx hb hK.1 hW (by simp only [tI_mA, tJ_mA]) (by decide) rfl (show _ < 301 by omega) (by decide) dX7_twice_86 ?_
      rw [show mJ (tI z 38 0 0) 7 j = mJ z 7 j from by simp [tI_mI, tJ_mI, tI_mJ, tJ_mJ, up2]]
      refine mc0 (va_runV (As := [.int (mI z 0 j), .int (mI z 1 j), .int (mI z 2 j), .int (mI z 3 j), .int (mI z 4 j), .int (mI z 5 j), .int (mI z 6 j), .long (mJ z 7 j)]) (rest := []) ⟨hx, hb, hml, hown, hts⟩ (m7_send l D y (tI z 38 0 0) _ n (mI z 0 j) (mI z 1 j) (mI z 2 j) (mI z 3 j) (mI z 4 j) (mI z 5 j) (mI z 6 j) (mJ z 7 j) hn hn0 (hB.1 j)) (cwV 8 hts gX7_twice_X7_send rfl rfl rfl (by decide +kernel) ⟨Nat.le_of_ble_eq_true rfl, Nat.le_of_ble_eq_true rfl⟩) (mPreV (k := 0) (q := (RX7, TX7, 39)) hW hK (show 0 < 1 from Nat.zero_lt_one) rfl rfl [.int (mI z 0 j), .int (mI z 1 j), .int (mI z 2 j), .int (mI z 3 j), .int (mI z 4 j), .int (mI z 5 j), .int (mI z 6 j), .long (mJ z 7 j)]) rfl rfl hl.1 rfl (lv_room (Nat.le_of_ble_eq_true rfl)) dX7_twice_87 ⟨Nat.le_of_ble_eq_true rfl, Nat.le_of_ble_eq_true rfl⟩) hW hS hA (fun u87 H locs hu87 hW hS => ?_)
      replace hu87 : u87 = mTwice z j n := hu87
      have hA87 : mA u87 = mA z := by rw [hu87, mTwice, mSend_mA]; rfl
      rw [← hA87] at hl
      refine lv_aload_n hx hb dX7_twice_90 rfl (lv_at hl 0 rfl) ?_
      refine gM 0 hx hb hts hX7 hown hK.1 hW rfl (by decide) rfl (hts (.fieldLink RX7 124 "SharedRegistersModel" "many" "I") (by decide +kernel)) rfl dX7_twice_91 ?_
      refine W.iret hx hb hr ?_ hS.2.2 dX7_twice_94
      refine mq1 ?_ hW hS
      exact Or.inl ⟨j, hj, rfl, Or.inr ⟨hlt, rfl, hu87⟩⟩
    · have hge : ¬ n < 300 := fun q => absurd ((nI_eq (a := n) (b := 300) (by omega) (by decide)).mp c_33) (by omega)
      refine lv_iconst (v := (-1)) hx hb dX7_twice_36 (by decide) ?_
      refine W.iret hx hb hr ?_ hS.2.2 dX7_twice_37
      refine mq1 ?_ hW hS
      exact Or.inl ⟨j, hj, rfl, Or.inl ⟨hge, rfl, rfl⟩⟩
  · refine lv_aload_n hx hb dX7_twice_0 rfl (lv_at hl 0 rfl) ?_
    refine lv_aload_n hx hb dX7_twice_1 rfl (lv_at hl 0 rfl) ?_
    refine lv_iload_n hx hb dX7_twice_2 rfl (lv_at hl 1 rfl) ?_
    refine mc1 (va_runV (As := [.int i]) (rest := [.ref (mA z 0 0)]) ⟨hx, hb, hml, hown, hts⟩ (m7_noMessage l D y z _ i) (cwV 1 hts gX7_twice_X7_noMessage rfl rfl rfl (by decide +kernel) ⟨Nat.le_of_ble_eq_true rfl, Nat.le_of_ble_eq_true rfl⟩) (mPreV (k := 0) (q := (RX7, TX7, 39)) hW hK (show 0 < 1 from Nat.zero_lt_one) rfl rfl [.int i]) rfl rfl hl.1 rfl (lv_room (Nat.le_of_ble_eq_true rfl)) dX7_twice_3 ⟨Nat.le_of_ble_eq_true rfl, Nat.le_of_ble_eq_true rfl⟩) hW hS hA (fun v3 u3 H locs hu3 hW hS => ?_)
    obtain ⟨rfl, f3⟩ := hu3
    replace f3 := f3.symm
    subst f3
    rw [hn]
    rw [if_neg (show ¬ (¬ _ < (0 : Int32) ∧ _ < _) from hok)]
    refine lv_if_eq (tgt := 13) hx hb dX7_twice_6 (by decide) (fun c_ => absurd c_ (by decide)) (fun _ => ?_)
    refine lv_iconst (v := 1) hx hb dX7_twice_9 (by decide) ?_
    refine lv_goto (tgt := 14) hx hb dX7_twice_10 (by decide) ?_
    refine pM_thrown hx hb hts hX7 hown hK.1 hW hS rfl (hts (.fieldLink RX7 120 "SharedRegistersModel" "thrown" "I") (by decide +kernel)) dX7_twice_14 (fun H locs hW hS => ?_)
    refine lv_aload_n hx hb dX7_twice_17 rfl (lv_at hl 0 rfl) ?_
    refine gM 38 hx hb hts hX7 hown hK.1 hW (by simp only [tI_mA, tJ_mA]) (by decide) rfl (hts (.fieldLink RX7 120 "SharedRegistersModel" "thrown" "I") (by decide +kernel)) rfl dX7_twice_18 ?_
    rw [show mI (tI z 38 0 1) 38 0 = 1 from by simp [tI_mI, tJ_mI, tI_mJ, tJ_mJ, up2]]
    refine lv_if_le (tgt := 26) hx hb dX7_twice_21 (by decide) (fun c_ => absurd c_ (by decide)) (fun _ => ?_)
    refine lv_iconst (v := 0) hx hb dX7_twice_24 (by decide) ?_
    refine W.iret hx hb hr ?_ hS.2.2 dX7_twice_25
    refine mq1 ?_ hW hS
    exact Or.inr ⟨hok, rfl, rfl⟩
set_option maxHeartbeats 4000000 in
set_option maxRecDepth 100000 in
theorem m7_down (l : Launch) (D : va_G) (y : Nat → ClassId) (z : MS) (sz : Nat) (i b : Int32) (hb9 : b = 0 ∨ b = 1) (hB : MB z) : Met l yX7_down wsX7_down ({ frames := 1, cells := 0, slots := 0, locals := 40 }) (va_Pc [.ref (mA z 0 0), .int i, .int b] (mPre D y z sz)) (mQ1 D y z sz (fun v u => (∃ k, k < 9 ∧ i = nI k ∧ v = .int (mI z 8 k) ∧ u = tI (tI z 38 0 0) 8 k b) ∨ (¬ inR i 9 ∧ v = .int 0 ∧ u = tI z 38 0 1))) 0 0 (mF z sz) := by
  refine Met.ofW (cc := cX7_down) (maxL := 4) (ret := (some .boolean)) (by decide) rfl ?_
  intro p e s m args below meth c s₁ B hml hv
  obtain ⟨rfl, hsz, hW0, hK⟩ := hv
  have hx := B.exec
  have hb := B.bytes
  have hr := B.returns
  have hts := atoms_spec (ws := wsX7_down) B.pre
  have hown : s.vm.findClass RX7 = some m.cls := findClass_of_methodNamed B.named
  have hlocks := B.notSynchronized
  subst hsz
  have hW := hW0.self (sz := s.heap.size)
  have hA : ∀ q, s.heap.size ≤ q → mF z s.heap.size q := fun q h => Or.inr h
  have hS : va_S (mF z s.heap.size) s.heap s.heap [] := va_S.rf
  have hl := lv_entry ([.ref (mA z 0 0), .int i, .int b]) (n := 4) (Nat.le_of_ble_eq_true rfl)
  rw [lg_entry_eq]
  generalize (lg_sl ([.ref (mA z 0 0), .int i, .int b]) ++ List.replicate (4 - (lg_sl ([.ref (mA z 0 0), .int i, .int b])).length) Slot.unset).toArray = ls at hl ⊢
  have hl : lv_has ls 4 [(0, .ref (mA z 0 0)), (1, .int i), (2, .int b)] := hl
  have hX7 : ∀ w ∈ wsX70, w ∈ wsX7_down := by decide +kernel
  by_cases hok : inR i 9
  · obtain ⟨k, hk, rfl⟩ := inR_nat (n := 9) hok (by decide)
    refine lv_aload_n hx hb dX7_down_0 rfl (lv_at hl 0 rfl) ?_
    refine lv_iload_n hx hb dX7_down_1 rfl (lv_at hl 1 rfl) ?_
    refine mc1 (va_runS (As := [.int (nI k)]) (rest := [.ref (mA z 0 0)]) ⟨hx, hb, hml, hown, hts⟩ (m7_noKeeper l D y z _ (nI k)) (va_cwS 1 hts gX7_down_X7_noKeeper rfl rfl rfl (by decide +kernel) ⟨Nat.le_of_ble_eq_true rfl, Nat.le_of_ble_eq_true rfl⟩) (mPreS hW hK [.int (nI k)]) rfl rfl hl.1 rfl (lv_room (Nat.le_of_ble_eq_true rfl)) dX7_down_2 ⟨Nat.le_of_ble_eq_true rfl, Nat.le_of_ble_eq_true rfl⟩) hW hS hA (fun v2 u2 H locs hu2 hW hS => ?_)
    obtain ⟨rfl, f2⟩ := hu2
    replace f2 := f2.symm
    subst f2
    rw [if_pos (show (¬ _ < (0 : Int32) ∧ _ < _) from hok)]
    refine lv_if_eq (tgt := 12) hx hb dX7_down_5 (by decide) (fun _ => ?_) (fun c_ => absurd c_ (by decide))
    refine lv_iconst (v := 0) hx hb dX7_down_12 (by decide) ?_
    refine pM_thrown hx hb hts hX7 hown hK.1 hW hS rfl (hts (.fieldLink RX7 120 "SharedRegistersModel" "thrown" "I") (by decide +kernel)) dX7_down_13 (fun H locs hW hS => ?_)
    refine lv_aload_n hx hb dX7_down_16 rfl (lv_at hl 0 rfl) ?_
    refine gM 38 hx hb hts hX7 hown hK.1 hW (by simp only [tI_mA, tJ_mA]) (by decide) rfl (hts (.fieldLink RX7 120 "SharedRegistersModel" "thrown" "I") (by decide +kernel)) rfl dX7_down_17 ?_
    rw [show mI (tI z 38 0 0) 38 0 = 0 from by simp [tI_mI, tJ_mI, tI_mJ, tJ_mJ, up2]]
    refine lv_if_le (tgt := 25) hx hb dX7_down_20 (by decide) (fun _ => ?_) (fun c_ => absurd c_ (by decide))
    refine lv_aload_n hx hb dX7_down_25 rfl (lv_at hl 0 rfl) ?_
    refine gM 9 hx hb hts hX7 hown hK.1 hW (by simp only [tI_mA, tJ_mA]) (by decide) rfl (hts (.fieldLink RX7 36 "SharedRegistersModel" "isDown" "[Z") (by decide +kernel)) rfl dX7_down_26 ?_
    refine lv_iload_n hx hb dX7_down_29 rfl (lv_at hl 1 rfl) ?_
    refine mzl_n 8 hx hb hK.1 hW (by simp only [tI_mA, tJ_mA]) (by decide) rfl (show _ < 9 by omega) (by decide) dX7_down_30 ?_
    rw [show mI (tI z 38 0 0) 8 k = mI z 8 k from by simp [tI_mI, tJ_mI, tI_mJ, tJ_mJ, up2]]
    refine lv_istore_n (lv' := [(3, _), (0, _), (1, _), (2, _)]) hx hb dX7_down_31 rfl hl (by decide) rfl (fun ls hl => ?_)
    refine lv_aload_n hx hb dX7_down_32 rfl (lv_at hl 1 rfl) ?_
    refine gM 9 hx hb hts hX7 hown hK.1 hW (by simp only [tI_mA, tJ_mA]) (by decide) rfl (hts (.fieldLink RX7 36 "SharedRegistersModel" "isDown" "[Z") (by decide +kernel)) rfl dX7_down_33 ?_
    refine lv_iload_n hx hb dX7_down_36 rfl (lv_at hl 2 rfl) ?_
    refine lv_iload_n hx hb dX7_down_37 rfl (lv_at hl 3 rfl) ?_
    refine mzs_n 8 hx hb hK.1 hW hS (by simp only [tI_mA, tJ_mA]) (by decide) rfl (show _ < 9 by omega) (by decide) hb9 dX7_down_38 (fun H locs hW hS => ?_)
    refine lv_iload_n hx hb dX7_down_39 rfl (lv_at hl 0 rfl) ?_
    refine W.zret hx hb hr (by rcases hB.2.2.2.2 k with q | q <;> rw [q] <;> rfl) ?_ hS.2.2 dX7_down_40
    refine mq1 ?_ hW hS
    exact Or.inl ⟨k, hk, rfl, rfl, rfl⟩
  · refine lv_aload_n hx hb dX7_down_0 rfl (lv_at hl 0 rfl) ?_
    refine lv_iload_n hx hb dX7_down_1 rfl (lv_at hl 1 rfl) ?_
    refine mc1 (va_runS (As := [.int i]) (rest := [.ref (mA z 0 0)]) ⟨hx, hb, hml, hown, hts⟩ (m7_noKeeper l D y z _ i) (va_cwS 1 hts gX7_down_X7_noKeeper rfl rfl rfl (by decide +kernel) ⟨Nat.le_of_ble_eq_true rfl, Nat.le_of_ble_eq_true rfl⟩) (mPreS hW hK [.int i]) rfl rfl hl.1 rfl (lv_room (Nat.le_of_ble_eq_true rfl)) dX7_down_2 ⟨Nat.le_of_ble_eq_true rfl, Nat.le_of_ble_eq_true rfl⟩) hW hS hA (fun v2 u2 H locs hu2 hW hS => ?_)
    obtain ⟨rfl, f2⟩ := hu2
    replace f2 := f2.symm
    subst f2
    rw [if_neg (show ¬ (¬ _ < (0 : Int32) ∧ _ < _) from hok)]
    refine lv_if_eq (tgt := 12) hx hb dX7_down_5 (by decide) (fun c_ => absurd c_ (by decide)) (fun _ => ?_)
    refine lv_iconst (v := 1) hx hb dX7_down_8 (by decide) ?_
    refine lv_goto (tgt := 13) hx hb dX7_down_9 (by decide) ?_
    refine pM_thrown hx hb hts hX7 hown hK.1 hW hS rfl (hts (.fieldLink RX7 120 "SharedRegistersModel" "thrown" "I") (by decide +kernel)) dX7_down_13 (fun H locs hW hS => ?_)
    refine lv_aload_n hx hb dX7_down_16 rfl (lv_at hl 0 rfl) ?_
    refine gM 38 hx hb hts hX7 hown hK.1 hW (by simp only [tI_mA, tJ_mA]) (by decide) rfl (hts (.fieldLink RX7 120 "SharedRegistersModel" "thrown" "I") (by decide +kernel)) rfl dX7_down_17 ?_
    rw [show mI (tI z 38 0 1) 38 0 = 1 from by simp [tI_mI, tJ_mI, tI_mJ, tJ_mJ, up2]]
    refine lv_if_le (tgt := 25) hx hb dX7_down_20 (by decide) (fun c_ => absurd c_ (by decide)) (fun _ => ?_)
    refine lv_iconst (v := 0) hx hb dX7_down_23 (by decide) ?_
    refine W.zret hx hb hr rfl ?_ hS.2.2 dX7_down_24
    refine mq1 ?_ hW hS
    exact Or.inr ⟨hok, rfl, rfl⟩
set_option maxHeartbeats 4000000 in
set_option maxRecDepth 100000 in
theorem m7_messages (l : Launch) (D : va_G) (y : Nat → ClassId) (z : MS) (sz : Nat)  : Met l yX7_messages wsX7_messages ({ frames := 0, cells := 0, slots := 0, locals := 0 }) (va_Pc [.ref (mA z 0 0)] (mPre D y z sz)) (mQ1 D y z sz (fun v u => v = .int (mI z 36 0) ∧ u = tI z 38 0 0)) 0 0 (mF z sz) := by
  refine Met.ofW (cc := cX7_messages) (maxL := 1) (ret := (some .int)) (by decide) rfl ?_
  intro p e s m args below meth c s₁ B hml hv
  obtain ⟨rfl, hsz, hW0, hK⟩ := hv
  have hx := B.exec
  have hb := B.bytes
  have hr := B.returns
  have hts := atoms_spec (ws := wsX7_messages) B.pre
  have hown : s.vm.findClass RX7 = some m.cls := findClass_of_methodNamed B.named
  have hlocks := B.notSynchronized
  subst hsz
  have hW := hW0.self (sz := s.heap.size)
  have hA : ∀ q, s.heap.size ≤ q → mF z s.heap.size q := fun q h => Or.inr h
  have hS : va_S (mF z s.heap.size) s.heap s.heap [] := va_S.rf
  have hl := lv_entry ([.ref (mA z 0 0)]) (n := 1) (Nat.le_of_ble_eq_true rfl)
  rw [lg_entry_eq]
  generalize (lg_sl ([.ref (mA z 0 0)]) ++ List.replicate (1 - (lg_sl ([.ref (mA z 0 0)])).length) Slot.unset).toArray = ls at hl ⊢
  have hl : lv_has ls 1 [(0, .ref (mA z 0 0))] := hl
  have hX7 : ∀ w ∈ wsX70, w ∈ wsX7_messages := by decide +kernel
  refine lv_aload_n hx hb dX7_messages_0 rfl (lv_at hl 0 rfl) ?_
  refine lv_iconst (v := 0) hx hb dX7_messages_1 (by decide) ?_
  refine pM_thrown hx hb hts hX7 hown hK.1 hW hS rfl (hts (.fieldLink RX7 120 "SharedRegistersModel" "thrown" "I") (by decide +kernel)) dX7_messages_2 (fun H locs hW hS => ?_)
  refine lv_aload_n hx hb dX7_messages_5 rfl (lv_at hl 0 rfl) ?_
  refine gM 0 hx hb hts hX7 hown hK.1 hW (by simp only [tI_mA, tJ_mA]) (by decide) rfl (hts (.fieldLink RX7 124 "SharedRegistersModel" "many" "I") (by decide +kernel)) rfl dX7_messages_6 ?_
  rw [show mI (tI z 38 0 0) 36 0 = mI z 36 0 from by simp [tI_mI, tJ_mI, tI_mJ, tJ_mJ, up2]]
  refine W.iret hx hb hr ?_ hS.2.2 dX7_messages_9
  refine mq1 ?_ hW hS
  exact ⟨rfl, rfl⟩
def mMsgV (z : MS) (j w : Nat) : Int32 := match w with
  | 0 => mI z 0 j
  | 1 => mI z 1 j
  | 2 => mI z 2 j
  | 3 => mI z 3 j
  | 4 => mI z 4 j
  | _ => if mI z 5 j = 0 then -1 else mI z 6 j
set_option maxHeartbeats 4000000 in
set_option maxRecDepth 100000 in
theorem m7_message (l : Launch) (D : va_G) (y : Nat → ClassId) (z : MS) (sz : Nat) (i wh : Int32) (n : Nat) (hn : mI z 36 0 = nI n) (hn0 : n ≤ 300) : Met l yX7_message wsX7_message ({ frames := 1, cells := 0, slots := 0, locals := 40 }) (va_Pc [.ref (mA z 0 0), .int i, .int wh] (mPre D y z sz)) (mQ1 D y z sz (fun v u => (∃ j w, j < n ∧ w < 6 ∧ i = nI j ∧ wh = nI w ∧ v = .int (mMsgV z j w) ∧ u = tI z 38 0 0) ∨ (¬ (inR i (nI n) ∧ inR wh 6) ∧ v = .int 0 ∧ u = tI z 38 0 1))) 0 0 (mF z sz) := by
  refine Met.ofW (cc := cX7_message) (maxL := 3) (ret := (some .int)) (by decide) rfl ?_
  intro p e s m args below meth c s₁ B hml hv
  obtain ⟨rfl, hsz, hW0, hK⟩ := hv
  have hx := B.exec
  have hb := B.bytes
  have hr := B.returns
  have hts := atoms_spec (ws := wsX7_message) B.pre
  have hown : s.vm.findClass RX7 = some m.cls := findClass_of_methodNamed B.named
  have hlocks := B.notSynchronized
  subst hsz
  have hW := hW0.self (sz := s.heap.size)
  have hA : ∀ q, s.heap.size ≤ q → mF z s.heap.size q := fun q h => Or.inr h
  have hS : va_S (mF z s.heap.size) s.heap s.heap [] := va_S.rf
  have hl := lv_entry ([.ref (mA z 0 0), .int i, .int wh]) (n := 3) (Nat.le_of_ble_eq_true rfl)
  rw [lg_entry_eq]
  generalize (lg_sl ([.ref (mA z 0 0), .int i, .int wh]) ++ List.replicate (3 - (lg_sl ([.ref (mA z 0 0), .int i, .int wh])).length) Slot.unset).toArray = ls at hl ⊢
  have hl : lv_has ls 3 [(0, .ref (mA z 0 0)), (1, .int i), (2, .int wh)] := hl
  have hX7 : ∀ w ∈ wsX70, w ∈ wsX7_message := by decide +kernel
  by_cases hok : inR i (nI n) ∧ inR wh 6
  · obtain ⟨hR, hwh⟩ := hok
    obtain ⟨j, hj, rfl⟩ := inR_nat (n := n) hR (by omega)
    obtain ⟨w9, hw9, rfl⟩ := inR_nat (n := 6) hwh (by decide)
    rcases (show w9 = 0 ∨ w9 = 1 ∨ w9 = 2 ∨ w9 = 3 ∨ w9 = 4 ∨ w9 = 5 by omega) with rfl | rfl | rfl | rfl | rfl | rfl
    · refine lv_aload_n hx hb dX7_message_0 rfl (lv_at hl 0 rfl) ?_
      refine lv_aload_n hx hb dX7_message_1 rfl (lv_at hl 0 rfl) ?_
      refine lv_iload_n hx hb dX7_message_2 rfl (lv_at hl 1 rfl) ?_
      refine mc1 (va_runV (As := [.int (nI j)]) (rest := [.ref (mA z 0 0)]) ⟨hx, hb, hml, hown, hts⟩ (m7_noMessage l D y z _ (nI j)) (cwV 1 hts gX7_message_X7_noMessage rfl rfl rfl (by decide +kernel) ⟨Nat.le_of_ble_eq_true rfl, Nat.le_of_ble_eq_true rfl⟩) (mPreV (k := 0) (q := (RX7, TX7, 39)) hW hK (show 0 < 1 from Nat.zero_lt_one) rfl rfl [.int (nI j)]) rfl rfl hl.1 rfl (lv_room (Nat.le_of_ble_eq_true rfl)) dX7_message_3 ⟨Nat.le_of_ble_eq_true rfl, Nat.le_of_ble_eq_true rfl⟩) hW hS hA (fun v3 u3 H locs hu3 hW hS => ?_)
      obtain ⟨rfl, f3⟩ := hu3
      replace f3 := f3.symm
      subst f3
      rw [hn]
      rw [if_pos (show (¬ _ < (0 : Int32) ∧ _ < _) from hR)]
      refine lv_if_ne (tgt := 18) hx hb dX7_message_6 (by decide) (fun c_ => absurd c_ (by decide)) (fun _ => ?_)
      refine lv_iload_n hx hb dX7_message_9 rfl (lv_at hl 2 rfl) ?_
      refine lv_if_lt (tgt := 18) hx hb dX7_message_10 (by decide) (fun c_ => absurd c_ (by decide)) (fun _ => ?_)
      refine lv_iload_n hx hb dX7_message_13 rfl (lv_at hl 2 rfl) ?_
      refine lv_iconst (v := 5) hx hb dX7_message_14 (by decide) ?_
      refine lv_icmp_le (tgt := 22) hx hb dX7_message_15 (by decide) (fun _ => ?_) (fun c_ => absurd c_ (by decide))
      refine lv_iconst (v := 0) hx hb dX7_message_22 (by decide) ?_
      refine pM_thrown hx hb hts hX7 hown hK.1 hW hS rfl (hts (.fieldLink RX7 120 "SharedRegistersModel" "thrown" "I") (by decide +kernel)) dX7_message_23 (fun H locs hW hS => ?_)
      refine lv_aload_n hx hb dX7_message_26 rfl (lv_at hl 0 rfl) ?_
      refine gM 38 hx hb hts hX7 hown hK.1 hW (by simp only [tI_mA, tJ_mA]) (by decide) rfl (hts (.fieldLink RX7 120 "SharedRegistersModel" "thrown" "I") (by decide +kernel)) rfl dX7_message_27 ?_
      rw [show mI (tI z 38 0 0) 38 0 = 0 from by simp [tI_mI, tJ_mI, tI_mJ, tJ_mJ, up2]]
      refine lv_if_le (tgt := 35) hx hb dX7_message_30 (by decide) (fun _ => ?_) (fun c_ => absurd c_ (by decide))
      refine lv_iload_n hx hb dX7_message_35 rfl (lv_at hl 2 rfl) ?_
      refine lv_tableIn (off := 36) (tgt := 72) hx hb dX7_message_36 (by decide) (by decide) (by decide) (by decide) ?_
      refine lv_aload_n hx hb dX7_message_72 rfl (lv_at hl 0 rfl) ?_
      refine gM 1 hx hb hts hX7 hown hK.1 hW (by simp only [tI_mA, tJ_mA]) (by decide) rfl (hts (.fieldLink RX7 7 "SharedRegistersModel" "sort" "[I") (by decide +kernel)) rfl dX7_message_73 ?_
      refine lv_iload_n hx hb dX7_message_76 rfl (lv_at hl 1 rfl) ?_
      refine mil_n 0 hx hb hK.1 hW (by simp only [tI_mA, tJ_mA]) (by decide) rfl (show _ < 301 by omega) (by decide) dX7_message_77 ?_
      rw [show mI (tI z 38 0 0) 0 j = mI z 0 j from by simp [tI_mI, tJ_mI, tI_mJ, tJ_mJ, up2]]
      refine W.iret hx hb hr ?_ hS.2.2 dX7_message_78
      refine mq1 ?_ hW hS
      exact Or.inl ⟨j, 0, hj, by decide, rfl, rfl, rfl, rfl⟩
    · refine lv_aload_n hx hb dX7_message_0 rfl (lv_at hl 0 rfl) ?_
      refine lv_aload_n hx hb dX7_message_1 rfl (lv_at hl 0 rfl) ?_
      refine lv_iload_n hx hb dX7_message_2 rfl (lv_at hl 1 rfl) ?_
      refine mc1 (va_runV (As := [.int (nI j)]) (rest := [.ref (mA z 0 0)]) ⟨hx, hb, hml, hown, hts⟩ (m7_noMessage l D y z _ (nI j)) (cwV 1 hts gX7_message_X7_noMessage rfl rfl rfl (by decide +kernel) ⟨Nat.le_of_ble_eq_true rfl, Nat.le_of_ble_eq_true rfl⟩) (mPreV (k := 0) (q := (RX7, TX7, 39)) hW hK (show 0 < 1 from Nat.zero_lt_one) rfl rfl [.int (nI j)]) rfl rfl hl.1 rfl (lv_room (Nat.le_of_ble_eq_true rfl)) dX7_message_3 ⟨Nat.le_of_ble_eq_true rfl, Nat.le_of_ble_eq_true rfl⟩) hW hS hA (fun v3 u3 H locs hu3 hW hS => ?_)
      obtain ⟨rfl, f3⟩ := hu3
      replace f3 := f3.symm
      subst f3
      rw [hn]
      rw [if_pos (show (¬ _ < (0 : Int32) ∧ _ < _) from hR)]
      refine lv_if_ne (tgt := 18) hx hb dX7_message_6 (by decide) (fun c_ => absurd c_ (by decide)) (fun _ => ?_)
      refine lv_iload_n hx hb dX7_message_9 rfl (lv_at hl 2 rfl) ?_
      refine lv_if_lt (tgt := 18) hx hb dX7_message_10 (by decide) (fun c_ => absurd c_ (by decide)) (fun _ => ?_)
      refine lv_iload_n hx hb dX7_message_13 rfl (lv_at hl 2 rfl) ?_
      refine lv_iconst (v := 5) hx hb dX7_message_14 (by decide) ?_
      refine lv_icmp_le (tgt := 22) hx hb dX7_message_15 (by decide) (fun _ => ?_) (fun c_ => absurd c_ (by decide))
      refine lv_iconst (v := 0) hx hb dX7_message_22 (by decide) ?_
      refine pM_thrown hx hb hts hX7 hown hK.1 hW hS rfl (hts (.fieldLink RX7 120 "SharedRegistersModel" "thrown" "I") (by decide +kernel)) dX7_message_23 (fun H locs hW hS => ?_)
      refine lv_aload_n hx hb dX7_message_26 rfl (lv_at hl 0 rfl) ?_
      refine gM 38 hx hb hts hX7 hown hK.1 hW (by simp only [tI_mA, tJ_mA]) (by decide) rfl (hts (.fieldLink RX7 120 "SharedRegistersModel" "thrown" "I") (by decide +kernel)) rfl dX7_message_27 ?_
      rw [show mI (tI z 38 0 0) 38 0 = 0 from by simp [tI_mI, tJ_mI, tI_mJ, tJ_mJ, up2]]
      refine lv_if_le (tgt := 35) hx hb dX7_message_30 (by decide) (fun _ => ?_) (fun c_ => absurd c_ (by decide))
      refine lv_iload_n hx hb dX7_message_35 rfl (lv_at hl 2 rfl) ?_
      refine lv_tableIn (off := 43) (tgt := 79) hx hb dX7_message_36 (by decide) (by decide) (by decide) (by decide) ?_
      refine lv_aload_n hx hb dX7_message_79 rfl (lv_at hl 0 rfl) ?_
      refine gM 2 hx hb hts hX7 hown hK.1 hW (by simp only [tI_mA, tJ_mA]) (by decide) rfl (hts (.fieldLink RX7 13 "SharedRegistersModel" "who" "[I") (by decide +kernel)) rfl dX7_message_80 ?_
      refine lv_iload_n hx hb dX7_message_83 rfl (lv_at hl 1 rfl) ?_
      refine mil_n 1 hx hb hK.1 hW (by simp only [tI_mA, tJ_mA]) (by decide) rfl (show _ < 301 by omega) (by decide) dX7_message_84 ?_
      rw [show mI (tI z 38 0 0) 1 j = mI z 1 j from by simp [tI_mI, tJ_mI, tI_mJ, tJ_mJ, up2]]
      refine W.iret hx hb hr ?_ hS.2.2 dX7_message_85
      refine mq1 ?_ hW hS
      exact Or.inl ⟨j, 1, hj, by decide, rfl, rfl, rfl, rfl⟩
    · refine lv_aload_n hx hb dX7_message_0 rfl (lv_at hl 0 rfl) ?_
      refine lv_aload_n hx hb dX7_message_1 rfl (lv_at hl 0 rfl) ?_
      refine lv_iload_n hx hb dX7_message_2 rfl (lv_at hl 1 rfl) ?_
      refine mc1 (va_runV (As := [.int (nI j)]) (rest := [.ref (mA z 0 0)]) ⟨hx, hb, hml, hown, hts⟩ (m7_noMessage l D y z _ (nI j)) (cwV 1 hts gX7_message_X7_noMessage rfl rfl rfl (by decide +kernel) ⟨Nat.le_of_ble_eq_true rfl, Nat.le_of_ble_eq_true rfl⟩) (mPreV (k := 0) (q := (RX7, TX7, 39)) hW hK (show 0 < 1 from Nat.zero_lt_one) rfl rfl [.int (nI j)]) rfl rfl hl.1 rfl (lv_room (Nat.le_of_ble_eq_true rfl)) dX7_message_3 ⟨Nat.le_of_ble_eq_true rfl, Nat.le_of_ble_eq_true rfl⟩) hW hS hA (fun v3 u3 H locs hu3 hW hS => ?_)
      obtain ⟨rfl, f3⟩ := hu3
      replace f3 := f3.symm
      subst f3
      rw [hn]
      rw [if_pos (show (¬ _ < (0 : Int32) ∧ _ < _) from hR)]
      refine lv_if_ne (tgt := 18) hx hb dX7_message_6 (by decide) (fun c_ => absurd c_ (by decide)) (fun _ => ?_)
      refine lv_iload_n hx hb dX7_message_9 rfl (lv_at hl 2 rfl) ?_
      refine lv_if_lt (tgt := 18) hx hb dX7_message_10 (by decide) (fun c_ => absurd c_ (by decide)) (fun _ => ?_)
      refine lv_iload_n hx hb dX7_message_13 rfl (lv_at hl 2 rfl) ?_
      refine lv_iconst (v := 5) hx hb dX7_message_14 (by decide) ?_
      refine lv_icmp_le (tgt := 22) hx hb dX7_message_15 (by decide) (fun _ => ?_) (fun c_ => absurd c_ (by decide))
      refine lv_iconst (v := 0) hx hb dX7_message_22 (by decide) ?_
      refine pM_thrown hx hb hts hX7 hown hK.1 hW hS rfl (hts (.fieldLink RX7 120 "SharedRegistersModel" "thrown" "I") (by decide +kernel)) dX7_message_23 (fun H locs hW hS => ?_)
      refine lv_aload_n hx hb dX7_message_26 rfl (lv_at hl 0 rfl) ?_
      refine gM 38 hx hb hts hX7 hown hK.1 hW (by simp only [tI_mA, tJ_mA]) (by decide) rfl (hts (.fieldLink RX7 120 "SharedRegistersModel" "thrown" "I") (by decide +kernel)) rfl dX7_message_27 ?_
      rw [show mI (tI z 38 0 0) 38 0 = 0 from by simp [tI_mI, tJ_mI, tI_mJ, tJ_mJ, up2]]
      refine lv_if_le (tgt := 35) hx hb dX7_message_30 (by decide) (fun _ => ?_) (fun c_ => absurd c_ (by decide))
      refine lv_iload_n hx hb dX7_message_35 rfl (lv_at hl 2 rfl) ?_
      refine lv_tableIn (off := 50) (tgt := 86) hx hb dX7_message_36 (by decide) (by decide) (by decide) (by decide) ?_
      refine lv_aload_n hx hb dX7_message_86 rfl (lv_at hl 0 rfl) ?_
      refine gM 3 hx hb hts hX7 hown hK.1 hW (by simp only [tI_mA, tJ_mA]) (by decide) rfl (hts (.fieldLink RX7 16 "SharedRegistersModel" "whom" "[I") (by decide +kernel)) rfl dX7_message_87 ?_
      refine lv_iload_n hx hb dX7_message_90 rfl (lv_at hl 1 rfl) ?_
      refine mil_n 2 hx hb hK.1 hW (by simp only [tI_mA, tJ_mA]) (by decide) rfl (show _ < 301 by omega) (by decide) dX7_message_91 ?_
      rw [show mI (tI z 38 0 0) 2 j = mI z 2 j from by simp [tI_mI, tJ_mI, tI_mJ, tJ_mJ, up2]]
      refine W.iret hx hb hr ?_ hS.2.2 dX7_message_92
      refine mq1 ?_ hW hS
      exact Or.inl ⟨j, 2, hj, by decide, rfl, rfl, rfl, rfl⟩
    · refine lv_aload_n hx hb dX7_message_0 rfl (lv_at hl 0 rfl) ?_
      refine lv_aload_n hx hb dX7_message_1 rfl (lv_at hl 0 rfl) ?_
      refine lv_iload_n hx hb dX7_message_2 rfl (lv_at hl 1 rfl) ?_
      refine mc1 (va_runV (As := [.int (nI j)]) (rest := [.ref (mA z 0 0)]) ⟨hx, hb, hml, hown, hts⟩ (m7_noMessage l D y z _ (nI j)) (cwV 1 hts gX7_message_X7_noMessage rfl rfl rfl (by decide +kernel) ⟨Nat.le_of_ble_eq_true rfl, Nat.le_of_ble_eq_true rfl⟩) (mPreV (k := 0) (q := (RX7, TX7, 39)) hW hK (show 0 < 1 from Nat.zero_lt_one) rfl rfl [.int (nI j)]) rfl rfl hl.1 rfl (lv_room (Nat.le_of_ble_eq_true rfl)) dX7_message_3 ⟨Nat.le_of_ble_eq_true rfl, Nat.le_of_ble_eq_true rfl⟩) hW hS hA (fun v3 u3 H locs hu3 hW hS => ?_)
      obtain ⟨rfl, f3⟩ := hu3
      replace f3 := f3.symm
      subst f3
      rw [hn]
      rw [if_pos (show (¬ _ < (0 : Int32) ∧ _ < _) from hR)]
      refine lv_if_ne (tgt := 18) hx hb dX7_message_6 (by decide) (fun c_ => absurd c_ (by decide)) (fun _ => ?_)
      refine lv_iload_n hx hb dX7_message_9 rfl (lv_at hl 2 rfl) ?_
      refine lv_if_lt (tgt := 18) hx hb dX7_message_10 (by decide) (fun c_ => absurd c_ (by decide)) (fun _ => ?_)
      refine lv_iload_n hx hb dX7_message_13 rfl (lv_at hl 2 rfl) ?_
      refine lv_iconst (v := 5) hx hb dX7_message_14 (by decide) ?_
      refine lv_icmp_le (tgt := 22) hx hb dX7_message_15 (by decide) (fun _ => ?_) (fun c_ => absurd c_ (by decide))
      refine lv_iconst (v := 0) hx hb dX7_message_22 (by decide) ?_
      refine pM_thrown hx hb hts hX7 hown hK.1 hW hS rfl (hts (.fieldLink RX7 120 "SharedRegistersModel" "thrown" "I") (by decide +kernel)) dX7_message_23 (fun H locs hW hS => ?_)
      refine lv_aload_n hx hb dX7_message_26 rfl (lv_at hl 0 rfl) ?_
      refine gM 38 hx hb hts hX7 hown hK.1 hW (by simp only [tI_mA, tJ_mA]) (by decide) rfl (hts (.fieldLink RX7 120 "SharedRegistersModel" "thrown" "I") (by decide +kernel)) rfl dX7_message_27 ?_
      rw [show mI (tI z 38 0 0) 38 0 = 0 from by simp [tI_mI, tJ_mI, tI_mJ, tJ_mJ, up2]]
      refine lv_if_le (tgt := 35) hx hb dX7_message_30 (by decide) (fun _ => ?_) (fun c_ => absurd c_ (by decide))
      refine lv_iload_n hx hb dX7_message_35 rfl (lv_at hl 2 rfl) ?_
      refine lv_tableIn (off := 57) (tgt := 93) hx hb dX7_message_36 (by decide) (by decide) (by decide) (by decide) ?_
      refine lv_aload_n hx hb dX7_message_93 rfl (lv_at hl 0 rfl) ?_
      refine gM 4 hx hb hts hX7 hown hK.1 hW (by simp only [tI_mA, tJ_mA]) (by decide) rfl (hts (.fieldLink RX7 19 "SharedRegistersModel" "about" "[I") (by decide +kernel)) rfl dX7_message_94 ?_
      refine lv_iload_n hx hb dX7_message_97 rfl (lv_at hl 1 rfl) ?_
      refine mil_n 3 hx hb hK.1 hW (by simp only [tI_mA, tJ_mA]) (by decide) rfl (show _ < 301 by omega) (by decide) dX7_message_98 ?_
      rw [show mI (tI z 38 0 0) 3 j = mI z 3 j from by simp [tI_mI, tJ_mI, tI_mJ, tJ_mJ, up2]]
      refine W.iret hx hb hr ?_ hS.2.2 dX7_message_99
      refine mq1 ?_ hW hS
      exact Or.inl ⟨j, 3, hj, by decide, rfl, rfl, rfl, rfl⟩
    · refine lv_aload_n hx hb dX7_message_0 rfl (lv_at hl 0 rfl) ?_
      refine lv_aload_n hx hb dX7_message_1 rfl (lv_at hl 0 rfl) ?_
      refine lv_iload_n hx hb dX7_message_2 rfl (lv_at hl 1 rfl) ?_
      refine mc1 (va_runV (As := [.int (nI j)]) (rest := [.ref (mA z 0 0)]) ⟨hx, hb, hml, hown, hts⟩ (m7_noMessage l D y z _ (nI j)) (cwV 1 hts gX7_message_X7_noMessage rfl rfl rfl (by decide +kernel) ⟨Nat.le_of_ble_eq_true rfl, Nat.le_of_ble_eq_true rfl⟩) (mPreV (k := 0) (q := (RX7, TX7, 39)) hW hK (show 0 < 1 from Nat.zero_lt_one) rfl rfl [.int (nI j)]) rfl rfl hl.1 rfl (lv_room (Nat.le_of_ble_eq_true rfl)) dX7_message_3 ⟨Nat.le_of_ble_eq_true rfl, Nat.le_of_ble_eq_true rfl⟩) hW hS hA (fun v3 u3 H locs hu3 hW hS => ?_)
      obtain ⟨rfl, f3⟩ := hu3
      replace f3 := f3.symm
      subst f3
      rw [hn]
      rw [if_pos (show (¬ _ < (0 : Int32) ∧ _ < _) from hR)]
      refine lv_if_ne (tgt := 18) hx hb dX7_message_6 (by decide) (fun c_ => absurd c_ (by decide)) (fun _ => ?_)
      refine lv_iload_n hx hb dX7_message_9 rfl (lv_at hl 2 rfl) ?_
      refine lv_if_lt (tgt := 18) hx hb dX7_message_10 (by decide) (fun c_ => absurd c_ (by decide)) (fun _ => ?_)
      refine lv_iload_n hx hb dX7_message_13 rfl (lv_at hl 2 rfl) ?_
      refine lv_iconst (v := 5) hx hb dX7_message_14 (by decide) ?_
      refine lv_icmp_le (tgt := 22) hx hb dX7_message_15 (by decide) (fun _ => ?_) (fun c_ => absurd c_ (by decide))
      refine lv_iconst (v := 0) hx hb dX7_message_22 (by decide) ?_
      refine pM_thrown hx hb hts hX7 hown hK.1 hW hS rfl (hts (.fieldLink RX7 120 "SharedRegistersModel" "thrown" "I") (by decide +kernel)) dX7_message_23 (fun H locs hW hS => ?_)
      refine lv_aload_n hx hb dX7_message_26 rfl (lv_at hl 0 rfl) ?_
      refine gM 38 hx hb hts hX7 hown hK.1 hW (by simp only [tI_mA, tJ_mA]) (by decide) rfl (hts (.fieldLink RX7 120 "SharedRegistersModel" "thrown" "I") (by decide +kernel)) rfl dX7_message_27 ?_
      rw [show mI (tI z 38 0 0) 38 0 = 0 from by simp [tI_mI, tJ_mI, tI_mJ, tJ_mJ, up2]]
      refine lv_if_le (tgt := 35) hx hb dX7_message_30 (by decide) (fun _ => ?_) (fun c_ => absurd c_ (by decide))
      refine lv_iload_n hx hb dX7_message_35 rfl (lv_at hl 2 rfl) ?_
      refine lv_tableIn (off := 64) (tgt := 100) hx hb dX7_message_36 (by decide) (by decide) (by decide) (by decide) ?_
      refine lv_aload_n hx hb dX7_message_100 rfl (lv_at hl 0 rfl) ?_
      refine gM 5 hx hb hts hX7 hown hK.1 hW (by simp only [tI_mA, tJ_mA]) (by decide) rfl (hts (.fieldLink RX7 22 "SharedRegistersModel" "ballot" "[I") (by decide +kernel)) rfl dX7_message_101 ?_
      refine lv_iload_n hx hb dX7_message_104 rfl (lv_at hl 1 rfl) ?_
      refine mil_n 4 hx hb hK.1 hW (by simp only [tI_mA, tJ_mA]) (by decide) rfl (show _ < 301 by omega) (by decide) dX7_message_105 ?_
      rw [show mI (tI z 38 0 0) 4 j = mI z 4 j from by simp [tI_mI, tJ_mI, tI_mJ, tJ_mJ, up2]]
      refine W.iret hx hb hr ?_ hS.2.2 dX7_message_106
      refine mq1 ?_ hW hS
      exact Or.inl ⟨j, 4, hj, by decide, rfl, rfl, rfl, rfl⟩
    · refine lv_aload_n hx hb dX7_message_0 rfl (lv_at hl 0 rfl) ?_
      refine lv_aload_n hx hb dX7_message_1 rfl (lv_at hl 0 rfl) ?_
      refine lv_iload_n hx hb dX7_message_2 rfl (lv_at hl 1 rfl) ?_
      refine mc1 (va_runV (As := [.int (nI j)]) (rest := [.ref (mA z 0 0)]) ⟨hx, hb, hml, hown, hts⟩ (m7_noMessage l D y z _ (nI j)) (cwV 1 hts gX7_message_X7_noMessage rfl rfl rfl (by decide +kernel) ⟨Nat.le_of_ble_eq_true rfl, Nat.le_of_ble_eq_true rfl⟩) (mPreV (k := 0) (q := (RX7, TX7, 39)) hW hK (show 0 < 1 from Nat.zero_lt_one) rfl rfl [.int (nI j)]) rfl rfl hl.1 rfl (lv_room (Nat.le_of_ble_eq_true rfl)) dX7_message_3 ⟨Nat.le_of_ble_eq_true rfl, Nat.le_of_ble_eq_true rfl⟩) hW hS hA (fun v3 u3 H locs hu3 hW hS => ?_)
      obtain ⟨rfl, f3⟩ := hu3
      replace f3 := f3.symm
      subst f3
      rw [hn]
      rw [if_pos (show (¬ _ < (0 : Int32) ∧ _ < _) from hR)]
      refine lv_if_ne (tgt := 18) hx hb dX7_message_6 (by decide) (fun c_ => absurd c_ (by decide)) (fun _ => ?_)
      refine lv_iload_n hx hb dX7_message_9 rfl (lv_at hl 2 rfl) ?_
      refine lv_if_lt (tgt := 18) hx hb dX7_message_10 (by decide) (fun c_ => absurd c_ (by decide)) (fun _ => ?_)
      refine lv_iload_n hx hb dX7_message_13 rfl (lv_at hl 2 rfl) ?_
      refine lv_iconst (v := 5) hx hb dX7_message_14 (by decide) ?_
      refine lv_icmp_le (tgt := 22) hx hb dX7_message_15 (by decide) (fun _ => ?_) (fun c_ => absurd c_ (by decide))
      refine lv_iconst (v := 0) hx hb dX7_message_22 (by decide) ?_
      refine pM_thrown hx hb hts hX7 hown hK.1 hW hS rfl (hts (.fieldLink RX7 120 "SharedRegistersModel" "thrown" "I") (by decide +kernel)) dX7_message_23 (fun H locs hW hS => ?_)
      refine lv_aload_n hx hb dX7_message_26 rfl (lv_at hl 0 rfl) ?_
      refine gM 38 hx hb hts hX7 hown hK.1 hW (by simp only [tI_mA, tJ_mA]) (by decide) rfl (hts (.fieldLink RX7 120 "SharedRegistersModel" "thrown" "I") (by decide +kernel)) rfl dX7_message_27 ?_
      rw [show mI (tI z 38 0 0) 38 0 = 0 from by simp [tI_mI, tJ_mI, tI_mJ, tJ_mJ, up2]]
      refine lv_if_le (tgt := 35) hx hb dX7_message_30 (by decide) (fun _ => ?_) (fun c_ => absurd c_ (by decide))
      refine lv_iload_n hx hb dX7_message_35 rfl (lv_at hl 2 rfl) ?_
      refine lv_tableOut (tgt := 107) hx hb dX7_message_36 (by decide) (by decide) ?_
      refine lv_aload_n hx hb dX7_message_107 rfl (lv_at hl 0 rfl) ?_
      refine gM 6 hx hb hts hX7 hown hK.1 hW (by simp only [tI_mA, tJ_mA]) (by decide) rfl (hts (.fieldLink RX7 25 "SharedRegistersModel" "tells" "[Z") (by decide +kernel)) rfl dX7_message_108 ?_
      refine lv_iload_n hx hb dX7_message_111 rfl (lv_at hl 1 rfl) ?_
      refine mzl_n 5 hx hb hK.1 hW (by simp only [tI_mA, tJ_mA]) (by decide) rfl (show _ < 301 by omega) (by decide) dX7_message_112 ?_
      rw [show mI (tI z 38 0 0) 5 j = mI z 5 j from by simp [tI_mI, tJ_mI, tI_mJ, tJ_mJ, up2]]
      refine lv_if_eq (tgt := 125) hx hb dX7_message_113 (by decide) (fun c_113 => ?_) (fun c_113 => ?_)
      · refine lv_iconst (v := (-1)) hx hb dX7_message_125 (by decide) ?_
        refine W.iret hx hb hr ?_ hS.2.2 dX7_message_126
        refine mq1 ?_ hW hS
        exact Or.inl ⟨j, 5, hj, by decide, rfl, rfl, by simp [mMsgV, c_113], rfl⟩
      · refine lv_aload_n hx hb dX7_message_116 rfl (lv_at hl 0 rfl) ?_
        refine gM 7 hx hb hts hX7 hown hK.1 hW (by simp only [tI_mA, tJ_mA]) (by decide) rfl (hts (.fieldLink RX7 29 "SharedRegistersModel" "version" "[I") (by decide +kernel)) rfl dX7_message_117 ?_
        refine lv_iload_n hx hb dX7_message_120 rfl (lv_at hl 1 rfl) ?_
        refine mil_n 6 hx hb hK.1 hW (by simp only [tI_mA, tJ_mA]) (by decide) rfl (show _ < 301 by omega) (by decide) dX7_message_121 ?_
        rw [show mI (tI z 38 0 0) 6 j = mI z 6 j from by simp [tI_mI, tJ_mI, tI_mJ, tJ_mJ, up2]]
        refine lv_goto (tgt := 126) hx hb dX7_message_122 (by decide) ?_
        refine W.iret hx hb hr ?_ hS.2.2 dX7_message_126
        refine mq1 ?_ hW hS
        exact Or.inl ⟨j, 5, hj, by decide, rfl, rfl, by simp [mMsgV, c_113], rfl⟩
  · by_cases hq0 : inR i (nI n)
    · refine lv_aload_n hx hb dX7_message_0 rfl (lv_at hl 0 rfl) ?_
      refine lv_aload_n hx hb dX7_message_1 rfl (lv_at hl 0 rfl) ?_
      refine lv_iload_n hx hb dX7_message_2 rfl (lv_at hl 1 rfl) ?_
      refine mc1 (va_runV (As := [.int i]) (rest := [.ref (mA z 0 0)]) ⟨hx, hb, hml, hown, hts⟩ (m7_noMessage l D y z _ i) (cwV 1 hts gX7_message_X7_noMessage rfl rfl rfl (by decide +kernel) ⟨Nat.le_of_ble_eq_true rfl, Nat.le_of_ble_eq_true rfl⟩) (mPreV (k := 0) (q := (RX7, TX7, 39)) hW hK (show 0 < 1 from Nat.zero_lt_one) rfl rfl [.int i]) rfl rfl hl.1 rfl (lv_room (Nat.le_of_ble_eq_true rfl)) dX7_message_3 ⟨Nat.le_of_ble_eq_true rfl, Nat.le_of_ble_eq_true rfl⟩) hW hS hA (fun v3 u3 H locs hu3 hW hS => ?_)
      obtain ⟨rfl, f3⟩ := hu3
      replace f3 := f3.symm
      subst f3
      rw [hn]
      rw [if_pos (show (¬ _ < (0 : Int32) ∧ _ < _) from hq0)]
      refine lv_if_ne (tgt := 18) hx hb dX7_message_6 (by decide) (fun c_ => absurd c_ (by decide)) (fun _ => ?_)
      refine lv_iload_n hx hb dX7_message_9 rfl (lv_at hl 2 rfl) ?_
      refine lv_if_lt (tgt := 18) hx hb dX7_message_10 (by decide) (fun c_10 => ?_) (fun c_10 => ?_)
      · refine lv_iconst (v := 1) hx hb dX7_message_18 (by decide) ?_
        refine lv_goto (tgt := 23) hx hb dX7_message_19 (by decide) ?_
        refine pM_thrown hx hb hts hX7 hown hK.1 hW hS rfl (hts (.fieldLink RX7 120 "SharedRegistersModel" "thrown" "I") (by decide +kernel)) dX7_message_23 (fun H locs hW hS => ?_)
        refine lv_aload_n hx hb dX7_message_26 rfl (lv_at hl 0 rfl) ?_
        refine gM 38 hx hb hts hX7 hown hK.1 hW (by simp only [tI_mA, tJ_mA]) (by decide) rfl (hts (.fieldLink RX7 120 "SharedRegistersModel" "thrown" "I") (by decide +kernel)) rfl dX7_message_27 ?_
        rw [show mI (tI z 38 0 1) 38 0 = 1 from by simp [tI_mI, tJ_mI, tI_mJ, tJ_mJ, up2]]
        refine lv_if_le (tgt := 35) hx hb dX7_message_30 (by decide) (fun c_ => absurd c_ (by decide)) (fun _ => ?_)
        refine lv_iconst (v := 0) hx hb dX7_message_33 (by decide) ?_
        refine W.iret hx hb hr ?_ hS.2.2 dX7_message_34
        refine mq1 ?_ hW hS
        exact Or.inr ⟨hok, rfl, rfl⟩
      · refine lv_iload_n hx hb dX7_message_13 rfl (lv_at hl 2 rfl) ?_
        refine lv_iconst (v := 5) hx hb dX7_message_14 (by decide) ?_
        refine lv_icmp_le (tgt := 22) hx hb dX7_message_15 (by decide) (fun c_15 => ?_) (fun c_15 => ?_)
        · exact absurd ⟨hq0, c_10, le_lt c_15 (by decide)⟩ hok
        · refine lv_iconst (v := 1) hx hb dX7_message_18 (by decide) ?_
          refine lv_goto (tgt := 23) hx hb dX7_message_19 (by decide) ?_
          refine pM_thrown hx hb hts hX7 hown hK.1 hW hS rfl (hts (.fieldLink RX7 120 "SharedRegistersModel" "thrown" "I") (by decide +kernel)) dX7_message_23 (fun H locs hW hS => ?_)
          refine lv_aload_n hx hb dX7_message_26 rfl (lv_at hl 0 rfl) ?_
          refine gM 38 hx hb hts hX7 hown hK.1 hW (by simp only [tI_mA, tJ_mA]) (by decide) rfl (hts (.fieldLink RX7 120 "SharedRegistersModel" "thrown" "I") (by decide +kernel)) rfl dX7_message_27 ?_
          rw [show mI (tI z 38 0 1) 38 0 = 1 from by simp [tI_mI, tJ_mI, tI_mJ, tJ_mJ, up2]]
          refine lv_if_le (tgt := 35) hx hb dX7_message_30 (by decide) (fun c_ => absurd c_ (by decide)) (fun _ => ?_)
          refine lv_iconst (v := 0) hx hb dX7_message_33 (by decide) ?_
          refine W.iret hx hb hr ?_ hS.2.2 dX7_message_34
          refine mq1 ?_ hW hS
          exact Or.inr ⟨hok, rfl, rfl⟩
    · refine lv_aload_n hx hb dX7_message_0 rfl (lv_at hl 0 rfl) ?_
      refine lv_aload_n hx hb dX7_message_1 rfl (lv_at hl 0 rfl) ?_
      refine lv_iload_n hx hb dX7_message_2 rfl (lv_at hl 1 rfl) ?_
      refine mc1 (va_runV (As := [.int i]) (rest := [.ref (mA z 0 0)]) ⟨hx, hb, hml, hown, hts⟩ (m7_noMessage l D y z _ i) (cwV 1 hts gX7_message_X7_noMessage rfl rfl rfl (by decide +kernel) ⟨Nat.le_of_ble_eq_true rfl, Nat.le_of_ble_eq_true rfl⟩) (mPreV (k := 0) (q := (RX7, TX7, 39)) hW hK (show 0 < 1 from Nat.zero_lt_one) rfl rfl [.int i]) rfl rfl hl.1 rfl (lv_room (Nat.le_of_ble_eq_true rfl)) dX7_message_3 ⟨Nat.le_of_ble_eq_true rfl, Nat.le_of_ble_eq_true rfl⟩) hW hS hA (fun v3 u3 H locs hu3 hW hS => ?_)
      obtain ⟨rfl, f3⟩ := hu3
      replace f3 := f3.symm
      subst f3
      rw [hn]
      rw [if_neg (show ¬ (¬ _ < (0 : Int32) ∧ _ < _) from hq0)]
      refine lv_if_ne (tgt := 18) hx hb dX7_message_6 (by decide) (fun _ => ?_) (fun c_ => absurd c_ (by decide))
      refine lv_iconst (v := 1) hx hb dX7_message_18 (by decide) ?_
      refine lv_goto (tgt := 23) hx hb dX7_message_19 (by decide) ?_
      refine pM_thrown hx hb hts hX7 hown hK.1 hW hS rfl (hts (.fieldLink RX7 120 "SharedRegistersModel" "thrown" "I") (by decide +kernel)) dX7_message_23 (fun H locs hW hS => ?_)
      refine lv_aload_n hx hb dX7_message_26 rfl (lv_at hl 0 rfl) ?_
      refine gM 38 hx hb hts hX7 hown hK.1 hW (by simp only [tI_mA, tJ_mA]) (by decide) rfl (hts (.fieldLink RX7 120 "SharedRegistersModel" "thrown" "I") (by decide +kernel)) rfl dX7_message_27 ?_
      rw [show mI (tI z 38 0 1) 38 0 = 1 from by simp [tI_mI, tJ_mI, tI_mJ, tJ_mJ, up2]]
      refine lv_if_le (tgt := 35) hx hb dX7_message_30 (by decide) (fun c_ => absurd c_ (by decide)) (fun _ => ?_)
      refine lv_iconst (v := 0) hx hb dX7_message_33 (by decide) ?_
      refine W.iret hx hb hr ?_ hS.2.2 dX7_message_34
      refine mq1 ?_ hW hS
      exact Or.inr ⟨hok, rfl, rfl⟩
def mRegV (z : MS) (p w : Nat) : Int32 := match w with
  | 0 => mI z 9 p
  | 1 => mI z 10 p
  | _ => if mI z 11 p = 0 then -1 else mI z 12 p
set_option maxHeartbeats 4000000 in
set_option maxRecDepth 100000 in
theorem m7_keeper (l : Launch) (D : va_G) (y : Nat → ClassId) (z : MS) (sz : Nat) (i j wh : Int32) : Met l yX7_keeper wsX7_keeper ({ frames := 1, cells := 0, slots := 0, locals := 40 }) (va_Pc [.ref (mA z 0 0), .int i, .int j, .int wh] (mPre D y z sz)) (mQ1 D y z sz (fun v u => (∃ k q w, k < 9 ∧ q < 4 ∧ w < 3 ∧ i = nI k ∧ j = nI q ∧ wh = nI w ∧ v = .int (mRegV z (4 * k + q) w) ∧ u = tI z 38 0 0) ∨ (¬ (inR i 9 ∧ inR j 4 ∧ inR wh 3) ∧ v = .int 0 ∧ u = tI z 38 0 1))) 0 0 (mF z sz) := by
  refine Met.ofW (cc := cX7_keeper) (maxL := 5) (ret := (some .int)) (by decide) rfl ?_
  intro p e s m args below meth c s₁ B hml hv
  obtain ⟨rfl, hsz, hW0, hK⟩ := hv
  have hx := B.exec
  have hb := B.bytes
  have hr := B.returns
  have hts := atoms_spec (ws := wsX7_keeper) B.pre
  have hown : s.vm.findClass RX7 = some m.cls := findClass_of_methodNamed B.named
  have hlocks := B.notSynchronized
  subst hsz
  have hW := hW0.self (sz := s.heap.size)
  have hA : ∀ q, s.heap.size ≤ q → mF z s.heap.size q := fun q h => Or.inr h
  have hS : va_S (mF z s.heap.size) s.heap s.heap [] := va_S.rf
  have hl := lv_entry ([.ref (mA z 0 0), .int i, .int j, .int wh]) (n := 5) (Nat.le_of_ble_eq_true rfl)
  rw [lg_entry_eq]
  generalize (lg_sl ([.ref (mA z 0 0), .int i, .int j, .int wh]) ++ List.replicate (5 - (lg_sl ([.ref (mA z 0 0), .int i, .int j, .int wh])).length) Slot.unset).toArray = ls at hl ⊢
  have hl : lv_has ls 5 [(0, .ref (mA z 0 0)), (1, .int i), (2, .int j), (3, .int wh)] := hl
  have hX7 : ∀ w ∈ wsX70, w ∈ wsX7_keeper := by decide +kernel
  by_cases hok : inR i 9 ∧ inR j 4 ∧ inR wh 3
  · obtain ⟨hR1, hR2, hwh⟩ := hok
    obtain ⟨k, hk, rfl⟩ := inR_nat (n := 9) hR1 (by decide)
    obtain ⟨q, hq, rfl⟩ := inR_nat (n := 4) hR2 (by decide)
    obtain ⟨w9, hw9, rfl⟩ := inR_nat (n := 3) hwh (by decide)
    rcases (show w9 = 0 ∨ w9 = 1 ∨ w9 = 2 by omega) with rfl | rfl | rfl
    · refine lv_aload_n hx hb dX7_keeper_0 rfl (lv_at hl 0 rfl) ?_
      refine lv_iload_n hx hb dX7_keeper_1 rfl (lv_at hl 1 rfl) ?_
      refine mc1 (va_runS (As := [.int (nI k)]) (rest := [.ref (mA z 0 0)]) ⟨hx, hb, hml, hown, hts⟩ (m7_noKeeper l D y z _ (nI k)) (va_cwS 1 hts gX7_keeper_X7_noKeeper rfl rfl rfl (by decide +kernel) ⟨Nat.le_of_ble_eq_true rfl, Nat.le_of_ble_eq_true rfl⟩) (mPreS hW hK [.int (nI k)]) rfl rfl hl.1 rfl (lv_room (Nat.le_of_ble_eq_true rfl)) dX7_keeper_2 ⟨Nat.le_of_ble_eq_true rfl, Nat.le_of_ble_eq_true rfl⟩) hW hS hA (fun v2 u2 H locs hu2 hW hS => ?_)
      obtain ⟨rfl, f2⟩ := hu2
      replace f2 := f2.symm
      subst f2
      rw [if_pos (show (¬ _ < (0 : Int32) ∧ _ < _) from hR1)]
      refine lv_if_ne (tgt := 24) hx hb dX7_keeper_5 (by decide) (fun c_ => absurd c_ (by decide)) (fun _ => ?_)
      refine lv_iload_n hx hb dX7_keeper_8 rfl (lv_at hl 2 rfl) ?_
      refine mc1 (va_runS (As := [.int (nI q)]) (rest := [.ref (mA z 0 0)]) ⟨hx, hb, hml, hown, hts⟩ (m7_noKey l D y z _ (nI q)) (va_cwS 1 hts gX7_keeper_X7_noKey rfl rfl rfl (by decide +kernel) ⟨Nat.le_of_ble_eq_true rfl, Nat.le_of_ble_eq_true rfl⟩) (mPreS hW hK [.int (nI q)]) rfl rfl hl.1 rfl (lv_room (Nat.le_of_ble_eq_true rfl)) dX7_keeper_9 ⟨Nat.le_of_ble_eq_true rfl, Nat.le_of_ble_eq_true rfl⟩) hW hS hA (fun v9 u9 H locs hu9 hW hS => ?_)
      obtain ⟨rfl, f9⟩ := hu9
      replace f9 := f9.symm
      subst f9
      rw [if_pos (show (¬ _ < (0 : Int32) ∧ _ < _) from hR2)]
      refine lv_if_ne (tgt := 24) hx hb dX7_keeper_12 (by decide) (fun c_ => absurd c_ (by decide)) (fun _ => ?_)
      refine lv_iload_n hx hb dX7_keeper_15 rfl (lv_at hl 3 rfl) ?_
      refine lv_if_lt (tgt := 24) hx hb dX7_keeper_16 (by decide) (fun c_ => absurd c_ (by decide)) (fun _ => ?_)
      refine lv_iload_n hx hb dX7_keeper_19 rfl (lv_at hl 3 rfl) ?_
      refine lv_iconst (v := 2) hx hb dX7_keeper_20 (by decide) ?_
      refine lv_icmp_le (tgt := 28) hx hb dX7_keeper_21 (by decide) (fun _ => ?_) (fun c_ => absurd c_ (by decide))
      refine lv_iconst (v := 0) hx hb dX7_keeper_28 (by decide) ?_
      refine pM_thrown hx hb hts hX7 hown hK.1 hW hS rfl (hts (.fieldLink RX7 120 "SharedRegistersModel" "thrown" "I") (by decide +kernel)) dX7_keeper_29 (fun H locs hW hS => ?_)
      refine lv_aload_n hx hb dX7_keeper_32 rfl (lv_at hl 0 rfl) ?_
      refine gM 38 hx hb hts hX7 hown hK.1 hW (by simp only [tI_mA, tJ_mA]) (by decide) rfl (hts (.fieldLink RX7 120 "SharedRegistersModel" "thrown" "I") (by decide +kernel)) rfl dX7_keeper_33 ?_
      rw [show mI (tI z 38 0 0) 38 0 = 0 from by simp [tI_mI, tJ_mI, tI_mJ, tJ_mJ, up2]]
      refine lv_if_le (tgt := 41) hx hb dX7_keeper_36 (by decide) (fun _ => ?_) (fun c_ => absurd c_ (by decide))
      refine lv_iconst (v := 4) hx hb dX7_keeper_41 (by decide) ?_
      refine lv_iload_n hx hb dX7_keeper_42 rfl (lv_at hl 1 rfl) ?_
      refine lv_imul hx hb dX7_keeper_43 ?_
      rw [show (4 : Int32) * nI k = nI (4 * k) from pk_mul 4 _]
      refine lv_iload_n hx hb dX7_keeper_44 rfl (lv_at hl 2 rfl) ?_
      refine lv_iadd hx hb dX7_keeper_45 ?_
      rw [show nI (4 * k) + nI q = nI (4 * k + q) from nI_add _ _]
      refine lv_istore (lv' := [(4, _), (0, _), (1, _), (2, _), (3, _)]) hx hb dX7_keeper_46 hl (by decide) rfl (fun ls hl => ?_)
      refine lv_iload_n hx hb dX7_keeper_48 rfl (lv_at hl 4 rfl) ?_
      refine lv_if_ne (tgt := 62) hx hb dX7_keeper_49 (by decide) (fun c_ => absurd c_ (by decide)) (fun _ => ?_)
      refine lv_aload_n hx hb dX7_keeper_52 rfl (lv_at hl 1 rfl) ?_
      refine gM 10 hx hb hts hX7 hown hK.1 hW (by simp only [tI_mA, tJ_mA]) (by decide) rfl (hts (.fieldLink RX7 39 "SharedRegistersModel" "promise" "[I") (by decide +kernel)) rfl dX7_keeper_53 ?_
      refine lv_iload hx hb dX7_keeper_56 (lv_at hl 0 rfl) ?_
      refine mil_n 9 hx hb hK.1 hW (by simp only [tI_mA, tJ_mA]) (by decide) rfl (show _ < 36 by omega) (by decide) dX7_keeper_58 ?_
      rw [show mI (tI z 38 0 0) 9 (4 * k + q) = mI z 9 (4 * k + q) from by simp [tI_mI, tJ_mI, tI_mJ, tJ_mJ, up2]]
      refine lv_goto (tgt := 98) hx hb dX7_keeper_59 (by decide) ?_
      refine W.iret hx hb hr ?_ hS.2.2 dX7_keeper_98
      refine mq1 ?_ hW hS
      exact Or.inl ⟨k, q, 0, hk, hq, by decide, rfl, rfl, rfl, rfl, rfl⟩
    · refine lv_aload_n hx hb dX7_keeper_0 rfl (lv_at hl 0 rfl) ?_
      refine lv_iload_n hx hb dX7_keeper_1 rfl (lv_at hl 1 rfl) ?_
      refine mc1 (va_runS (As := [.int (nI k)]) (rest := [.ref (mA z 0 0)]) ⟨hx, hb, hml, hown, hts⟩ (m7_noKeeper l D y z _ (nI k)) (va_cwS 1 hts gX7_keeper_X7_noKeeper rfl rfl rfl (by decide +kernel) ⟨Nat.le_of_ble_eq_true rfl, Nat.le_of_ble_eq_true rfl⟩) (mPreS hW hK [.int (nI k)]) rfl rfl hl.1 rfl (lv_room (Nat.le_of_ble_eq_true rfl)) dX7_keeper_2 ⟨Nat.le_of_ble_eq_true rfl, Nat.le_of_ble_eq_true rfl⟩) hW hS hA (fun v2 u2 H locs hu2 hW hS => ?_)
      obtain ⟨rfl, f2⟩ := hu2
      replace f2 := f2.symm
      subst f2
      rw [if_pos (show (¬ _ < (0 : Int32) ∧ _ < _) from hR1)]
      refine lv_if_ne (tgt := 24) hx hb dX7_keeper_5 (by decide) (fun c_ => absurd c_ (by decide)) (fun _ => ?_)
      refine lv_iload_n hx hb dX7_keeper_8 rfl (lv_at hl 2 rfl) ?_
      refine mc1 (va_runS (As := [.int (nI q)]) (rest := [.ref (mA z 0 0)]) ⟨hx, hb, hml, hown, hts⟩ (m7_noKey l D y z _ (nI q)) (va_cwS 1 hts gX7_keeper_X7_noKey rfl rfl rfl (by decide +kernel) ⟨Nat.le_of_ble_eq_true rfl, Nat.le_of_ble_eq_true rfl⟩) (mPreS hW hK [.int (nI q)]) rfl rfl hl.1 rfl (lv_room (Nat.le_of_ble_eq_true rfl)) dX7_keeper_9 ⟨Nat.le_of_ble_eq_true rfl, Nat.le_of_ble_eq_true rfl⟩) hW hS hA (fun v9 u9 H locs hu9 hW hS => ?_)
      obtain ⟨rfl, f9⟩ := hu9
      replace f9 := f9.symm
      subst f9
      rw [if_pos (show (¬ _ < (0 : Int32) ∧ _ < _) from hR2)]
      refine lv_if_ne (tgt := 24) hx hb dX7_keeper_12 (by decide) (fun c_ => absurd c_ (by decide)) (fun _ => ?_)
      refine lv_iload_n hx hb dX7_keeper_15 rfl (lv_at hl 3 rfl) ?_
      refine lv_if_lt (tgt := 24) hx hb dX7_keeper_16 (by decide) (fun c_ => absurd c_ (by decide)) (fun _ => ?_)
      refine lv_iload_n hx hb dX7_keeper_19 rfl (lv_at hl 3 rfl) ?_
      refine lv_iconst (v := 2) hx hb dX7_keeper_20 (by decide) ?_
      refine lv_icmp_le (tgt := 28) hx hb dX7_keeper_21 (by decide) (fun _ => ?_) (fun c_ => absurd c_ (by decide))
      refine lv_iconst (v := 0) hx hb dX7_keeper_28 (by decide) ?_
      refine pM_thrown hx hb hts hX7 hown hK.1 hW hS rfl (hts (.fieldLink RX7 120 "SharedRegistersModel" "thrown" "I") (by decide +kernel)) dX7_keeper_29 (fun H locs hW hS => ?_)
      refine lv_aload_n hx hb dX7_keeper_32 rfl (lv_at hl 0 rfl) ?_
      refine gM 38 hx hb hts hX7 hown hK.1 hW (by simp only [tI_mA, tJ_mA]) (by decide) rfl (hts (.fieldLink RX7 120 "SharedRegistersModel" "thrown" "I") (by decide +kernel)) rfl dX7_keeper_33 ?_
      rw [show mI (tI z 38 0 0) 38 0 = 0 from by simp [tI_mI, tJ_mI, tI_mJ, tJ_mJ, up2]]
      refine lv_if_le (tgt := 41) hx hb dX7_keeper_36 (by decide) (fun _ => ?_) (fun c_ => absurd c_ (by decide))
      refine lv_iconst (v := 4) hx hb dX7_keeper_41 (by decide) ?_
      refine lv_iload_n hx hb dX7_keeper_42 rfl (lv_at hl 1 rfl) ?_
      refine lv_imul hx hb dX7_keeper_43 ?_
      rw [show (4 : Int32) * nI k = nI (4 * k) from pk_mul 4 _]
      refine lv_iload_n hx hb dX7_keeper_44 rfl (lv_at hl 2 rfl) ?_
      refine lv_iadd hx hb dX7_keeper_45 ?_
      rw [show nI (4 * k) + nI q = nI (4 * k + q) from nI_add _ _]
      refine lv_istore (lv' := [(4, _), (0, _), (1, _), (2, _), (3, _)]) hx hb dX7_keeper_46 hl (by decide) rfl (fun ls hl => ?_)
      refine lv_iload_n hx hb dX7_keeper_48 rfl (lv_at hl 4 rfl) ?_
      refine lv_if_ne (tgt := 62) hx hb dX7_keeper_49 (by decide) (fun _ => ?_) (fun c_ => absurd c_ (by decide))
      refine lv_iload_n hx hb dX7_keeper_62 rfl (lv_at hl 4 rfl) ?_
      refine lv_iconst (v := 1) hx hb dX7_keeper_63 (by decide) ?_
      refine lv_icmp_ne (tgt := 77) hx hb dX7_keeper_64 (by decide) (fun c_ => absurd c_ (by decide)) (fun _ => ?_)
      refine lv_aload_n hx hb dX7_keeper_67 rfl (lv_at hl 1 rfl) ?_
      refine gM 11 hx hb hts hX7 hown hK.1 hW (by simp only [tI_mA, tJ_mA]) (by decide) rfl (hts (.fieldLink RX7 42 "SharedRegistersModel" "accepted" "[I") (by decide +kernel)) rfl dX7_keeper_68 ?_
      refine lv_iload hx hb dX7_keeper_71 (lv_at hl 0 rfl) ?_
      refine mil_n 10 hx hb hK.1 hW (by simp only [tI_mA, tJ_mA]) (by decide) rfl (show _ < 36 by omega) (by decide) dX7_keeper_73 ?_
      rw [show mI (tI z 38 0 0) 10 (4 * k + q) = mI z 10 (4 * k + q) from by simp [tI_mI, tJ_mI, tI_mJ, tJ_mJ, up2]]
      refine lv_goto (tgt := 98) hx hb dX7_keeper_74 (by decide) ?_
      refine W.iret hx hb hr ?_ hS.2.2 dX7_keeper_98
      refine mq1 ?_ hW hS
      exact Or.inl ⟨k, q, 1, hk, hq, by decide, rfl, rfl, rfl, rfl, rfl⟩
    · refine lv_aload_n hx hb dX7_keeper_0 rfl (lv_at hl 0 rfl) ?_
      refine lv_iload_n hx hb dX7_keeper_1 rfl (lv_at hl 1 rfl) ?_
      refine mc1 (va_runS (As := [.int (nI k)]) (rest := [.ref (mA z 0 0)]) ⟨hx, hb, hml, hown, hts⟩ (m7_noKeeper l D y z _ (nI k)) (va_cwS 1 hts gX7_keeper_X7_noKeeper rfl rfl rfl (by decide +kernel) ⟨Nat.le_of_ble_eq_true rfl, Nat.le_of_ble_eq_true rfl⟩) (mPreS hW hK [.int (nI k)]) rfl rfl hl.1 rfl (lv_room (Nat.le_of_ble_eq_true rfl)) dX7_keeper_2 ⟨Nat.le_of_ble_eq_true rfl, Nat.le_of_ble_eq_true rfl⟩) hW hS hA (fun v2 u2 H locs hu2 hW hS => ?_)
      obtain ⟨rfl, f2⟩ := hu2
      replace f2 := f2.symm
      subst f2
      rw [if_pos (show (¬ _ < (0 : Int32) ∧ _ < _) from hR1)]
      refine lv_if_ne (tgt := 24) hx hb dX7_keeper_5 (by decide) (fun c_ => absurd c_ (by decide)) (fun _ => ?_)
      refine lv_iload_n hx hb dX7_keeper_8 rfl (lv_at hl 2 rfl) ?_
      refine mc1 (va_runS (As := [.int (nI q)]) (rest := [.ref (mA z 0 0)]) ⟨hx, hb, hml, hown, hts⟩ (m7_noKey l D y z _ (nI q)) (va_cwS 1 hts gX7_keeper_X7_noKey rfl rfl rfl (by decide +kernel) ⟨Nat.le_of_ble_eq_true rfl, Nat.le_of_ble_eq_true rfl⟩) (mPreS hW hK [.int (nI q)]) rfl rfl hl.1 rfl (lv_room (Nat.le_of_ble_eq_true rfl)) dX7_keeper_9 ⟨Nat.le_of_ble_eq_true rfl, Nat.le_of_ble_eq_true rfl⟩) hW hS hA (fun v9 u9 H locs hu9 hW hS => ?_)
      obtain ⟨rfl, f9⟩ := hu9
      replace f9 := f9.symm
      subst f9
      rw [if_pos (show (¬ _ < (0 : Int32) ∧ _ < _) from hR2)]
      refine lv_if_ne (tgt := 24) hx hb dX7_keeper_12 (by decide) (fun c_ => absurd c_ (by decide)) (fun _ => ?_)
      refine lv_iload_n hx hb dX7_keeper_15 rfl (lv_at hl 3 rfl) ?_
      refine lv_if_lt (tgt := 24) hx hb dX7_keeper_16 (by decide) (fun c_ => absurd c_ (by decide)) (fun _ => ?_)
      refine lv_iload_n hx hb dX7_keeper_19 rfl (lv_at hl 3 rfl) ?_
      refine lv_iconst (v := 2) hx hb dX7_keeper_20 (by decide) ?_
      refine lv_icmp_le (tgt := 28) hx hb dX7_keeper_21 (by decide) (fun _ => ?_) (fun c_ => absurd c_ (by decide))
      refine lv_iconst (v := 0) hx hb dX7_keeper_28 (by decide) ?_
      refine pM_thrown hx hb hts hX7 hown hK.1 hW hS rfl (hts (.fieldLink RX7 120 "SharedRegistersModel" "thrown" "I") (by decide +kernel)) dX7_keeper_29 (fun H locs hW hS => ?_)
      refine lv_aload_n hx hb dX7_keeper_32 rfl (lv_at hl 0 rfl) ?_
      refine gM 38 hx hb hts hX7 hown hK.1 hW (by simp only [tI_mA, tJ_mA]) (by decide) rfl (hts (.fieldLink RX7 120 "SharedRegistersModel" "thrown" "I") (by decide +kernel)) rfl dX7_keeper_33 ?_
      rw [show mI (tI z 38 0 0) 38 0 = 0 from by simp [tI_mI, tJ_mI, tI_mJ, tJ_mJ, up2]]
      refine lv_if_le (tgt := 41) hx hb dX7_keeper_36 (by decide) (fun _ => ?_) (fun c_ => absurd c_ (by decide))
      refine lv_iconst (v := 4) hx hb dX7_keeper_41 (by decide) ?_
      refine lv_iload_n hx hb dX7_keeper_42 rfl (lv_at hl 1 rfl) ?_
      refine lv_imul hx hb dX7_keeper_43 ?_
      rw [show (4 : Int32) * nI k = nI (4 * k) from pk_mul 4 _]
      refine lv_iload_n hx hb dX7_keeper_44 rfl (lv_at hl 2 rfl) ?_
      refine lv_iadd hx hb dX7_keeper_45 ?_
      rw [show nI (4 * k) + nI q = nI (4 * k + q) from nI_add _ _]
      refine lv_istore (lv' := [(4, _), (0, _), (1, _), (2, _), (3, _)]) hx hb dX7_keeper_46 hl (by decide) rfl (fun ls hl => ?_)
      refine lv_iload_n hx hb dX7_keeper_48 rfl (lv_at hl 4 rfl) ?_
      refine lv_if_ne (tgt := 62) hx hb dX7_keeper_49 (by decide) (fun _ => ?_) (fun c_ => absurd c_ (by decide))
      refine lv_iload_n hx hb dX7_keeper_62 rfl (lv_at hl 4 rfl) ?_
      refine lv_iconst (v := 1) hx hb dX7_keeper_63 (by decide) ?_
      refine lv_icmp_ne (tgt := 77) hx hb dX7_keeper_64 (by decide) (fun _ => ?_) (fun c_ => absurd c_ (by decide))
      refine lv_aload_n hx hb dX7_keeper_77 rfl (lv_at hl 1 rfl) ?_
      refine gM 12 hx hb hts hX7 hown hK.1 hW (by simp only [tI_mA, tJ_mA]) (by decide) rfl (hts (.fieldLink RX7 45 "SharedRegistersModel" "there" "[Z") (by decide +kernel)) rfl dX7_keeper_78 ?_
      refine lv_iload hx hb dX7_keeper_81 (lv_at hl 0 rfl) ?_
      refine mzl_n 11 hx hb hK.1 hW (by simp only [tI_mA, tJ_mA]) (by decide) rfl (show _ < 36 by omega) (by decide) dX7_keeper_83 ?_
      rw [show mI (tI z 38 0 0) 11 (4 * k + q) = mI z 11 (4 * k + q) from by simp [tI_mI, tJ_mI, tI_mJ, tJ_mJ, up2]]
      refine lv_if_eq (tgt := 97) hx hb dX7_keeper_84 (by decide) (fun c_84 => ?_) (fun c_84 => ?_)
      · refine lv_iconst (v := (-1)) hx hb dX7_keeper_97 (by decide) ?_
        refine W.iret hx hb hr ?_ hS.2.2 dX7_keeper_98
        refine mq1 ?_ hW hS
        exact Or.inl ⟨k, q, 2, hk, hq, by decide, rfl, rfl, rfl, by simp [mRegV, c_84], rfl⟩
      · refine lv_aload_n hx hb dX7_keeper_87 rfl (lv_at hl 1 rfl) ?_
        refine gM 13 hx hb hts hX7 hown hK.1 hW (by simp only [tI_mA, tJ_mA]) (by decide) rfl (hts (.fieldLink RX7 48 "SharedRegistersModel" "keptVersion" "[I") (by decide +kernel)) rfl dX7_keeper_88 ?_
        refine lv_iload hx hb dX7_keeper_91 (lv_at hl 0 rfl) ?_
        refine mil_n 12 hx hb hK.1 hW (by simp only [tI_mA, tJ_mA]) (by decide) rfl (show _ < 36 by omega) (by decide) dX7_keeper_93 ?_
        rw [show mI (tI z 38 0 0) 12 (4 * k + q) = mI z 12 (4 * k + q) from by simp [tI_mI, tJ_mI, tI_mJ, tJ_mJ, up2]]
        refine lv_goto (tgt := 98) hx hb dX7_keeper_94 (by decide) ?_
        refine W.iret hx hb hr ?_ hS.2.2 dX7_keeper_98
        refine mq1 ?_ hW hS
        exact Or.inl ⟨k, q, 2, hk, hq, by decide, rfl, rfl, rfl, by simp [mRegV, c_84], rfl⟩
  · by_cases hq0 : inR i 9
    · refine lv_aload_n hx hb dX7_keeper_0 rfl (lv_at hl 0 rfl) ?_
      refine lv_iload_n hx hb dX7_keeper_1 rfl (lv_at hl 1 rfl) ?_
      refine mc1 (va_runS (As := [.int i]) (rest := [.ref (mA z 0 0)]) ⟨hx, hb, hml, hown, hts⟩ (m7_noKeeper l D y z _ i) (va_cwS 1 hts gX7_keeper_X7_noKeeper rfl rfl rfl (by decide +kernel) ⟨Nat.le_of_ble_eq_true rfl, Nat.le_of_ble_eq_true rfl⟩) (mPreS hW hK [.int i]) rfl rfl hl.1 rfl (lv_room (Nat.le_of_ble_eq_true rfl)) dX7_keeper_2 ⟨Nat.le_of_ble_eq_true rfl, Nat.le_of_ble_eq_true rfl⟩) hW hS hA (fun v2 u2 H locs hu2 hW hS => ?_)
      obtain ⟨rfl, f2⟩ := hu2
      replace f2 := f2.symm
      subst f2
      rw [if_pos (show (¬ _ < (0 : Int32) ∧ _ < _) from hq0)]
      by_cases hq1 : inR j 4
      · refine lv_if_ne (tgt := 24) hx hb dX7_keeper_5 (by decide) (fun c_ => absurd c_ (by decide)) (fun _ => ?_)
        refine lv_iload_n hx hb dX7_keeper_8 rfl (lv_at hl 2 rfl) ?_
        refine mc1 (va_runS (As := [.int j]) (rest := [.ref (mA z 0 0)]) ⟨hx, hb, hml, hown, hts⟩ (m7_noKey l D y z _ j) (va_cwS 1 hts gX7_keeper_X7_noKey rfl rfl rfl (by decide +kernel) ⟨Nat.le_of_ble_eq_true rfl, Nat.le_of_ble_eq_true rfl⟩) (mPreS hW hK [.int j]) rfl rfl hl.1 rfl (lv_room (Nat.le_of_ble_eq_true rfl)) dX7_keeper_9 ⟨Nat.le_of_ble_eq_true rfl, Nat.le_of_ble_eq_true rfl⟩) hW hS hA (fun v9 u9 H locs hu9 hW hS => ?_)
        obtain ⟨rfl, f9⟩ := hu9
        replace f9 := f9.symm
        subst f9
        rw [if_pos (show (¬ _ < (0 : Int32) ∧ _ < _) from hq1)]
        refine lv_if_ne (tgt := 24) hx hb dX7_keeper_12 (by decide) (fun c_ => absurd c_ (by decide)) (fun _ => ?_)
        refine lv_iload_n hx hb dX7_keeper_15 rfl (lv_at hl 3 rfl) ?_
        refine lv_if_lt (tgt := 24) hx hb dX7_keeper_16 (by decide) (fun c_16 => ?_) (fun c_16 => ?_)
        · refine lv_iconst (v := 1) hx hb dX7_keeper_24 (by decide) ?_
          refine lv_goto (tgt := 29) hx hb dX7_keeper_25 (by decide) ?_
          refine pM_thrown hx hb hts hX7 hown hK.1 hW hS rfl (hts (.fieldLink RX7 120 "SharedRegistersModel" "thrown" "I") (by decide +kernel)) dX7_keeper_29 (fun H locs hW hS => ?_)
          refine lv_aload_n hx hb dX7_keeper_32 rfl (lv_at hl 0 rfl) ?_
          refine gM 38 hx hb hts hX7 hown hK.1 hW (by simp only [tI_mA, tJ_mA]) (by decide) rfl (hts (.fieldLink RX7 120 "SharedRegistersModel" "thrown" "I") (by decide +kernel)) rfl dX7_keeper_33 ?_
          rw [show mI (tI z 38 0 1) 38 0 = 1 from by simp [tI_mI, tJ_mI, tI_mJ, tJ_mJ, up2]]
          refine lv_if_le (tgt := 41) hx hb dX7_keeper_36 (by decide) (fun c_ => absurd c_ (by decide)) (fun _ => ?_)
          refine lv_iconst (v := 0) hx hb dX7_keeper_39 (by decide) ?_
          refine W.iret hx hb hr ?_ hS.2.2 dX7_keeper_40
          refine mq1 ?_ hW hS
          exact Or.inr ⟨hok, rfl, rfl⟩
        · refine lv_iload_n hx hb dX7_keeper_19 rfl (lv_at hl 3 rfl) ?_
          refine lv_iconst (v := 2) hx hb dX7_keeper_20 (by decide) ?_
          refine lv_icmp_le (tgt := 28) hx hb dX7_keeper_21 (by decide) (fun c_21 => ?_) (fun c_21 => ?_)
          · exact absurd ⟨hq0, hq1, c_16, le_lt c_21 (by decide)⟩ hok
          · refine lv_iconst (v := 1) hx hb dX7_keeper_24 (by decide) ?_
            refine lv_goto (tgt := 29) hx hb dX7_keeper_25 (by decide) ?_
            refine pM_thrown hx hb hts hX7 hown hK.1 hW hS rfl (hts (.fieldLink RX7 120 "SharedRegistersModel" "thrown" "I") (by decide +kernel)) dX7_keeper_29 (fun H locs hW hS => ?_)
            refine lv_aload_n hx hb dX7_keeper_32 rfl (lv_at hl 0 rfl) ?_
            refine gM 38 hx hb hts hX7 hown hK.1 hW (by simp only [tI_mA, tJ_mA]) (by decide) rfl (hts (.fieldLink RX7 120 "SharedRegistersModel" "thrown" "I") (by decide +kernel)) rfl dX7_keeper_33 ?_
            rw [show mI (tI z 38 0 1) 38 0 = 1 from by simp [tI_mI, tJ_mI, tI_mJ, tJ_mJ, up2]]
            refine lv_if_le (tgt := 41) hx hb dX7_keeper_36 (by decide) (fun c_ => absurd c_ (by decide)) (fun _ => ?_)
            refine lv_iconst (v := 0) hx hb dX7_keeper_39 (by decide) ?_
            refine W.iret hx hb hr ?_ hS.2.2 dX7_keeper_40
            refine mq1 ?_ hW hS
            exact Or.inr ⟨hok, rfl, rfl⟩
      · refine lv_if_ne (tgt := 24) hx hb dX7_keeper_5 (by decide) (fun c_ => absurd c_ (by decide)) (fun _ => ?_)
        refine lv_iload_n hx hb dX7_keeper_8 rfl (lv_at hl 2 rfl) ?_
        refine mc1 (va_runS (As := [.int j]) (rest := [.ref (mA z 0 0)]) ⟨hx, hb, hml, hown, hts⟩ (m7_noKey l D y z _ j) (va_cwS 1 hts gX7_keeper_X7_noKey rfl rfl rfl (by decide +kernel) ⟨Nat.le_of_ble_eq_true rfl, Nat.le_of_ble_eq_true rfl⟩) (mPreS hW hK [.int j]) rfl rfl hl.1 rfl (lv_room (Nat.le_of_ble_eq_true rfl)) dX7_keeper_9 ⟨Nat.le_of_ble_eq_true rfl, Nat.le_of_ble_eq_true rfl⟩) hW hS hA (fun v9 u9 H locs hu9 hW hS => ?_)
        obtain ⟨rfl, f9⟩ := hu9
        replace f9 := f9.symm
        subst f9
        rw [if_neg (show ¬ (¬ _ < (0 : Int32) ∧ _ < _) from hq1)]
        refine lv_if_ne (tgt := 24) hx hb dX7_keeper_12 (by decide) (fun _ => ?_) (fun c_ => absurd c_ (by decide))
        refine lv_iconst (v := 1) hx hb dX7_keeper_24 (by decide) ?_
        refine lv_goto (tgt := 29) hx hb dX7_keeper_25 (by decide) ?_
        refine pM_thrown hx hb hts hX7 hown hK.1 hW hS rfl (hts (.fieldLink RX7 120 "SharedRegistersModel" "thrown" "I") (by decide +kernel)) dX7_keeper_29 (fun H locs hW hS => ?_)
        refine lv_aload_n hx hb dX7_keeper_32 rfl (lv_at hl 0 rfl) ?_
        refine gM 38 hx hb hts hX7 hown hK.1 hW (by simp only [tI_mA, tJ_mA]) (by decide) rfl (hts (.fieldLink RX7 120 "SharedRegistersModel" "thrown" "I") (by decide +kernel)) rfl dX7_keeper_33 ?_
        rw [show mI (tI z 38 0 1) 38 0 = 1 from by simp [tI_mI, tJ_mI, tI_mJ, tJ_mJ, up2]]
        refine lv_if_le (tgt := 41) hx hb dX7_keeper_36 (by decide) (fun c_ => absurd c_ (by decide)) (fun _ => ?_)
        refine lv_iconst (v := 0) hx hb dX7_keeper_39 (by decide) ?_
        refine W.iret hx hb hr ?_ hS.2.2 dX7_keeper_40
        refine mq1 ?_ hW hS
        exact Or.inr ⟨hok, rfl, rfl⟩
    · refine lv_aload_n hx hb dX7_keeper_0 rfl (lv_at hl 0 rfl) ?_
      refine lv_iload_n hx hb dX7_keeper_1 rfl (lv_at hl 1 rfl) ?_
      refine mc1 (va_runS (As := [.int i]) (rest := [.ref (mA z 0 0)]) ⟨hx, hb, hml, hown, hts⟩ (m7_noKeeper l D y z _ i) (va_cwS 1 hts gX7_keeper_X7_noKeeper rfl rfl rfl (by decide +kernel) ⟨Nat.le_of_ble_eq_true rfl, Nat.le_of_ble_eq_true rfl⟩) (mPreS hW hK [.int i]) rfl rfl hl.1 rfl (lv_room (Nat.le_of_ble_eq_true rfl)) dX7_keeper_2 ⟨Nat.le_of_ble_eq_true rfl, Nat.le_of_ble_eq_true rfl⟩) hW hS hA (fun v2 u2 H locs hu2 hW hS => ?_)
      obtain ⟨rfl, f2⟩ := hu2
      replace f2 := f2.symm
      subst f2
      rw [if_neg (show ¬ (¬ _ < (0 : Int32) ∧ _ < _) from hq0)]
      refine lv_if_ne (tgt := 24) hx hb dX7_keeper_5 (by decide) (fun _ => ?_) (fun c_ => absurd c_ (by decide))
      refine lv_iconst (v := 1) hx hb dX7_keeper_24 (by decide) ?_
      refine lv_goto (tgt := 29) hx hb dX7_keeper_25 (by decide) ?_
      refine pM_thrown hx hb hts hX7 hown hK.1 hW hS rfl (hts (.fieldLink RX7 120 "SharedRegistersModel" "thrown" "I") (by decide +kernel)) dX7_keeper_29 (fun H locs hW hS => ?_)
      refine lv_aload_n hx hb dX7_keeper_32 rfl (lv_at hl 0 rfl) ?_
      refine gM 38 hx hb hts hX7 hown hK.1 hW (by simp only [tI_mA, tJ_mA]) (by decide) rfl (hts (.fieldLink RX7 120 "SharedRegistersModel" "thrown" "I") (by decide +kernel)) rfl dX7_keeper_33 ?_
      rw [show mI (tI z 38 0 1) 38 0 = 1 from by simp [tI_mI, tJ_mI, tI_mJ, tJ_mJ, up2]]
      refine lv_if_le (tgt := 41) hx hb dX7_keeper_36 (by decide) (fun c_ => absurd c_ (by decide)) (fun _ => ?_)
      refine lv_iconst (v := 0) hx hb dX7_keeper_39 (by decide) ?_
      refine W.iret hx hb hr ?_ hS.2.2 dX7_keeper_40
      refine mq1 ?_ hW hS
      exact Or.inr ⟨hok, rfl, rfl⟩
set_option maxHeartbeats 4000000 in
set_option maxRecDepth 100000 in
theorem m7_kept (l : Launch) (D : va_G) (y : Nat → ClassId) (z : MS) (sz : Nat) (i j : Int32) : Met l yX7_kept wsX7_kept ({ frames := 1, cells := 0, slots := 0, locals := 40 }) (va_Pc [.ref (mA z 0 0), .int i, .int j] (mPre D y z sz)) (mQ1 D y z sz (fun v u => (∃ k q, k < 9 ∧ q < 4 ∧ i = nI k ∧ j = nI q ∧ v = .long (if mI z 11 (4 * k + q) = 0 then 0 else mJ z 13 (4 * k + q)) ∧ u = tI z 38 0 0) ∨ (¬ (inR i 9 ∧ inR j 4) ∧ v = .long 0 ∧ u = tI z 38 0 1))) 0 0 (mF z sz) := by
  refine Met.ofW (cc := cX7_kept) (maxL := 4) (ret := (some .long)) (by decide) rfl ?_
  intro p e s m args below meth c s₁ B hml hv
  obtain ⟨rfl, hsz, hW0, hK⟩ := hv
  have hx := B.exec
  have hb := B.bytes
  have hr := B.returns
  have hts := atoms_spec (ws := wsX7_kept) B.pre
  have hown : s.vm.findClass RX7 = some m.cls := findClass_of_methodNamed B.named
  have hlocks := B.notSynchronized
  subst hsz
  have hW := hW0.self (sz := s.heap.size)
  have hA : ∀ q, s.heap.size ≤ q → mF z s.heap.size q := fun q h => Or.inr h
  have hS : va_S (mF z s.heap.size) s.heap s.heap [] := va_S.rf
  have hl := lv_entry ([.ref (mA z 0 0), .int i, .int j]) (n := 4) (Nat.le_of_ble_eq_true rfl)
  rw [lg_entry_eq]
  generalize (lg_sl ([.ref (mA z 0 0), .int i, .int j]) ++ List.replicate (4 - (lg_sl ([.ref (mA z 0 0), .int i, .int j])).length) Slot.unset).toArray = ls at hl ⊢
  have hl : lv_has ls 4 [(0, .ref (mA z 0 0)), (1, .int i), (2, .int j)] := hl
  have hX7 : ∀ w ∈ wsX70, w ∈ wsX7_kept := by decide +kernel
  by_cases hok : inR i 9 ∧ inR j 4
  · obtain ⟨hR1, hR2⟩ := hok
    obtain ⟨k, hk, rfl⟩ := inR_nat (n := 9) hR1 (by decide)
    obtain ⟨q, hq, rfl⟩ := inR_nat (n := 4) hR2 (by decide)
    refine lv_aload_n hx hb dX7_kept_0 rfl (lv_at hl 0 rfl) ?_
    refine lv_iload_n hx hb dX7_kept_1 rfl (lv_at hl 1 rfl) ?_
    refine mc1 (va_runS (As := [.int (nI k)]) (rest := [.ref (mA z 0 0)]) ⟨hx, hb, hml, hown, hts⟩ (m7_noKeeper l D y z _ (nI k)) (va_cwS 1 hts gX7_kept_X7_noKeeper rfl rfl rfl (by decide +kernel) ⟨Nat.le_of_ble_eq_true rfl, Nat.le_of_ble_eq_true rfl⟩) (mPreS hW hK [.int (nI k)]) rfl rfl hl.1 rfl (lv_room (Nat.le_of_ble_eq_true rfl)) dX7_kept_2 ⟨Nat.le_of_ble_eq_true rfl, Nat.le_of_ble_eq_true rfl⟩) hW hS hA (fun v2 u2 H locs hu2 hW hS => ?_)
    obtain ⟨rfl, f2⟩ := hu2
    replace f2 := f2.symm
    subst f2
    rw [if_pos (show (¬ _ < (0 : Int32) ∧ _ < _) from hR1)]
    refine lv_if_ne (tgt := 15) hx hb dX7_kept_5 (by decide) (fun c_ => absurd c_ (by decide)) (fun _ => ?_)
    refine lv_iload_n hx hb dX7_kept_8 rfl (lv_at hl 2 rfl) ?_
    refine mc1 (va_runS (As := [.int (nI q)]) (rest := [.ref (mA z 0 0)]) ⟨hx, hb, hml, hown, hts⟩ (m7_noKey l D y z _ (nI q)) (va_cwS 1 hts gX7_kept_X7_noKey rfl rfl rfl (by decide +kernel) ⟨Nat.le_of_ble_eq_true rfl, Nat.le_of_ble_eq_true rfl⟩) (mPreS hW hK [.int (nI q)]) rfl rfl hl.1 rfl (lv_room (Nat.le_of_ble_eq_true rfl)) dX7_kept_9 ⟨Nat.le_of_ble_eq_true rfl, Nat.le_of_ble_eq_true rfl⟩) hW hS hA (fun v9 u9 H locs hu9 hW hS => ?_)
    obtain ⟨rfl, f9⟩ := hu9
    replace f9 := f9.symm
    subst f9
    rw [if_pos (show (¬ _ < (0 : Int32) ∧ _ < _) from hR2)]
    refine lv_if_eq (tgt := 19) hx hb dX7_kept_12 (by decide) (fun _ => ?_) (fun c_ => absurd c_ (by decide))
    refine lv_iconst (v := 0) hx hb dX7_kept_19 (by decide) ?_
    refine pM_thrown hx hb hts hX7 hown hK.1 hW hS rfl (hts (.fieldLink RX7 120 "SharedRegistersModel" "thrown" "I") (by decide +kernel)) dX7_kept_20 (fun H locs hW hS => ?_)
    refine lv_aload_n hx hb dX7_kept_23 rfl (lv_at hl 0 rfl) ?_
    refine gM 38 hx hb hts hX7 hown hK.1 hW (by simp only [tI_mA, tJ_mA]) (by decide) rfl (hts (.fieldLink RX7 120 "SharedRegistersModel" "thrown" "I") (by decide +kernel)) rfl dX7_kept_24 ?_
    rw [show mI (tI z 38 0 0) 38 0 = 0 from by simp [tI_mI, tJ_mI, tI_mJ, tJ_mJ, up2]]
    refine lv_if_le (tgt := 34) hx hb dX7_kept_27 (by decide) (fun _ => ?_) (fun c_ => absurd c_ (by decide))
    refine lv_iconst (v := 4) hx hb dX7_kept_34 (by decide) ?_
    refine lv_iload_n hx hb dX7_kept_35 rfl (lv_at hl 1 rfl) ?_
    refine lv_imul hx hb dX7_kept_36 ?_
    rw [show (4 : Int32) * nI k = nI (4 * k) from pk_mul 4 _]
    refine lv_iload_n hx hb dX7_kept_37 rfl (lv_at hl 2 rfl) ?_
    refine lv_iadd hx hb dX7_kept_38 ?_
    rw [show nI (4 * k) + nI q = nI (4 * k + q) from nI_add _ _]
    refine lv_istore_n (lv' := [(3, _), (0, _), (1, _), (2, _)]) hx hb dX7_kept_39 rfl hl (by decide) rfl (fun ls hl => ?_)
    refine lv_aload_n hx hb dX7_kept_40 rfl (lv_at hl 1 rfl) ?_
    refine gM 38 hx hb hts hX7 hown hK.1 hW (by simp only [tI_mA, tJ_mA]) (by decide) rfl (hts (.fieldLink RX7 120 "SharedRegistersModel" "thrown" "I") (by decide +kernel)) rfl dX7_kept_41 ?_
    rw [show mI (tI z 38 0 0) 38 0 = 0 from by simp [tI_mI, tJ_mI, tI_mJ, tJ_mJ, up2]]
    refine lv_if_ne (tgt := 65) hx hb dX7_kept_44 (by decide) (fun c_ => absurd c_ (by decide)) (fun _ => ?_)
    refine lv_aload_n hx hb dX7_kept_47 rfl (lv_at hl 1 rfl) ?_
    refine gM 12 hx hb hts hX7 hown hK.1 hW (by simp only [tI_mA, tJ_mA]) (by decide) rfl (hts (.fieldLink RX7 45 "SharedRegistersModel" "there" "[Z") (by decide +kernel)) rfl dX7_kept_48 ?_
    refine lv_iload_n hx hb dX7_kept_51 rfl (lv_at hl 0 rfl) ?_
    refine mzl_n 11 hx hb hK.1 hW (by simp only [tI_mA, tJ_mA]) (by decide) rfl (show _ < 36 by omega) (by decide) dX7_kept_52 ?_
    rw [show mI (tI z 38 0 0) 11 (4 * k + q) = mI z 11 (4 * k + q) from by simp [tI_mI, tJ_mI, tI_mJ, tJ_mJ, up2]]
    refine lv_if_eq (tgt := 65) hx hb dX7_kept_53 (by decide) (fun c_53 => ?_) (fun c_53 => ?_)
    · refine lv_lconst (v := 0) hx hb dX7_kept_65 (by decide) ?_
      refine W.lret hx hb hr ?_ hS.2.2 dX7_kept_66
      refine mq1 ?_ hW hS
      exact Or.inl ⟨k, q, hk, hq, rfl, rfl, by simp [c_53], rfl⟩
    · refine lv_aload_n hx hb dX7_kept_56 rfl (lv_at hl 1 rfl) ?_
      refine gM 14 hx hb hts hX7 hown hK.1 hW (by simp only [tI_mA, tJ_mA]) (by decide) rfl (hts (.fieldLink RX7 51 "SharedRegistersModel" "keptValue" "[J") (by decide +kernel)) rfl dX7_kept_57 ?_
      refine lv_iload_n hx hb dX7_kept_60 rfl (lv_at hl 0 rfl) ?_
      refine mll_n 13 hx hb hK.1 hW (by simp only [tI_mA, tJ_mA]) (by decide) rfl (show _ < 36 by omega) (by decide) dX7_kept_61 ?_
      rw [show mJ (tI z 38 0 0) 13 (4 * k + q) = mJ z 13 (4 * k + q) from by simp [tI_mI, tJ_mI, tI_mJ, tJ_mJ, up2]]
      refine lv_goto (tgt := 66) hx hb dX7_kept_62 (by decide) ?_
      refine W.lret hx hb hr ?_ hS.2.2 dX7_kept_66
      refine mq1 ?_ hW hS
      exact Or.inl ⟨k, q, hk, hq, rfl, rfl, by simp [c_53], rfl⟩
  · by_cases hq0 : inR i 9
    · refine lv_aload_n hx hb dX7_kept_0 rfl (lv_at hl 0 rfl) ?_
      refine lv_iload_n hx hb dX7_kept_1 rfl (lv_at hl 1 rfl) ?_
      refine mc1 (va_runS (As := [.int i]) (rest := [.ref (mA z 0 0)]) ⟨hx, hb, hml, hown, hts⟩ (m7_noKeeper l D y z _ i) (va_cwS 1 hts gX7_kept_X7_noKeeper rfl rfl rfl (by decide +kernel) ⟨Nat.le_of_ble_eq_true rfl, Nat.le_of_ble_eq_true rfl⟩) (mPreS hW hK [.int i]) rfl rfl hl.1 rfl (lv_room (Nat.le_of_ble_eq_true rfl)) dX7_kept_2 ⟨Nat.le_of_ble_eq_true rfl, Nat.le_of_ble_eq_true rfl⟩) hW hS hA (fun v2 u2 H locs hu2 hW hS => ?_)
      obtain ⟨rfl, f2⟩ := hu2
      replace f2 := f2.symm
      subst f2
      rw [if_pos (show (¬ _ < (0 : Int32) ∧ _ < _) from hq0)]
      by_cases hq1 : inR j 4
      · refine lv_if_ne (tgt := 15) hx hb dX7_kept_5 (by decide) (fun c_ => absurd c_ (by decide)) (fun _ => ?_)
        refine lv_iload_n hx hb dX7_kept_8 rfl (lv_at hl 2 rfl) ?_
        refine mc1 (va_runS (As := [.int j]) (rest := [.ref (mA z 0 0)]) ⟨hx, hb, hml, hown, hts⟩ (m7_noKey l D y z _ j) (va_cwS 1 hts gX7_kept_X7_noKey rfl rfl rfl (by decide +kernel) ⟨Nat.le_of_ble_eq_true rfl, Nat.le_of_ble_eq_true rfl⟩) (mPreS hW hK [.int j]) rfl rfl hl.1 rfl (lv_room (Nat.le_of_ble_eq_true rfl)) dX7_kept_9 ⟨Nat.le_of_ble_eq_true rfl, Nat.le_of_ble_eq_true rfl⟩) hW hS hA (fun v9 u9 H locs hu9 hW hS => ?_)
        obtain ⟨rfl, f9⟩ := hu9
        replace f9 := f9.symm
        subst f9
        rw [if_pos (show (¬ _ < (0 : Int32) ∧ _ < _) from hq1)]
        refine lv_if_eq (tgt := 19) hx hb dX7_kept_12 (by decide) (fun _ => ?_) (fun c_ => absurd c_ (by decide))
        exact absurd ⟨hq0, hq1⟩ hok
      · refine lv_if_ne (tgt := 15) hx hb dX7_kept_5 (by decide) (fun c_ => absurd c_ (by decide)) (fun _ => ?_)
        refine lv_iload_n hx hb dX7_kept_8 rfl (lv_at hl 2 rfl) ?_
        refine mc1 (va_runS (As := [.int j]) (rest := [.ref (mA z 0 0)]) ⟨hx, hb, hml, hown, hts⟩ (m7_noKey l D y z _ j) (va_cwS 1 hts gX7_kept_X7_noKey rfl rfl rfl (by decide +kernel) ⟨Nat.le_of_ble_eq_true rfl, Nat.le_of_ble_eq_true rfl⟩) (mPreS hW hK [.int j]) rfl rfl hl.1 rfl (lv_room (Nat.le_of_ble_eq_true rfl)) dX7_kept_9 ⟨Nat.le_of_ble_eq_true rfl, Nat.le_of_ble_eq_true rfl⟩) hW hS hA (fun v9 u9 H locs hu9 hW hS => ?_)
        obtain ⟨rfl, f9⟩ := hu9
        replace f9 := f9.symm
        subst f9
        rw [if_neg (show ¬ (¬ _ < (0 : Int32) ∧ _ < _) from hq1)]
        refine lv_if_eq (tgt := 19) hx hb dX7_kept_12 (by decide) (fun c_ => absurd c_ (by decide)) (fun _ => ?_)
        refine lv_iconst (v := 1) hx hb dX7_kept_15 (by decide) ?_
        refine lv_goto (tgt := 20) hx hb dX7_kept_16 (by decide) ?_
        refine pM_thrown hx hb hts hX7 hown hK.1 hW hS rfl (hts (.fieldLink RX7 120 "SharedRegistersModel" "thrown" "I") (by decide +kernel)) dX7_kept_20 (fun H locs hW hS => ?_)
        refine lv_aload_n hx hb dX7_kept_23 rfl (lv_at hl 0 rfl) ?_
        refine gM 38 hx hb hts hX7 hown hK.1 hW (by simp only [tI_mA, tJ_mA]) (by decide) rfl (hts (.fieldLink RX7 120 "SharedRegistersModel" "thrown" "I") (by decide +kernel)) rfl dX7_kept_24 ?_
        rw [show mI (tI z 38 0 1) 38 0 = 1 from by simp [tI_mI, tJ_mI, tI_mJ, tJ_mJ, up2]]
        refine lv_if_le (tgt := 34) hx hb dX7_kept_27 (by decide) (fun c_ => absurd c_ (by decide)) (fun _ => ?_)
        refine lv_iconst (v := 0) hx hb dX7_kept_30 (by decide) ?_
        refine lv_goto (tgt := 39) hx hb dX7_kept_31 (by decide) ?_
        refine lv_istore_n (lv' := [(3, _), (0, _), (1, _), (2, _)]) hx hb dX7_kept_39 rfl hl (by decide) rfl (fun ls hl => ?_)
        refine lv_aload_n hx hb dX7_kept_40 rfl (lv_at hl 1 rfl) ?_
        refine gM 38 hx hb hts hX7 hown hK.1 hW (by simp only [tI_mA, tJ_mA]) (by decide) rfl (hts (.fieldLink RX7 120 "SharedRegistersModel" "thrown" "I") (by decide +kernel)) rfl dX7_kept_41 ?_
        rw [show mI (tI z 38 0 1) 38 0 = 1 from by simp [tI_mI, tJ_mI, tI_mJ, tJ_mJ, up2]]
        refine lv_if_ne (tgt := 65) hx hb dX7_kept_44 (by decide) (fun _ => ?_) (fun c_ => absurd c_ (by decide))
        refine lv_lconst (v := 0) hx hb dX7_kept_65 (by decide) ?_
        refine W.lret hx hb hr ?_ hS.2.2 dX7_kept_66
        refine mq1 ?_ hW hS
        exact Or.inr ⟨hok, rfl, rfl⟩
    · refine lv_aload_n hx hb dX7_kept_0 rfl (lv_at hl 0 rfl) ?_
      refine lv_iload_n hx hb dX7_kept_1 rfl (lv_at hl 1 rfl) ?_
      refine mc1 (va_runS (As := [.int i]) (rest := [.ref (mA z 0 0)]) ⟨hx, hb, hml, hown, hts⟩ (m7_noKeeper l D y z _ i) (va_cwS 1 hts gX7_kept_X7_noKeeper rfl rfl rfl (by decide +kernel) ⟨Nat.le_of_ble_eq_true rfl, Nat.le_of_ble_eq_true rfl⟩) (mPreS hW hK [.int i]) rfl rfl hl.1 rfl (lv_room (Nat.le_of_ble_eq_true rfl)) dX7_kept_2 ⟨Nat.le_of_ble_eq_true rfl, Nat.le_of_ble_eq_true rfl⟩) hW hS hA (fun v2 u2 H locs hu2 hW hS => ?_)
      obtain ⟨rfl, f2⟩ := hu2
      replace f2 := f2.symm
      subst f2
      rw [if_neg (show ¬ (¬ _ < (0 : Int32) ∧ _ < _) from hq0)]
      refine lv_if_ne (tgt := 15) hx hb dX7_kept_5 (by decide) (fun _ => ?_) (fun c_ => absurd c_ (by decide))
      refine lv_iconst (v := 1) hx hb dX7_kept_15 (by decide) ?_
      refine lv_goto (tgt := 20) hx hb dX7_kept_16 (by decide) ?_
      refine pM_thrown hx hb hts hX7 hown hK.1 hW hS rfl (hts (.fieldLink RX7 120 "SharedRegistersModel" "thrown" "I") (by decide +kernel)) dX7_kept_20 (fun H locs hW hS => ?_)
      refine lv_aload_n hx hb dX7_kept_23 rfl (lv_at hl 0 rfl) ?_
      refine gM 38 hx hb hts hX7 hown hK.1 hW (by simp only [tI_mA, tJ_mA]) (by decide) rfl (hts (.fieldLink RX7 120 "SharedRegistersModel" "thrown" "I") (by decide +kernel)) rfl dX7_kept_24 ?_
      rw [show mI (tI z 38 0 1) 38 0 = 1 from by simp [tI_mI, tJ_mI, tI_mJ, tJ_mJ, up2]]
      refine lv_if_le (tgt := 34) hx hb dX7_kept_27 (by decide) (fun c_ => absurd c_ (by decide)) (fun _ => ?_)
      refine lv_iconst (v := 0) hx hb dX7_kept_30 (by decide) ?_
      refine lv_goto (tgt := 39) hx hb dX7_kept_31 (by decide) ?_
      refine lv_istore_n (lv' := [(3, _), (0, _), (1, _), (2, _)]) hx hb dX7_kept_39 rfl hl (by decide) rfl (fun ls hl => ?_)
      refine lv_aload_n hx hb dX7_kept_40 rfl (lv_at hl 1 rfl) ?_
      refine gM 38 hx hb hts hX7 hown hK.1 hW (by simp only [tI_mA, tJ_mA]) (by decide) rfl (hts (.fieldLink RX7 120 "SharedRegistersModel" "thrown" "I") (by decide +kernel)) rfl dX7_kept_41 ?_
      rw [show mI (tI z 38 0 1) 38 0 = 1 from by simp [tI_mI, tJ_mI, tI_mJ, tJ_mJ, up2]]
      refine lv_if_ne (tgt := 65) hx hb dX7_kept_44 (by decide) (fun _ => ?_) (fun c_ => absurd c_ (by decide))
      refine lv_lconst (v := 0) hx hb dX7_kept_65 (by decide) ?_
      refine W.lret hx hb hr ?_ hS.2.2 dX7_kept_66
      refine mq1 ?_ hW hS
      exact Or.inr ⟨hok, rfl, rfl⟩
def mAskV (z : MS) (a w : Nat) : Int32 := match w with
  | 0 => mI z 14 a
  | 1 => mI z 19 a
  | 2 => if mI z 19 a < 0 then 0 else (if mI z 20 a = 0 then 0 else 1)
  | _ => if mI z 19 a < 0 then 0 else mBits 9 (mI z 21 a) 0 0
set_option maxHeartbeats 4000000 in
set_option maxRecDepth 100000 in
theorem m7_asker (l : Launch) (D : va_G) (y : Nat → ClassId) (z : MS) (sz : Nat) (i wh : Int32) : Met l yX7_asker wsX7_asker ({ frames := 1, cells := 0, slots := 0, locals := 40 }) (va_Pc [.ref (mA z 0 0), .int i, .int wh] (mPre D y z sz)) (mQ1 D y z sz (fun v u => (∃ a w, a < 4 ∧ w < 4 ∧ i = nI a ∧ wh = nI w ∧ v = .int (mAskV z a w) ∧ u = tI z 38 0 0) ∨ (¬ (inR i 4 ∧ inR wh 4) ∧ v = .int 0 ∧ u = tI z 38 0 1))) 0 0 (mF z sz) := by
  refine Met.ofW (cc := cX7_asker) (maxL := 4) (ret := (some .int)) (by decide) rfl ?_
  intro p e s m args below meth c s₁ B hml hv
  obtain ⟨rfl, hsz, hW0, hK⟩ := hv
  have hx := B.exec
  have hb := B.bytes
  have hr := B.returns
  have hts := atoms_spec (ws := wsX7_asker) B.pre
  have hown : s.vm.findClass RX7 = some m.cls := findClass_of_methodNamed B.named
  have hlocks := B.notSynchronized
  subst hsz
  have hW := hW0.self (sz := s.heap.size)
  have hA : ∀ q, s.heap.size ≤ q → mF z s.heap.size q := fun q h => Or.inr h
  have hS : va_S (mF z s.heap.size) s.heap s.heap [] := va_S.rf
  have hl := lv_entry ([.ref (mA z 0 0), .int i, .int wh]) (n := 4) (Nat.le_of_ble_eq_true rfl)
  rw [lg_entry_eq]
  generalize (lg_sl ([.ref (mA z 0 0), .int i, .int wh]) ++ List.replicate (4 - (lg_sl ([.ref (mA z 0 0), .int i, .int wh])).length) Slot.unset).toArray = ls at hl ⊢
  have hl : lv_has ls 4 [(0, .ref (mA z 0 0)), (1, .int i), (2, .int wh)] := hl
  have hX7 : ∀ w ∈ wsX70, w ∈ wsX7_asker := by decide +kernel
  by_cases hok : inR i 4 ∧ inR wh 4
  · obtain ⟨hR1, hwh⟩ := hok
    obtain ⟨a, ha, rfl⟩ := inR_nat (n := 4) hR1 (by decide)
    obtain ⟨w9, hw9, rfl⟩ := inR_nat (n := 4) hwh (by decide)
    rcases (show w9 = 0 ∨ w9 = 1 ∨ w9 = 2 ∨ w9 = 3 by omega) with rfl | rfl | rfl | rfl
    · refine lv_aload_n hx hb dX7_asker_0 rfl (lv_at hl 0 rfl) ?_
      refine lv_iload_n hx hb dX7_asker_1 rfl (lv_at hl 1 rfl) ?_
      refine mc1 (va_runS (As := [.int (nI a)]) (rest := [.ref (mA z 0 0)]) ⟨hx, hb, hml, hown, hts⟩ (m7_noAsker l D y z _ (nI a)) (va_cwS 1 hts gX7_asker_X7_noAsker rfl rfl rfl (by decide +kernel) ⟨Nat.le_of_ble_eq_true rfl, Nat.le_of_ble_eq_true rfl⟩) (mPreS hW hK [.int (nI a)]) rfl rfl hl.1 rfl (lv_room (Nat.le_of_ble_eq_true rfl)) dX7_asker_2 ⟨Nat.le_of_ble_eq_true rfl, Nat.le_of_ble_eq_true rfl⟩) hW hS hA (fun v2 u2 H locs hu2 hW hS => ?_)
      obtain ⟨rfl, f2⟩ := hu2
      replace f2 := f2.symm
      subst f2
      rw [if_pos (show (¬ _ < (0 : Int32) ∧ _ < _) from hR1)]
      refine lv_if_ne (tgt := 17) hx hb dX7_asker_5 (by decide) (fun c_ => absurd c_ (by decide)) (fun _ => ?_)
      refine lv_iload_n hx hb dX7_asker_8 rfl (lv_at hl 2 rfl) ?_
      refine lv_if_lt (tgt := 17) hx hb dX7_asker_9 (by decide) (fun c_ => absurd c_ (by decide)) (fun _ => ?_)
      refine lv_iload_n hx hb dX7_asker_12 rfl (lv_at hl 2 rfl) ?_
      refine lv_iconst (v := 3) hx hb dX7_asker_13 (by decide) ?_
      refine lv_icmp_le (tgt := 21) hx hb dX7_asker_14 (by decide) (fun _ => ?_) (fun c_ => absurd c_ (by decide))
      refine lv_iconst (v := 0) hx hb dX7_asker_21 (by decide) ?_
      refine pM_thrown hx hb hts hX7 hown hK.1 hW hS rfl (hts (.fieldLink RX7 120 "SharedRegistersModel" "thrown" "I") (by decide +kernel)) dX7_asker_22 (fun H locs hW hS => ?_)
      refine lv_aload_n hx hb dX7_asker_25 rfl (lv_at hl 0 rfl) ?_
      refine gM 38 hx hb hts hX7 hown hK.1 hW (by simp only [tI_mA, tJ_mA]) (by decide) rfl (hts (.fieldLink RX7 120 "SharedRegistersModel" "thrown" "I") (by decide +kernel)) rfl dX7_asker_26 ?_
      rw [show mI (tI z 38 0 0) 38 0 = 0 from by simp [tI_mI, tJ_mI, tI_mJ, tJ_mJ, up2]]
      refine lv_if_le (tgt := 34) hx hb dX7_asker_29 (by decide) (fun _ => ?_) (fun c_ => absurd c_ (by decide))
      refine lv_aload_n hx hb dX7_asker_34 rfl (lv_at hl 0 rfl) ?_
      refine gM 20 hx hb hts hX7 hown hK.1 hW (by simp only [tI_mA, tJ_mA]) (by decide) rfl (hts (.fieldLink RX7 69 "SharedRegistersModel" "now" "[I") (by decide +kernel)) rfl dX7_asker_35 ?_
      refine lv_iload_n hx hb dX7_asker_38 rfl (lv_at hl 1 rfl) ?_
      refine mil_n 19 hx hb hK.1 hW (by simp only [tI_mA, tJ_mA]) (by decide) rfl (show _ < 4 by omega) (by decide) dX7_asker_39 ?_
      rw [show mI (tI z 38 0 0) 19 a = mI z 19 a from by simp [tI_mI, tJ_mI, tI_mJ, tJ_mJ, up2]]
      refine lv_if_lt (tgt := 47) hx hb dX7_asker_40 (by decide) (fun c_40 => ?_) (fun c_40 => ?_)
      · refine lv_iconst (v := 0) hx hb dX7_asker_47 (by decide) ?_
        refine lv_istore_n (lv' := [(3, _), (0, _), (1, _), (2, _)]) hx hb dX7_asker_48 rfl hl (by decide) rfl (fun ls hl => ?_)
        refine lv_iload_n hx hb dX7_asker_49 rfl (lv_at hl 3 rfl) ?_
        refine lv_if_ne (tgt := 62) hx hb dX7_asker_50 (by decide) (fun c_ => absurd c_ (by decide)) (fun _ => ?_)
        refine lv_aload_n hx hb dX7_asker_53 rfl (lv_at hl 1 rfl) ?_
        refine gM 15 hx hb hts hX7 hown hK.1 hW (by simp only [tI_mA, tJ_mA]) (by decide) rfl (hts (.fieldLink RX7 54 "SharedRegistersModel" "count" "[I") (by decide +kernel)) rfl dX7_asker_54 ?_
        refine lv_iload_n hx hb dX7_asker_57 rfl (lv_at hl 2 rfl) ?_
        refine mil_n 14 hx hb hK.1 hW (by simp only [tI_mA, tJ_mA]) (by decide) rfl (show _ < 4 by omega) (by decide) dX7_asker_58 ?_
        rw [show mI (tI z 38 0 0) 14 a = mI z 14 a from by simp [tI_mI, tJ_mI, tI_mJ, tJ_mJ, up2]]
        refine lv_goto (tgt := 119) hx hb dX7_asker_59 (by decide) ?_
        refine W.iret hx hb hr ?_ hS.2.2 dX7_asker_119
        refine mq1 ?_ hW hS
        exact Or.inl ⟨a, 0, ha, by decide, rfl, rfl, rfl, rfl⟩
      · refine lv_iconst (v := 1) hx hb dX7_asker_43 (by decide) ?_
        refine lv_goto (tgt := 48) hx hb dX7_asker_44 (by decide) ?_
        refine lv_istore_n (lv' := [(3, _), (0, _), (1, _), (2, _)]) hx hb dX7_asker_48 rfl hl (by decide) rfl (fun ls hl => ?_)
        refine lv_iload_n hx hb dX7_asker_49 rfl (lv_at hl 3 rfl) ?_
        refine lv_if_ne (tgt := 62) hx hb dX7_asker_50 (by decide) (fun c_ => absurd c_ (by decide)) (fun _ => ?_)
        refine lv_aload_n hx hb dX7_asker_53 rfl (lv_at hl 1 rfl) ?_
        refine gM 15 hx hb hts hX7 hown hK.1 hW (by simp only [tI_mA, tJ_mA]) (by decide) rfl (hts (.fieldLink RX7 54 "SharedRegistersModel" "count" "[I") (by decide +kernel)) rfl dX7_asker_54 ?_
        refine lv_iload_n hx hb dX7_asker_57 rfl (lv_at hl 2 rfl) ?_
        refine mil_n 14 hx hb hK.1 hW (by simp only [tI_mA, tJ_mA]) (by decide) rfl (show _ < 4 by omega) (by decide) dX7_asker_58 ?_
        rw [show mI (tI z 38 0 0) 14 a = mI z 14 a from by simp [tI_mI, tJ_mI, tI_mJ, tJ_mJ, up2]]
        refine lv_goto (tgt := 119) hx hb dX7_asker_59 (by decide) ?_
        refine W.iret hx hb hr ?_ hS.2.2 dX7_asker_119
        refine mq1 ?_ hW hS
        exact Or.inl ⟨a, 0, ha, by decide, rfl, rfl, rfl, rfl⟩
    · refine lv_aload_n hx hb dX7_asker_0 rfl (lv_at hl 0 rfl) ?_
      refine lv_iload_n hx hb dX7_asker_1 rfl (lv_at hl 1 rfl) ?_
      refine mc1 (va_runS (As := [.int (nI a)]) (rest := [.ref (mA z 0 0)]) ⟨hx, hb, hml, hown, hts⟩ (m7_noAsker l D y z _ (nI a)) (va_cwS 1 hts gX7_asker_X7_noAsker rfl rfl rfl (by decide +kernel) ⟨Nat.le_of_ble_eq_true rfl, Nat.le_of_ble_eq_true rfl⟩) (mPreS hW hK [.int (nI a)]) rfl rfl hl.1 rfl (lv_room (Nat.le_of_ble_eq_true rfl)) dX7_asker_2 ⟨Nat.le_of_ble_eq_true rfl, Nat.le_of_ble_eq_true rfl⟩) hW hS hA (fun v2 u2 H locs hu2 hW hS => ?_)
      obtain ⟨rfl, f2⟩ := hu2
      replace f2 := f2.symm
      subst f2
      rw [if_pos (show (¬ _ < (0 : Int32) ∧ _ < _) from hR1)]
      refine lv_if_ne (tgt := 17) hx hb dX7_asker_5 (by decide) (fun c_ => absurd c_ (by decide)) (fun _ => ?_)
      refine lv_iload_n hx hb dX7_asker_8 rfl (lv_at hl 2 rfl) ?_
      refine lv_if_lt (tgt := 17) hx hb dX7_asker_9 (by decide) (fun c_ => absurd c_ (by decide)) (fun _ => ?_)
      refine lv_iload_n hx hb dX7_asker_12 rfl (lv_at hl 2 rfl) ?_
      refine lv_iconst (v := 3) hx hb dX7_asker_13 (by decide) ?_
      refine lv_icmp_le (tgt := 21) hx hb dX7_asker_14 (by decide) (fun _ => ?_) (fun c_ => absurd c_ (by decide))
      refine lv_iconst (v := 0) hx hb dX7_asker_21 (by decide) ?_
      refine pM_thrown hx hb hts hX7 hown hK.1 hW hS rfl (hts (.fieldLink RX7 120 "SharedRegistersModel" "thrown" "I") (by decide +kernel)) dX7_asker_22 (fun H locs hW hS => ?_)
      refine lv_aload_n hx hb dX7_asker_25 rfl (lv_at hl 0 rfl) ?_
      refine gM 38 hx hb hts hX7 hown hK.1 hW (by simp only [tI_mA, tJ_mA]) (by decide) rfl (hts (.fieldLink RX7 120 "SharedRegistersModel" "thrown" "I") (by decide +kernel)) rfl dX7_asker_26 ?_
      rw [show mI (tI z 38 0 0) 38 0 = 0 from by simp [tI_mI, tJ_mI, tI_mJ, tJ_mJ, up2]]
      refine lv_if_le (tgt := 34) hx hb dX7_asker_29 (by decide) (fun _ => ?_) (fun c_ => absurd c_ (by decide))
      refine lv_aload_n hx hb dX7_asker_34 rfl (lv_at hl 0 rfl) ?_
      refine gM 20 hx hb hts hX7 hown hK.1 hW (by simp only [tI_mA, tJ_mA]) (by decide) rfl (hts (.fieldLink RX7 69 "SharedRegistersModel" "now" "[I") (by decide +kernel)) rfl dX7_asker_35 ?_
      refine lv_iload_n hx hb dX7_asker_38 rfl (lv_at hl 1 rfl) ?_
      refine mil_n 19 hx hb hK.1 hW (by simp only [tI_mA, tJ_mA]) (by decide) rfl (show _ < 4 by omega) (by decide) dX7_asker_39 ?_
      rw [show mI (tI z 38 0 0) 19 a = mI z 19 a from by simp [tI_mI, tJ_mI, tI_mJ, tJ_mJ, up2]]
      refine lv_if_lt (tgt := 47) hx hb dX7_asker_40 (by decide) (fun c_40 => ?_) (fun c_40 => ?_)
      · refine lv_iconst (v := 0) hx hb dX7_asker_47 (by decide) ?_
        refine lv_istore_n (lv' := [(3, _), (0, _), (1, _), (2, _)]) hx hb dX7_asker_48 rfl hl (by decide) rfl (fun ls hl => ?_)
        refine lv_iload_n hx hb dX7_asker_49 rfl (lv_at hl 3 rfl) ?_
        refine lv_if_ne (tgt := 62) hx hb dX7_asker_50 (by decide) (fun _ => ?_) (fun c_ => absurd c_ (by decide))
        refine lv_iload_n hx hb dX7_asker_62 rfl (lv_at hl 3 rfl) ?_
        refine lv_iconst (v := 1) hx hb dX7_asker_63 (by decide) ?_
        refine lv_icmp_ne (tgt := 76) hx hb dX7_asker_64 (by decide) (fun c_ => absurd c_ (by decide)) (fun _ => ?_)
        refine lv_aload_n hx hb dX7_asker_67 rfl (lv_at hl 1 rfl) ?_
        refine gM 20 hx hb hts hX7 hown hK.1 hW (by simp only [tI_mA, tJ_mA]) (by decide) rfl (hts (.fieldLink RX7 69 "SharedRegistersModel" "now" "[I") (by decide +kernel)) rfl dX7_asker_68 ?_
        refine lv_iload_n hx hb dX7_asker_71 rfl (lv_at hl 2 rfl) ?_
        refine mil_n 19 hx hb hK.1 hW (by simp only [tI_mA, tJ_mA]) (by decide) rfl (show _ < 4 by omega) (by decide) dX7_asker_72 ?_
        rw [show mI (tI z 38 0 0) 19 a = mI z 19 a from by simp [tI_mI, tJ_mI, tI_mJ, tJ_mJ, up2]]
        refine lv_goto (tgt := 119) hx hb dX7_asker_73 (by decide) ?_
        refine W.iret hx hb hr ?_ hS.2.2 dX7_asker_119
        refine mq1 ?_ hW hS
        exact Or.inl ⟨a, 1, ha, by decide, rfl, rfl, rfl, rfl⟩
      · refine lv_iconst (v := 1) hx hb dX7_asker_43 (by decide) ?_
        refine lv_goto (tgt := 48) hx hb dX7_asker_44 (by decide) ?_
        refine lv_istore_n (lv' := [(3, _), (0, _), (1, _), (2, _)]) hx hb dX7_asker_48 rfl hl (by decide) rfl (fun ls hl => ?_)
        refine lv_iload_n hx hb dX7_asker_49 rfl (lv_at hl 3 rfl) ?_
        refine lv_if_ne (tgt := 62) hx hb dX7_asker_50 (by decide) (fun _ => ?_) (fun c_ => absurd c_ (by decide))
        refine lv_iload_n hx hb dX7_asker_62 rfl (lv_at hl 3 rfl) ?_
        refine lv_iconst (v := 1) hx hb dX7_asker_63 (by decide) ?_
        refine lv_icmp_ne (tgt := 76) hx hb dX7_asker_64 (by decide) (fun c_ => absurd c_ (by decide)) (fun _ => ?_)
        refine lv_aload_n hx hb dX7_asker_67 rfl (lv_at hl 1 rfl) ?_
        refine gM 20 hx hb hts hX7 hown hK.1 hW (by simp only [tI_mA, tJ_mA]) (by decide) rfl (hts (.fieldLink RX7 69 "SharedRegistersModel" "now" "[I") (by decide +kernel)) rfl dX7_asker_68 ?_
        refine lv_iload_n hx hb dX7_asker_71 rfl (lv_at hl 2 rfl) ?_
        refine mil_n 19 hx hb hK.1 hW (by simp only [tI_mA, tJ_mA]) (by decide) rfl (show _ < 4 by omega) (by decide) dX7_asker_72 ?_
        rw [show mI (tI z 38 0 0) 19 a = mI z 19 a from by simp [tI_mI, tJ_mI, tI_mJ, tJ_mJ, up2]]
        refine lv_goto (tgt := 119) hx hb dX7_asker_73 (by decide) ?_
        refine W.iret hx hb hr ?_ hS.2.2 dX7_asker_119
        refine mq1 ?_ hW hS
        exact Or.inl ⟨a, 1, ha, by decide, rfl, rfl, rfl, rfl⟩
    · refine lv_aload_n hx hb dX7_asker_0 rfl (lv_at hl 0 rfl) ?_
      refine lv_iload_n hx hb dX7_asker_1 rfl (lv_at hl 1 rfl) ?_
      refine mc1 (va_runS (As := [.int (nI a)]) (rest := [.ref (mA z 0 0)]) ⟨hx, hb, hml, hown, hts⟩ (m7_noAsker l D y z _ (nI a)) (va_cwS 1 hts gX7_asker_X7_noAsker rfl rfl rfl (by decide +kernel) ⟨Nat.le_of_ble_eq_true rfl, Nat.le_of_ble_eq_true rfl⟩) (mPreS hW hK [.int (nI a)]) rfl rfl hl.1 rfl (lv_room (Nat.le_of_ble_eq_true rfl)) dX7_asker_2 ⟨Nat.le_of_ble_eq_true rfl, Nat.le_of_ble_eq_true rfl⟩) hW hS hA (fun v2 u2 H locs hu2 hW hS => ?_)
      obtain ⟨rfl, f2⟩ := hu2
      replace f2 := f2.symm
      subst f2
      rw [if_pos (show (¬ _ < (0 : Int32) ∧ _ < _) from hR1)]
      refine lv_if_ne (tgt := 17) hx hb dX7_asker_5 (by decide) (fun c_ => absurd c_ (by decide)) (fun _ => ?_)
      refine lv_iload_n hx hb dX7_asker_8 rfl (lv_at hl 2 rfl) ?_
      refine lv_if_lt (tgt := 17) hx hb dX7_asker_9 (by decide) (fun c_ => absurd c_ (by decide)) (fun _ => ?_)
      refine lv_iload_n hx hb dX7_asker_12 rfl (lv_at hl 2 rfl) ?_
      refine lv_iconst (v := 3) hx hb dX7_asker_13 (by decide) ?_
      refine lv_icmp_le (tgt := 21) hx hb dX7_asker_14 (by decide) (fun _ => ?_) (fun c_ => absurd c_ (by decide))
      refine lv_iconst (v := 0) hx hb dX7_asker_21 (by decide) ?_
      refine pM_thrown hx hb hts hX7 hown hK.1 hW hS rfl (hts (.fieldLink RX7 120 "SharedRegistersModel" "thrown" "I") (by decide +kernel)) dX7_asker_22 (fun H locs hW hS => ?_)
      refine lv_aload_n hx hb dX7_asker_25 rfl (lv_at hl 0 rfl) ?_
      refine gM 38 hx hb hts hX7 hown hK.1 hW (by simp only [tI_mA, tJ_mA]) (by decide) rfl (hts (.fieldLink RX7 120 "SharedRegistersModel" "thrown" "I") (by decide +kernel)) rfl dX7_asker_26 ?_
      rw [show mI (tI z 38 0 0) 38 0 = 0 from by simp [tI_mI, tJ_mI, tI_mJ, tJ_mJ, up2]]
      refine lv_if_le (tgt := 34) hx hb dX7_asker_29 (by decide) (fun _ => ?_) (fun c_ => absurd c_ (by decide))
      refine lv_aload_n hx hb dX7_asker_34 rfl (lv_at hl 0 rfl) ?_
      refine gM 20 hx hb hts hX7 hown hK.1 hW (by simp only [tI_mA, tJ_mA]) (by decide) rfl (hts (.fieldLink RX7 69 "SharedRegistersModel" "now" "[I") (by decide +kernel)) rfl dX7_asker_35 ?_
      refine lv_iload_n hx hb dX7_asker_38 rfl (lv_at hl 1 rfl) ?_
      refine mil_n 19 hx hb hK.1 hW (by simp only [tI_mA, tJ_mA]) (by decide) rfl (show _ < 4 by omega) (by decide) dX7_asker_39 ?_
      rw [show mI (tI z 38 0 0) 19 a = mI z 19 a from by simp [tI_mI, tJ_mI, tI_mJ, tJ_mJ, up2]]
      refine lv_if_lt (tgt := 47) hx hb dX7_asker_40 (by decide) (fun c_40 => ?_) (fun c_40 => ?_)
      · refine lv_iconst (v := 0) hx hb dX7_asker_47 (by decide) ?_
        refine lv_istore_n (lv' := [(3, _), (0, _), (1, _), (2, _)]) hx hb dX7_asker_48 rfl hl (by decide) rfl (fun ls hl => ?_)
        refine lv_iload_n hx hb dX7_asker_49 rfl (lv_at hl 3 rfl) ?_
        refine lv_if_ne (tgt := 62) hx hb dX7_asker_50 (by decide) (fun _ => ?_) (fun c_ => absurd c_ (by decide))
        refine lv_iload_n hx hb dX7_asker_62 rfl (lv_at hl 3 rfl) ?_
        refine lv_iconst (v := 1) hx hb dX7_asker_63 (by decide) ?_
        refine lv_icmp_ne (tgt := 76) hx hb dX7_asker_64 (by decide) (fun _ => ?_) (fun c_ => absurd c_ (by decide))
        refine lv_iload_n hx hb dX7_asker_76 rfl (lv_at hl 3 rfl) ?_
        refine lv_iconst (v := 2) hx hb dX7_asker_77 (by decide) ?_
        refine lv_icmp_ne (tgt := 102) hx hb dX7_asker_78 (by decide) (fun c_ => absurd c_ (by decide)) (fun _ => ?_)
        refine lv_iload_n hx hb dX7_asker_81 rfl (lv_at hl 0 rfl) ?_
        refine lv_if_eq (tgt := 98) hx hb dX7_asker_82 (by decide) (fun _ => ?_) (fun c_ => absurd c_ (by decide))
        refine lv_iconst (v := 0) hx hb dX7_asker_98 (by decide) ?_
        refine lv_goto (tgt := 119) hx hb dX7_asker_99 (by decide) ?_
        refine W.iret hx hb hr ?_ hS.2.2 dX7_asker_119
        refine mq1 ?_ hW hS
        exact Or.inl ⟨a, 2, ha, by decide, rfl, rfl, by simp [mAskV, c_40], rfl⟩
      · refine lv_iconst (v := 1) hx hb dX7_asker_43 (by decide) ?_
        refine lv_goto (tgt := 48) hx hb dX7_asker_44 (by decide) ?_
        refine lv_istore_n (lv' := [(3, _), (0, _), (1, _), (2, _)]) hx hb dX7_asker_48 rfl hl (by decide) rfl (fun ls hl => ?_)
        refine lv_iload_n hx hb dX7_asker_49 rfl (lv_at hl 3 rfl) ?_
        refine lv_if_ne (tgt := 62) hx hb dX7_asker_50 (by decide) (fun _ => ?_) (fun c_ => absurd c_ (by decide))
        refine lv_iload_n hx hb dX7_asker_62 rfl (lv_at hl 3 rfl) ?_
        refine lv_iconst (v := 1) hx hb dX7_asker_63 (by decide) ?_
        refine lv_icmp_ne (tgt := 76) hx hb dX7_asker_64 (by decide) (fun _ => ?_) (fun c_ => absurd c_ (by decide))
        refine lv_iload_n hx hb dX7_asker_76 rfl (lv_at hl 3 rfl) ?_
        refine lv_iconst (v := 2) hx hb dX7_asker_77 (by decide) ?_
        refine lv_icmp_ne (tgt := 102) hx hb dX7_asker_78 (by decide) (fun c_ => absurd c_ (by decide)) (fun _ => ?_)
        refine lv_iload_n hx hb dX7_asker_81 rfl (lv_at hl 0 rfl) ?_
        refine lv_if_eq (tgt := 98) hx hb dX7_asker_82 (by decide) (fun c_ => absurd c_ (by decide)) (fun _ => ?_)
        refine lv_aload_n hx hb dX7_asker_85 rfl (lv_at hl 1 rfl) ?_
        refine gM 21 hx hb hts hX7 hown hK.1 hW (by simp only [tI_mA, tJ_mA]) (by decide) rfl (hts (.fieldLink RX7 72 "SharedRegistersModel" "accepting" "[Z") (by decide +kernel)) rfl dX7_asker_86 ?_
        refine lv_iload_n hx hb dX7_asker_89 rfl (lv_at hl 2 rfl) ?_
        refine mzl_n 20 hx hb hK.1 hW (by simp only [tI_mA, tJ_mA]) (by decide) rfl (show _ < 4 by omega) (by decide) dX7_asker_90 ?_
        rw [show mI (tI z 38 0 0) 20 a = mI z 20 a from by simp [tI_mI, tJ_mI, tI_mJ, tJ_mJ, up2]]
        refine lv_if_eq (tgt := 98) hx hb dX7_asker_91 (by decide) (fun c_91 => ?_) (fun c_91 => ?_)
        · refine lv_iconst (v := 0) hx hb dX7_asker_98 (by decide) ?_
          refine lv_goto (tgt := 119) hx hb dX7_asker_99 (by decide) ?_
          refine W.iret hx hb hr ?_ hS.2.2 dX7_asker_119
          refine mq1 ?_ hW hS
          exact Or.inl ⟨a, 2, ha, by decide, rfl, rfl, by simp [mAskV, c_40, c_91], rfl⟩
        · refine lv_iconst (v := 1) hx hb dX7_asker_94 (by decide) ?_
          refine lv_goto (tgt := 119) hx hb dX7_asker_95 (by decide) ?_
          refine W.iret hx hb hr ?_ hS.2.2 dX7_asker_119
          refine mq1 ?_ hW hS
          exact Or.inl ⟨a, 2, ha, by decide, rfl, rfl, by simp [mAskV, c_40, c_91], rfl⟩
    · refine lv_aload_n hx hb dX7_asker_0 rfl (lv_at hl 0 rfl) ?_
      refine lv_iload_n hx hb dX7_asker_1 rfl (lv_at hl 1 rfl) ?_
      refine mc1 (va_runS (As := [.int (nI a)]) (rest := [.ref (mA z 0 0)]) ⟨hx, hb, hml, hown, hts⟩ (m7_noAsker l D y z _ (nI a)) (va_cwS 1 hts gX7_asker_X7_noAsker rfl rfl rfl (by decide +kernel) ⟨Nat.le_of_ble_eq_true rfl, Nat.le_of_ble_eq_true rfl⟩) (mPreS hW hK [.int (nI a)]) rfl rfl hl.1 rfl (lv_room (Nat.le_of_ble_eq_true rfl)) dX7_asker_2 ⟨Nat.le_of_ble_eq_true rfl, Nat.le_of_ble_eq_true rfl⟩) hW hS hA (fun v2 u2 H locs hu2 hW hS => ?_)
      obtain ⟨rfl, f2⟩ := hu2
      replace f2 := f2.symm
      subst f2
      rw [if_pos (show (¬ _ < (0 : Int32) ∧ _ < _) from hR1)]
      refine lv_if_ne (tgt := 17) hx hb dX7_asker_5 (by decide) (fun c_ => absurd c_ (by decide)) (fun _ => ?_)
      refine lv_iload_n hx hb dX7_asker_8 rfl (lv_at hl 2 rfl) ?_
      refine lv_if_lt (tgt := 17) hx hb dX7_asker_9 (by decide) (fun c_ => absurd c_ (by decide)) (fun _ => ?_)
      refine lv_iload_n hx hb dX7_asker_12 rfl (lv_at hl 2 rfl) ?_
      refine lv_iconst (v := 3) hx hb dX7_asker_13 (by decide) ?_
      refine lv_icmp_le (tgt := 21) hx hb dX7_asker_14 (by decide) (fun _ => ?_) (fun c_ => absurd c_ (by decide))
      refine lv_iconst (v := 0) hx hb dX7_asker_21 (by decide) ?_
      refine pM_thrown hx hb hts hX7 hown hK.1 hW hS rfl (hts (.fieldLink RX7 120 "SharedRegistersModel" "thrown" "I") (by decide +kernel)) dX7_asker_22 (fun H locs hW hS => ?_)
      refine lv_aload_n hx hb dX7_asker_25 rfl (lv_at hl 0 rfl) ?_
      refine gM 38 hx hb hts hX7 hown hK.1 hW (by simp only [tI_mA, tJ_mA]) (by decide) rfl (hts (.fieldLink RX7 120 "SharedRegistersModel" "thrown" "I") (by decide +kernel)) rfl dX7_asker_26 ?_
      rw [show mI (tI z 38 0 0) 38 0 = 0 from by simp [tI_mI, tJ_mI, tI_mJ, tJ_mJ, up2]]
      refine lv_if_le (tgt := 34) hx hb dX7_asker_29 (by decide) (fun _ => ?_) (fun c_ => absurd c_ (by decide))
      refine lv_aload_n hx hb dX7_asker_34 rfl (lv_at hl 0 rfl) ?_
      refine gM 20 hx hb hts hX7 hown hK.1 hW (by simp only [tI_mA, tJ_mA]) (by decide) rfl (hts (.fieldLink RX7 69 "SharedRegistersModel" "now" "[I") (by decide +kernel)) rfl dX7_asker_35 ?_
      refine lv_iload_n hx hb dX7_asker_38 rfl (lv_at hl 1 rfl) ?_
      refine mil_n 19 hx hb hK.1 hW (by simp only [tI_mA, tJ_mA]) (by decide) rfl (show _ < 4 by omega) (by decide) dX7_asker_39 ?_
      rw [show mI (tI z 38 0 0) 19 a = mI z 19 a from by simp [tI_mI, tJ_mI, tI_mJ, tJ_mJ, up2]]
      refine lv_if_lt (tgt := 47) hx hb dX7_asker_40 (by decide) (fun c_40 => ?_) (fun c_40 => ?_)
      · refine lv_iconst (v := 0) hx hb dX7_asker_47 (by decide) ?_
        refine lv_istore_n (lv' := [(3, _), (0, _), (1, _), (2, _)]) hx hb dX7_asker_48 rfl hl (by decide) rfl (fun ls hl => ?_)
        refine lv_iload_n hx hb dX7_asker_49 rfl (lv_at hl 3 rfl) ?_
        refine lv_if_ne (tgt := 62) hx hb dX7_asker_50 (by decide) (fun _ => ?_) (fun c_ => absurd c_ (by decide))
        refine lv_iload_n hx hb dX7_asker_62 rfl (lv_at hl 3 rfl) ?_
        refine lv_iconst (v := 1) hx hb dX7_asker_63 (by decide) ?_
        refine lv_icmp_ne (tgt := 76) hx hb dX7_asker_64 (by decide) (fun _ => ?_) (fun c_ => absurd c_ (by decide))
        refine lv_iload_n hx hb dX7_asker_76 rfl (lv_at hl 3 rfl) ?_
        refine lv_iconst (v := 2) hx hb dX7_asker_77 (by decide) ?_
        refine lv_icmp_ne (tgt := 102) hx hb dX7_asker_78 (by decide) (fun _ => ?_) (fun c_ => absurd c_ (by decide))
        refine lv_iload_n hx hb dX7_asker_102 rfl (lv_at hl 0 rfl) ?_
        refine lv_if_eq (tgt := 118) hx hb dX7_asker_103 (by decide) (fun _ => ?_) (fun c_ => absurd c_ (by decide))
        refine lv_iconst (v := 0) hx hb dX7_asker_118 (by decide) ?_
        refine W.iret hx hb hr ?_ hS.2.2 dX7_asker_119
        refine mq1 ?_ hW hS
        exact Or.inl ⟨a, 3, ha, by decide, rfl, rfl, by simp [mAskV, c_40], rfl⟩
      · refine lv_iconst (v := 1) hx hb dX7_asker_43 (by decide) ?_
        refine lv_goto (tgt := 48) hx hb dX7_asker_44 (by decide) ?_
        refine lv_istore_n (lv' := [(3, _), (0, _), (1, _), (2, _)]) hx hb dX7_asker_48 rfl hl (by decide) rfl (fun ls hl => ?_)
        refine lv_iload_n hx hb dX7_asker_49 rfl (lv_at hl 3 rfl) ?_
        refine lv_if_ne (tgt := 62) hx hb dX7_asker_50 (by decide) (fun _ => ?_) (fun c_ => absurd c_ (by decide))
        refine lv_iload_n hx hb dX7_asker_62 rfl (lv_at hl 3 rfl) ?_
        refine lv_iconst (v := 1) hx hb dX7_asker_63 (by decide) ?_
        refine lv_icmp_ne (tgt := 76) hx hb dX7_asker_64 (by decide) (fun _ => ?_) (fun c_ => absurd c_ (by decide))
        refine lv_iload_n hx hb dX7_asker_76 rfl (lv_at hl 3 rfl) ?_
        refine lv_iconst (v := 2) hx hb dX7_asker_77 (by decide) ?_
        refine lv_icmp_ne (tgt := 102) hx hb dX7_asker_78 (by decide) (fun _ => ?_) (fun c_ => absurd c_ (by decide))
        refine lv_iload_n hx hb dX7_asker_102 rfl (lv_at hl 0 rfl) ?_
        refine lv_if_eq (tgt := 118) hx hb dX7_asker_103 (by decide) (fun c_ => absurd c_ (by decide)) (fun _ => ?_)
        refine lv_aload_n hx hb dX7_asker_106 rfl (lv_at hl 1 rfl) ?_
        refine gM 22 hx hb hts hX7 hown hK.1 hW (by simp only [tI_mA, tJ_mA]) (by decide) rfl (hts (.fieldLink RX7 75 "SharedRegistersModel" "answered" "[I") (by decide +kernel)) rfl dX7_asker_107 ?_
        refine lv_iload_n hx hb dX7_asker_110 rfl (lv_at hl 2 rfl) ?_
        refine mil_n 21 hx hb hK.1 hW (by simp only [tI_mA, tJ_mA]) (by decide) rfl (show _ < 4 by omega) (by decide) dX7_asker_111 ?_
        rw [show mI (tI z 38 0 0) 21 a = mI z 21 a from by simp [tI_mI, tJ_mI, tI_mJ, tJ_mJ, up2]]
        refine mc1 (va_runS (As := [.int (mI z 21 a)]) (rest := []) ⟨hx, hb, hml, hown, hts⟩ (m7_bits l D y (tI z 38 0 0) _ (mI z 21 a)) (va_cwS 1 hts gX7_asker_X7_bits rfl rfl rfl (by decide +kernel) ⟨Nat.le_of_ble_eq_true rfl, Nat.le_of_ble_eq_true rfl⟩) (mPreS hW hK [.int (mI z 21 a)]) rfl rfl hl.1 rfl (lv_room (Nat.le_of_ble_eq_true rfl)) dX7_asker_112 ⟨Nat.le_of_ble_eq_true rfl, Nat.le_of_ble_eq_true rfl⟩) hW hS hA (fun v112 u112 H locs hu112 hW hS => ?_)
        obtain ⟨rfl, f112⟩ := hu112
        subst f112
        refine lv_goto (tgt := 119) hx hb dX7_asker_115 (by decide) ?_
        refine W.iret hx hb hr ?_ hS.2.2 dX7_asker_119
        refine mq1 ?_ hW hS
        exact Or.inl ⟨a, 3, ha, by decide, rfl, rfl, by simp [mAskV, c_40], rfl⟩
  · by_cases hq0 : inR i 4
    · refine lv_aload_n hx hb dX7_asker_0 rfl (lv_at hl 0 rfl) ?_
      refine lv_iload_n hx hb dX7_asker_1 rfl (lv_at hl 1 rfl) ?_
      refine mc1 (va_runS (As := [.int i]) (rest := [.ref (mA z 0 0)]) ⟨hx, hb, hml, hown, hts⟩ (m7_noAsker l D y z _ i) (va_cwS 1 hts gX7_asker_X7_noAsker rfl rfl rfl (by decide +kernel) ⟨Nat.le_of_ble_eq_true rfl, Nat.le_of_ble_eq_true rfl⟩) (mPreS hW hK [.int i]) rfl rfl hl.1 rfl (lv_room (Nat.le_of_ble_eq_true rfl)) dX7_asker_2 ⟨Nat.le_of_ble_eq_true rfl, Nat.le_of_ble_eq_true rfl⟩) hW hS hA (fun v2 u2 H locs hu2 hW hS => ?_)
      obtain ⟨rfl, f2⟩ := hu2
      replace f2 := f2.symm
      subst f2
      rw [if_pos (show (¬ _ < (0 : Int32) ∧ _ < _) from hq0)]
      refine lv_if_ne (tgt := 17) hx hb dX7_asker_5 (by decide) (fun c_ => absurd c_ (by decide)) (fun _ => ?_)
      refine lv_iload_n hx hb dX7_asker_8 rfl (lv_at hl 2 rfl) ?_
      refine lv_if_lt (tgt := 17) hx hb dX7_asker_9 (by decide) (fun c_9 => ?_) (fun c_9 => ?_)
      · refine lv_iconst (v := 1) hx hb dX7_asker_17 (by decide) ?_
        refine lv_goto (tgt := 22) hx hb dX7_asker_18 (by decide) ?_
        refine pM_thrown hx hb hts hX7 hown hK.1 hW hS rfl (hts (.fieldLink RX7 120 "SharedRegistersModel" "thrown" "I") (by decide +kernel)) dX7_asker_22 (fun H locs hW hS => ?_)
        refine lv_aload_n hx hb dX7_asker_25 rfl (lv_at hl 0 rfl) ?_
        refine gM 38 hx hb hts hX7 hown hK.1 hW (by simp only [tI_mA, tJ_mA]) (by decide) rfl (hts (.fieldLink RX7 120 "SharedRegistersModel" "thrown" "I") (by decide +kernel)) rfl dX7_asker_26 ?_
        rw [show mI (tI z 38 0 1) 38 0 = 1 from by simp [tI_mI, tJ_mI, tI_mJ, tJ_mJ, up2]]
        refine lv_if_le (tgt := 34) hx hb dX7_asker_29 (by decide) (fun c_ => absurd c_ (by decide)) (fun _ => ?_)
        refine lv_iconst (v := 0) hx hb dX7_asker_32 (by decide) ?_
        refine W.iret hx hb hr ?_ hS.2.2 dX7_asker_33
        refine mq1 ?_ hW hS
        exact Or.inr ⟨hok, rfl, rfl⟩
      · refine lv_iload_n hx hb dX7_asker_12 rfl (lv_at hl 2 rfl) ?_
        refine lv_iconst (v := 3) hx hb dX7_asker_13 (by decide) ?_
        refine lv_icmp_le (tgt := 21) hx hb dX7_asker_14 (by decide) (fun c_14 => ?_) (fun c_14 => ?_)
        · exact absurd ⟨hq0, c_9, le_lt c_14 (by decide)⟩ hok
        · refine lv_iconst (v := 1) hx hb dX7_asker_17 (by decide) ?_
          refine lv_goto (tgt := 22) hx hb dX7_asker_18 (by decide) ?_
          refine pM_thrown hx hb hts hX7 hown hK.1 hW hS rfl (hts (.fieldLink RX7 120 "SharedRegistersModel" "thrown" "I") (by decide +kernel)) dX7_asker_22 (fun H locs hW hS => ?_)
          refine lv_aload_n hx hb dX7_asker_25 rfl (lv_at hl 0 rfl) ?_
          refine gM 38 hx hb hts hX7 hown hK.1 hW (by simp only [tI_mA, tJ_mA]) (by decide) rfl (hts (.fieldLink RX7 120 "SharedRegistersModel" "thrown" "I") (by decide +kernel)) rfl dX7_asker_26 ?_
          rw [show mI (tI z 38 0 1) 38 0 = 1 from by simp [tI_mI, tJ_mI, tI_mJ, tJ_mJ, up2]]
          refine lv_if_le (tgt := 34) hx hb dX7_asker_29 (by decide) (fun c_ => absurd c_ (by decide)) (fun _ => ?_)
          refine lv_iconst (v := 0) hx hb dX7_asker_32 (by decide) ?_
          refine W.iret hx hb hr ?_ hS.2.2 dX7_asker_33
          refine mq1 ?_ hW hS
          exact Or.inr ⟨hok, rfl, rfl⟩
    · refine lv_aload_n hx hb dX7_asker_0 rfl (lv_at hl 0 rfl) ?_
      refine lv_iload_n hx hb dX7_asker_1 rfl (lv_at hl 1 rfl) ?_
      refine mc1 (va_runS (As := [.int i]) (rest := [.ref (mA z 0 0)]) ⟨hx, hb, hml, hown, hts⟩ (m7_noAsker l D y z _ i) (va_cwS 1 hts gX7_asker_X7_noAsker rfl rfl rfl (by decide +kernel) ⟨Nat.le_of_ble_eq_true rfl, Nat.le_of_ble_eq_true rfl⟩) (mPreS hW hK [.int i]) rfl rfl hl.1 rfl (lv_room (Nat.le_of_ble_eq_true rfl)) dX7_asker_2 ⟨Nat.le_of_ble_eq_true rfl, Nat.le_of_ble_eq_true rfl⟩) hW hS hA (fun v2 u2 H locs hu2 hW hS => ?_)
      obtain ⟨rfl, f2⟩ := hu2
      replace f2 := f2.symm
      subst f2
      rw [if_neg (show ¬ (¬ _ < (0 : Int32) ∧ _ < _) from hq0)]
      refine lv_if_ne (tgt := 17) hx hb dX7_asker_5 (by decide) (fun _ => ?_) (fun c_ => absurd c_ (by decide))
      refine lv_iconst (v := 1) hx hb dX7_asker_17 (by decide) ?_
      refine lv_goto (tgt := 22) hx hb dX7_asker_18 (by decide) ?_
      refine pM_thrown hx hb hts hX7 hown hK.1 hW hS rfl (hts (.fieldLink RX7 120 "SharedRegistersModel" "thrown" "I") (by decide +kernel)) dX7_asker_22 (fun H locs hW hS => ?_)
      refine lv_aload_n hx hb dX7_asker_25 rfl (lv_at hl 0 rfl) ?_
      refine gM 38 hx hb hts hX7 hown hK.1 hW (by simp only [tI_mA, tJ_mA]) (by decide) rfl (hts (.fieldLink RX7 120 "SharedRegistersModel" "thrown" "I") (by decide +kernel)) rfl dX7_asker_26 ?_
      rw [show mI (tI z 38 0 1) 38 0 = 1 from by simp [tI_mI, tJ_mI, tI_mJ, tJ_mJ, up2]]
      refine lv_if_le (tgt := 34) hx hb dX7_asker_29 (by decide) (fun c_ => absurd c_ (by decide)) (fun _ => ?_)
      refine lv_iconst (v := 0) hx hb dX7_asker_32 (by decide) ?_
      refine W.iret hx hb hr ?_ hS.2.2 dX7_asker_33
      refine mq1 ?_ hW hS
      exact Or.inr ⟨hok, rfl, rfl⟩
def mReqV (z : MS) (r w : Nat) : Int32 := match w with
  | 0 => mI z 31 r
  | 1 => if mI z 31 r = 1 then (if mI z 32 r = 0 then 0 else 1) else 0
  | 2 => if mI z 31 r = 1 then (if mI z 33 r = 0 then -1 else mI z 34 r) else -1
  | _ => mI z 30 r
set_option maxHeartbeats 4000000 in
set_option maxRecDepth 100000 in
theorem m7_request (l : Launch) (D : va_G) (y : Nat → ClassId) (z : MS) (sz : Nat) (i wh : Int32) (q : Nat) (hq : mI z 37 0 = nI q) (hq200 : q ≤ 200) : Met l yX7_request wsX7_request ({ frames := 1, cells := 0, slots := 0, locals := 40 }) (va_Pc [.ref (mA z 0 0), .int i, .int wh] (mPre D y z sz)) (mQ1 D y z sz (fun v u => (∃ r w, r < q ∧ w < 4 ∧ i = nI r ∧ wh = nI w ∧ v = .int (mReqV z r w) ∧ u = tI z 38 0 0) ∨ (¬ (inR i (nI q) ∧ inR wh 4) ∧ v = .int 0 ∧ u = tI z 38 0 1))) 0 0 (mF z sz) := by
  refine Met.ofW (cc := cX7_request) (maxL := 4) (ret := (some .int)) (by decide) rfl ?_
  intro p e s m args below meth c s₁ B hml hv
  obtain ⟨rfl, hsz, hW0, hK⟩ := hv
  have hx := B.exec
  have hb := B.bytes
  have hr := B.returns
  have hts := atoms_spec (ws := wsX7_request) B.pre
  have hown : s.vm.findClass RX7 = some m.cls := findClass_of_methodNamed B.named
  have hlocks := B.notSynchronized
  subst hsz
  have hW := hW0.self (sz := s.heap.size)
  have hA : ∀ q, s.heap.size ≤ q → mF z s.heap.size q := fun q h => Or.inr h
  have hS : va_S (mF z s.heap.size) s.heap s.heap [] := va_S.rf
  have hl := lv_entry ([.ref (mA z 0 0), .int i, .int wh]) (n := 4) (Nat.le_of_ble_eq_true rfl)
  rw [lg_entry_eq]
  generalize (lg_sl ([.ref (mA z 0 0), .int i, .int wh]) ++ List.replicate (4 - (lg_sl ([.ref (mA z 0 0), .int i, .int wh])).length) Slot.unset).toArray = ls at hl ⊢
  have hl : lv_has ls 4 [(0, .ref (mA z 0 0)), (1, .int i), (2, .int wh)] := hl
  have hX7 : ∀ w ∈ wsX70, w ∈ wsX7_request := by decide +kernel
  by_cases hok : inR i (nI q) ∧ inR wh 4
  · obtain ⟨hR1, hwh⟩ := hok
    obtain ⟨r, hr0, rfl⟩ := inR_nat (n := q) hR1 (by omega)
    obtain ⟨w9, hw9, rfl⟩ := inR_nat (n := 4) hwh (by decide)
    rcases (show w9 = 0 ∨ w9 = 1 ∨ w9 = 2 ∨ w9 = 3 by omega) with rfl | rfl | rfl | rfl
    · refine lv_aload_n hx hb dX7_request_0 rfl (lv_at hl 0 rfl) ?_
      refine lv_aload_n hx hb dX7_request_1 rfl (lv_at hl 0 rfl) ?_
      refine lv_iload_n hx hb dX7_request_2 rfl (lv_at hl 1 rfl) ?_
      refine mc1 (va_runV (As := [.int (nI r)]) (rest := [.ref (mA z 0 0)]) ⟨hx, hb, hml, hown, hts⟩ (m7_noRequest l D y z _ (nI r)) (cwV 1 hts gX7_request_X7_noRequest rfl rfl rfl (by decide +kernel) ⟨Nat.le_of_ble_eq_true rfl, Nat.le_of_ble_eq_true rfl⟩) (mPreV (k := 0) (q := (RX7, TX7, 39)) hW hK (show 0 < 1 from Nat.zero_lt_one) rfl rfl [.int (nI r)]) rfl rfl hl.1 rfl (lv_room (Nat.le_of_ble_eq_true rfl)) dX7_request_3 ⟨Nat.le_of_ble_eq_true rfl, Nat.le_of_ble_eq_true rfl⟩) hW hS hA (fun v3 u3 H locs hu3 hW hS => ?_)
      obtain ⟨rfl, f3⟩ := hu3
      replace f3 := f3.symm
      subst f3
      rw [hq]
      rw [if_pos (show (¬ _ < (0 : Int32) ∧ _ < _) from hR1)]
      refine lv_if_ne (tgt := 18) hx hb dX7_request_6 (by decide) (fun c_ => absurd c_ (by decide)) (fun _ => ?_)
      refine lv_iload_n hx hb dX7_request_9 rfl (lv_at hl 2 rfl) ?_
      refine lv_if_lt (tgt := 18) hx hb dX7_request_10 (by decide) (fun c_ => absurd c_ (by decide)) (fun _ => ?_)
      refine lv_iload_n hx hb dX7_request_13 rfl (lv_at hl 2 rfl) ?_
      refine lv_iconst (v := 3) hx hb dX7_request_14 (by decide) ?_
      refine lv_icmp_le (tgt := 22) hx hb dX7_request_15 (by decide) (fun _ => ?_) (fun c_ => absurd c_ (by decide))
      refine lv_iconst (v := 0) hx hb dX7_request_22 (by decide) ?_
      refine pM_thrown hx hb hts hX7 hown hK.1 hW hS rfl (hts (.fieldLink RX7 120 "SharedRegistersModel" "thrown" "I") (by decide +kernel)) dX7_request_23 (fun H locs hW hS => ?_)
      refine lv_aload_n hx hb dX7_request_26 rfl (lv_at hl 0 rfl) ?_
      refine gM 38 hx hb hts hX7 hown hK.1 hW (by simp only [tI_mA, tJ_mA]) (by decide) rfl (hts (.fieldLink RX7 120 "SharedRegistersModel" "thrown" "I") (by decide +kernel)) rfl dX7_request_27 ?_
      rw [show mI (tI z 38 0 0) 38 0 = 0 from by simp [tI_mI, tJ_mI, tI_mJ, tJ_mJ, up2]]
      refine lv_if_le (tgt := 35) hx hb dX7_request_30 (by decide) (fun _ => ?_) (fun c_ => absurd c_ (by decide))
      refine lv_aload_n hx hb dX7_request_35 rfl (lv_at hl 0 rfl) ?_
      refine gM 33 hx hb hts hX7 hown hK.1 hW (by simp only [tI_mA, tJ_mA]) (by decide) rfl (hts (.fieldLink RX7 105 "SharedRegistersModel" "ended" "[I") (by decide +kernel)) rfl dX7_request_36 ?_
      refine lv_iload_n hx hb dX7_request_39 rfl (lv_at hl 1 rfl) ?_
      refine mil_n 31 hx hb hK.1 hW (by simp only [tI_mA, tJ_mA]) (by decide) rfl (show _ < 200 by omega) (by decide) dX7_request_40 ?_
      rw [show mI (tI z 38 0 0) 31 r = mI z 31 r from by simp [tI_mI, tJ_mI, tI_mJ, tJ_mJ, up2]]
      refine lv_iconst (v := 1) hx hb dX7_request_41 (by decide) ?_
      refine lv_icmp_ne (tgt := 49) hx hb dX7_request_42 (by decide) (fun c_42 => ?_) (fun c_42 => ?_)
      · refine lv_iconst (v := 0) hx hb dX7_request_49 (by decide) ?_
        refine lv_istore_n (lv' := [(3, _), (0, _), (1, _), (2, _)]) hx hb dX7_request_50 rfl hl (by decide) rfl (fun ls hl => ?_)
        refine lv_iload_n hx hb dX7_request_51 rfl (lv_at hl 3 rfl) ?_
        refine lv_if_ne (tgt := 64) hx hb dX7_request_52 (by decide) (fun c_ => absurd c_ (by decide)) (fun _ => ?_)
        refine lv_aload_n hx hb dX7_request_55 rfl (lv_at hl 1 rfl) ?_
        refine gM 33 hx hb hts hX7 hown hK.1 hW (by simp only [tI_mA, tJ_mA]) (by decide) rfl (hts (.fieldLink RX7 105 "SharedRegistersModel" "ended" "[I") (by decide +kernel)) rfl dX7_request_56 ?_
        refine lv_iload_n hx hb dX7_request_59 rfl (lv_at hl 2 rfl) ?_
        refine mil_n 31 hx hb hK.1 hW (by simp only [tI_mA, tJ_mA]) (by decide) rfl (show _ < 200 by omega) (by decide) dX7_request_60 ?_
        rw [show mI (tI z 38 0 0) 31 r = mI z 31 r from by simp [tI_mI, tJ_mI, tI_mJ, tJ_mJ, up2]]
        refine lv_goto (tgt := 127) hx hb dX7_request_61 (by decide) ?_
        refine W.iret hx hb hr ?_ hS.2.2 dX7_request_127
        refine mq1 ?_ hW hS
        exact Or.inl ⟨r, 0, hr0, by decide, rfl, rfl, rfl, rfl⟩
      · refine lv_iconst (v := 1) hx hb dX7_request_45 (by decide) ?_
        refine lv_goto (tgt := 50) hx hb dX7_request_46 (by decide) ?_
        refine lv_istore_n (lv' := [(3, _), (0, _), (1, _), (2, _)]) hx hb dX7_request_50 rfl hl (by decide) rfl (fun ls hl => ?_)
        refine lv_iload_n hx hb dX7_request_51 rfl (lv_at hl 3 rfl) ?_
        refine lv_if_ne (tgt := 64) hx hb dX7_request_52 (by decide) (fun c_ => absurd c_ (by decide)) (fun _ => ?_)
        refine lv_aload_n hx hb dX7_request_55 rfl (lv_at hl 1 rfl) ?_
        refine gM 33 hx hb hts hX7 hown hK.1 hW (by simp only [tI_mA, tJ_mA]) (by decide) rfl (hts (.fieldLink RX7 105 "SharedRegistersModel" "ended" "[I") (by decide +kernel)) rfl dX7_request_56 ?_
        refine lv_iload_n hx hb dX7_request_59 rfl (lv_at hl 2 rfl) ?_
        refine mil_n 31 hx hb hK.1 hW (by simp only [tI_mA, tJ_mA]) (by decide) rfl (show _ < 200 by omega) (by decide) dX7_request_60 ?_
        rw [show mI (tI z 38 0 0) 31 r = mI z 31 r from by simp [tI_mI, tJ_mI, tI_mJ, tJ_mJ, up2]]
        refine lv_goto (tgt := 127) hx hb dX7_request_61 (by decide) ?_
        refine W.iret hx hb hr ?_ hS.2.2 dX7_request_127
        refine mq1 ?_ hW hS
        exact Or.inl ⟨r, 0, hr0, by decide, rfl, rfl, rfl, rfl⟩
    · refine lv_aload_n hx hb dX7_request_0 rfl (lv_at hl 0 rfl) ?_
      refine lv_aload_n hx hb dX7_request_1 rfl (lv_at hl 0 rfl) ?_
      refine lv_iload_n hx hb dX7_request_2 rfl (lv_at hl 1 rfl) ?_
      refine mc1 (va_runV (As := [.int (nI r)]) (rest := [.ref (mA z 0 0)]) ⟨hx, hb, hml, hown, hts⟩ (m7_noRequest l D y z _ (nI r)) (cwV 1 hts gX7_request_X7_noRequest rfl rfl rfl (by decide +kernel) ⟨Nat.le_of_ble_eq_true rfl, Nat.le_of_ble_eq_true rfl⟩) (mPreV (k := 0) (q := (RX7, TX7, 39)) hW hK (show 0 < 1 from Nat.zero_lt_one) rfl rfl [.int (nI r)]) rfl rfl hl.1 rfl (lv_room (Nat.le_of_ble_eq_true rfl)) dX7_request_3 ⟨Nat.le_of_ble_eq_true rfl, Nat.le_of_ble_eq_true rfl⟩) hW hS hA (fun v3 u3 H locs hu3 hW hS => ?_)
      obtain ⟨rfl, f3⟩ := hu3
      replace f3 := f3.symm
      subst f3
      rw [hq]
      rw [if_pos (show (¬ _ < (0 : Int32) ∧ _ < _) from hR1)]
      refine lv_if_ne (tgt := 18) hx hb dX7_request_6 (by decide) (fun c_ => absurd c_ (by decide)) (fun _ => ?_)
      refine lv_iload_n hx hb dX7_request_9 rfl (lv_at hl 2 rfl) ?_
      refine lv_if_lt (tgt := 18) hx hb dX7_request_10 (by decide) (fun c_ => absurd c_ (by decide)) (fun _ => ?_)
      refine lv_iload_n hx hb dX7_request_13 rfl (lv_at hl 2 rfl) ?_
      refine lv_iconst (v := 3) hx hb dX7_request_14 (by decide) ?_
      refine lv_icmp_le (tgt := 22) hx hb dX7_request_15 (by decide) (fun _ => ?_) (fun c_ => absurd c_ (by decide))
      refine lv_iconst (v := 0) hx hb dX7_request_22 (by decide) ?_
      refine pM_thrown hx hb hts hX7 hown hK.1 hW hS rfl (hts (.fieldLink RX7 120 "SharedRegistersModel" "thrown" "I") (by decide +kernel)) dX7_request_23 (fun H locs hW hS => ?_)
      refine lv_aload_n hx hb dX7_request_26 rfl (lv_at hl 0 rfl) ?_
      refine gM 38 hx hb hts hX7 hown hK.1 hW (by simp only [tI_mA, tJ_mA]) (by decide) rfl (hts (.fieldLink RX7 120 "SharedRegistersModel" "thrown" "I") (by decide +kernel)) rfl dX7_request_27 ?_
      rw [show mI (tI z 38 0 0) 38 0 = 0 from by simp [tI_mI, tJ_mI, tI_mJ, tJ_mJ, up2]]
      refine lv_if_le (tgt := 35) hx hb dX7_request_30 (by decide) (fun _ => ?_) (fun c_ => absurd c_ (by decide))
      refine lv_aload_n hx hb dX7_request_35 rfl (lv_at hl 0 rfl) ?_
      refine gM 33 hx hb hts hX7 hown hK.1 hW (by simp only [tI_mA, tJ_mA]) (by decide) rfl (hts (.fieldLink RX7 105 "SharedRegistersModel" "ended" "[I") (by decide +kernel)) rfl dX7_request_36 ?_
      refine lv_iload_n hx hb dX7_request_39 rfl (lv_at hl 1 rfl) ?_
      refine mil_n 31 hx hb hK.1 hW (by simp only [tI_mA, tJ_mA]) (by decide) rfl (show _ < 200 by omega) (by decide) dX7_request_40 ?_
      rw [show mI (tI z 38 0 0) 31 r = mI z 31 r from by simp [tI_mI, tJ_mI, tI_mJ, tJ_mJ, up2]]
      refine lv_iconst (v := 1) hx hb dX7_request_41 (by decide) ?_
      refine lv_icmp_ne (tgt := 49) hx hb dX7_request_42 (by decide) (fun c_42 => ?_) (fun c_42 => ?_)
      · refine lv_iconst (v := 0) hx hb dX7_request_49 (by decide) ?_
        refine lv_istore_n (lv' := [(3, _), (0, _), (1, _), (2, _)]) hx hb dX7_request_50 rfl hl (by decide) rfl (fun ls hl => ?_)
        refine lv_iload_n hx hb dX7_request_51 rfl (lv_at hl 3 rfl) ?_
        refine lv_if_ne (tgt := 64) hx hb dX7_request_52 (by decide) (fun _ => ?_) (fun c_ => absurd c_ (by decide))
        refine lv_iload_n hx hb dX7_request_64 rfl (lv_at hl 3 rfl) ?_
        refine lv_iconst (v := 1) hx hb dX7_request_65 (by decide) ?_
        refine lv_icmp_ne (tgt := 90) hx hb dX7_request_66 (by decide) (fun c_ => absurd c_ (by decide)) (fun _ => ?_)
        refine lv_iload_n hx hb dX7_request_69 rfl (lv_at hl 0 rfl) ?_
        refine lv_if_eq (tgt := 86) hx hb dX7_request_70 (by decide) (fun _ => ?_) (fun c_ => absurd c_ (by decide))
        refine lv_iconst (v := 0) hx hb dX7_request_86 (by decide) ?_
        refine lv_goto (tgt := 127) hx hb dX7_request_87 (by decide) ?_
        refine W.iret hx hb hr ?_ hS.2.2 dX7_request_127
        refine mq1 ?_ hW hS
        exact Or.inl ⟨r, 1, hr0, by decide, rfl, rfl, by simp [mReqV, c_42], rfl⟩
      · refine lv_iconst (v := 1) hx hb dX7_request_45 (by decide) ?_
        refine lv_goto (tgt := 50) hx hb dX7_request_46 (by decide) ?_
        refine lv_istore_n (lv' := [(3, _), (0, _), (1, _), (2, _)]) hx hb dX7_request_50 rfl hl (by decide) rfl (fun ls hl => ?_)
        refine lv_iload_n hx hb dX7_request_51 rfl (lv_at hl 3 rfl) ?_
        refine lv_if_ne (tgt := 64) hx hb dX7_request_52 (by decide) (fun _ => ?_) (fun c_ => absurd c_ (by decide))
        refine lv_iload_n hx hb dX7_request_64 rfl (lv_at hl 3 rfl) ?_
        refine lv_iconst (v := 1) hx hb dX7_request_65 (by decide) ?_
        refine lv_icmp_ne (tgt := 90) hx hb dX7_request_66 (by decide) (fun c_ => absurd c_ (by decide)) (fun _ => ?_)
        refine lv_iload_n hx hb dX7_request_69 rfl (lv_at hl 0 rfl) ?_
        refine lv_if_eq (tgt := 86) hx hb dX7_request_70 (by decide) (fun c_ => absurd c_ (by decide)) (fun _ => ?_)
        refine lv_aload_n hx hb dX7_request_73 rfl (lv_at hl 1 rfl) ?_
        refine gM 34 hx hb hts hX7 hown hK.1 hW (by simp only [tI_mA, tJ_mA]) (by decide) rfl (hts (.fieldLink RX7 108 "SharedRegistersModel" "failed" "[Z") (by decide +kernel)) rfl dX7_request_74 ?_
        refine lv_iload_n hx hb dX7_request_77 rfl (lv_at hl 2 rfl) ?_
        refine mzl_n 32 hx hb hK.1 hW (by simp only [tI_mA, tJ_mA]) (by decide) rfl (show _ < 200 by omega) (by decide) dX7_request_78 ?_
        rw [show mI (tI z 38 0 0) 32 r = mI z 32 r from by simp [tI_mI, tJ_mI, tI_mJ, tJ_mJ, up2]]
        refine lv_if_eq (tgt := 86) hx hb dX7_request_79 (by decide) (fun c_79 => ?_) (fun c_79 => ?_)
        · refine lv_iconst (v := 0) hx hb dX7_request_86 (by decide) ?_
          refine lv_goto (tgt := 127) hx hb dX7_request_87 (by decide) ?_
          refine W.iret hx hb hr ?_ hS.2.2 dX7_request_127
          refine mq1 ?_ hW hS
          exact Or.inl ⟨r, 1, hr0, by decide, rfl, rfl, by simp [mReqV, c_42, c_79], rfl⟩
        · refine lv_iconst (v := 1) hx hb dX7_request_82 (by decide) ?_
          refine lv_goto (tgt := 127) hx hb dX7_request_83 (by decide) ?_
          refine W.iret hx hb hr ?_ hS.2.2 dX7_request_127
          refine mq1 ?_ hW hS
          exact Or.inl ⟨r, 1, hr0, by decide, rfl, rfl, by simp [mReqV, c_42, c_79], rfl⟩
    · refine lv_aload_n hx hb dX7_request_0 rfl (lv_at hl 0 rfl) ?_
      refine lv_aload_n hx hb dX7_request_1 rfl (lv_at hl 0 rfl) ?_
      refine lv_iload_n hx hb dX7_request_2 rfl (lv_at hl 1 rfl) ?_
      refine mc1 (va_runV (As := [.int (nI r)]) (rest := [.ref (mA z 0 0)]) ⟨hx, hb, hml, hown, hts⟩ (m7_noRequest l D y z _ (nI r)) (cwV 1 hts gX7_request_X7_noRequest rfl rfl rfl (by decide +kernel) ⟨Nat.le_of_ble_eq_true rfl, Nat.le_of_ble_eq_true rfl⟩) (mPreV (k := 0) (q := (RX7, TX7, 39)) hW hK (show 0 < 1 from Nat.zero_lt_one) rfl rfl [.int (nI r)]) rfl rfl hl.1 rfl (lv_room (Nat.le_of_ble_eq_true rfl)) dX7_request_3 ⟨Nat.le_of_ble_eq_true rfl, Nat.le_of_ble_eq_true rfl⟩) hW hS hA (fun v3 u3 H locs hu3 hW hS => ?_)
      obtain ⟨rfl, f3⟩ := hu3
      replace f3 := f3.symm
      subst f3
      rw [hq]
      rw [if_pos (show (¬ _ < (0 : Int32) ∧ _ < _) from hR1)]
      refine lv_if_ne (tgt := 18) hx hb dX7_request_6 (by decide) (fun c_ => absurd c_ (by decide)) (fun _ => ?_)
      refine lv_iload_n hx hb dX7_request_9 rfl (lv_at hl 2 rfl) ?_
      refine lv_if_lt (tgt := 18) hx hb dX7_request_10 (by decide) (fun c_ => absurd c_ (by decide)) (fun _ => ?_)
      refine lv_iload_n hx hb dX7_request_13 rfl (lv_at hl 2 rfl) ?_
      refine lv_iconst (v := 3) hx hb dX7_request_14 (by decide) ?_
      refine lv_icmp_le (tgt := 22) hx hb dX7_request_15 (by decide) (fun _ => ?_) (fun c_ => absurd c_ (by decide))
      refine lv_iconst (v := 0) hx hb dX7_request_22 (by decide) ?_
      refine pM_thrown hx hb hts hX7 hown hK.1 hW hS rfl (hts (.fieldLink RX7 120 "SharedRegistersModel" "thrown" "I") (by decide +kernel)) dX7_request_23 (fun H locs hW hS => ?_)
      refine lv_aload_n hx hb dX7_request_26 rfl (lv_at hl 0 rfl) ?_
      refine gM 38 hx hb hts hX7 hown hK.1 hW (by simp only [tI_mA, tJ_mA]) (by decide) rfl (hts (.fieldLink RX7 120 "SharedRegistersModel" "thrown" "I") (by decide +kernel)) rfl dX7_request_27 ?_
      rw [show mI (tI z 38 0 0) 38 0 = 0 from by simp [tI_mI, tJ_mI, tI_mJ, tJ_mJ, up2]]
      refine lv_if_le (tgt := 35) hx hb dX7_request_30 (by decide) (fun _ => ?_) (fun c_ => absurd c_ (by decide))
      refine lv_aload_n hx hb dX7_request_35 rfl (lv_at hl 0 rfl) ?_
      refine gM 33 hx hb hts hX7 hown hK.1 hW (by simp only [tI_mA, tJ_mA]) (by decide) rfl (hts (.fieldLink RX7 105 "SharedRegistersModel" "ended" "[I") (by decide +kernel)) rfl dX7_request_36 ?_
      refine lv_iload_n hx hb dX7_request_39 rfl (lv_at hl 1 rfl) ?_
      refine mil_n 31 hx hb hK.1 hW (by simp only [tI_mA, tJ_mA]) (by decide) rfl (show _ < 200 by omega) (by decide) dX7_request_40 ?_
      rw [show mI (tI z 38 0 0) 31 r = mI z 31 r from by simp [tI_mI, tJ_mI, tI_mJ, tJ_mJ, up2]]
      refine lv_iconst (v := 1) hx hb dX7_request_41 (by decide) ?_
      refine lv_icmp_ne (tgt := 49) hx hb dX7_request_42 (by decide) (fun c_42 => ?_) (fun c_42 => ?_)
      · refine lv_iconst (v := 0) hx hb dX7_request_49 (by decide) ?_
        refine lv_istore_n (lv' := [(3, _), (0, _), (1, _), (2, _)]) hx hb dX7_request_50 rfl hl (by decide) rfl (fun ls hl => ?_)
        refine lv_iload_n hx hb dX7_request_51 rfl (lv_at hl 3 rfl) ?_
        refine lv_if_ne (tgt := 64) hx hb dX7_request_52 (by decide) (fun _ => ?_) (fun c_ => absurd c_ (by decide))
        refine lv_iload_n hx hb dX7_request_64 rfl (lv_at hl 3 rfl) ?_
        refine lv_iconst (v := 1) hx hb dX7_request_65 (by decide) ?_
        refine lv_icmp_ne (tgt := 90) hx hb dX7_request_66 (by decide) (fun _ => ?_) (fun c_ => absurd c_ (by decide))
        refine lv_iload_n hx hb dX7_request_90 rfl (lv_at hl 3 rfl) ?_
        refine lv_iconst (v := 2) hx hb dX7_request_91 (by decide) ?_
        refine lv_icmp_ne (tgt := 121) hx hb dX7_request_92 (by decide) (fun c_ => absurd c_ (by decide)) (fun _ => ?_)
        refine lv_iload_n hx hb dX7_request_95 rfl (lv_at hl 0 rfl) ?_
        refine lv_if_eq (tgt := 117) hx hb dX7_request_96 (by decide) (fun _ => ?_) (fun c_ => absurd c_ (by decide))
        refine lv_iconst (v := (-1)) hx hb dX7_request_117 (by decide) ?_
        refine lv_goto (tgt := 127) hx hb dX7_request_118 (by decide) ?_
        refine W.iret hx hb hr ?_ hS.2.2 dX7_request_127
        refine mq1 ?_ hW hS
        exact Or.inl ⟨r, 2, hr0, by decide, rfl, rfl, by simp [mReqV, c_42], rfl⟩
      · refine lv_iconst (v := 1) hx hb dX7_request_45 (by decide) ?_
        refine lv_goto (tgt := 50) hx hb dX7_request_46 (by decide) ?_
        refine lv_istore_n (lv' := [(3, _), (0, _), (1, _), (2, _)]) hx hb dX7_request_50 rfl hl (by decide) rfl (fun ls hl => ?_)
        refine lv_iload_n hx hb dX7_request_51 rfl (lv_at hl 3 rfl) ?_
        refine lv_if_ne (tgt := 64) hx hb dX7_request_52 (by decide) (fun _ => ?_) (fun c_ => absurd c_ (by decide))
        refine lv_iload_n hx hb dX7_request_64 rfl (lv_at hl 3 rfl) ?_
        refine lv_iconst (v := 1) hx hb dX7_request_65 (by decide) ?_
        refine lv_icmp_ne (tgt := 90) hx hb dX7_request_66 (by decide) (fun _ => ?_) (fun c_ => absurd c_ (by decide))
        refine lv_iload_n hx hb dX7_request_90 rfl (lv_at hl 3 rfl) ?_
        refine lv_iconst (v := 2) hx hb dX7_request_91 (by decide) ?_
        refine lv_icmp_ne (tgt := 121) hx hb dX7_request_92 (by decide) (fun c_ => absurd c_ (by decide)) (fun _ => ?_)
        refine lv_iload_n hx hb dX7_request_95 rfl (lv_at hl 0 rfl) ?_
        refine lv_if_eq (tgt := 117) hx hb dX7_request_96 (by decide) (fun c_ => absurd c_ (by decide)) (fun _ => ?_)
        refine lv_aload_n hx hb dX7_request_99 rfl (lv_at hl 1 rfl) ?_
        refine gM 35 hx hb hts hX7 hown hK.1 hW (by simp only [tI_mA, tJ_mA]) (by decide) rfl (hts (.fieldLink RX7 111 "SharedRegistersModel" "isThere" "[Z") (by decide +kernel)) rfl dX7_request_100 ?_
        refine lv_iload_n hx hb dX7_request_103 rfl (lv_at hl 2 rfl) ?_
        refine mzl_n 33 hx hb hK.1 hW (by simp only [tI_mA, tJ_mA]) (by decide) rfl (show _ < 200 by omega) (by decide) dX7_request_104 ?_
        rw [show mI (tI z 38 0 0) 33 r = mI z 33 r from by simp [tI_mI, tJ_mI, tI_mJ, tJ_mJ, up2]]
        refine lv_if_eq (tgt := 117) hx hb dX7_request_105 (by decide) (fun c_105 => ?_) (fun c_105 => ?_)
        · refine lv_iconst (v := (-1)) hx hb dX7_request_117 (by decide) ?_
          refine lv_goto (tgt := 127) hx hb dX7_request_118 (by decide) ?_
          refine W.iret hx hb hr ?_ hS.2.2 dX7_request_127
          refine mq1 ?_ hW hS
          exact Or.inl ⟨r, 2, hr0, by decide, rfl, rfl, by simp [mReqV, c_42, c_105], rfl⟩
        · refine lv_aload_n hx hb dX7_request_108 rfl (lv_at hl 1 rfl) ?_
          refine gM 36 hx hb hts hX7 hown hK.1 hW (by simp only [tI_mA, tJ_mA]) (by decide) rfl (hts (.fieldLink RX7 114 "SharedRegistersModel" "endVersion" "[I") (by decide +kernel)) rfl dX7_request_109 ?_
          refine lv_iload_n hx hb dX7_request_112 rfl (lv_at hl 2 rfl) ?_
          refine mil_n 34 hx hb hK.1 hW (by simp only [tI_mA, tJ_mA]) (by decide) rfl (show _ < 200 by omega) (by decide) dX7_request_113 ?_
          rw [show mI (tI z 38 0 0) 34 r = mI z 34 r from by simp [tI_mI, tJ_mI, tI_mJ, tJ_mJ, up2]]
          refine lv_goto (tgt := 127) hx hb dX7_request_114 (by decide) ?_
          refine W.iret hx hb hr ?_ hS.2.2 dX7_request_127
          refine mq1 ?_ hW hS
          exact Or.inl ⟨r, 2, hr0, by decide, rfl, rfl, by simp [mReqV, c_42, c_105], rfl⟩
    · refine lv_aload_n hx hb dX7_request_0 rfl (lv_at hl 0 rfl) ?_
      refine lv_aload_n hx hb dX7_request_1 rfl (lv_at hl 0 rfl) ?_
      refine lv_iload_n hx hb dX7_request_2 rfl (lv_at hl 1 rfl) ?_
      refine mc1 (va_runV (As := [.int (nI r)]) (rest := [.ref (mA z 0 0)]) ⟨hx, hb, hml, hown, hts⟩ (m7_noRequest l D y z _ (nI r)) (cwV 1 hts gX7_request_X7_noRequest rfl rfl rfl (by decide +kernel) ⟨Nat.le_of_ble_eq_true rfl, Nat.le_of_ble_eq_true rfl⟩) (mPreV (k := 0) (q := (RX7, TX7, 39)) hW hK (show 0 < 1 from Nat.zero_lt_one) rfl rfl [.int (nI r)]) rfl rfl hl.1 rfl (lv_room (Nat.le_of_ble_eq_true rfl)) dX7_request_3 ⟨Nat.le_of_ble_eq_true rfl, Nat.le_of_ble_eq_true rfl⟩) hW hS hA (fun v3 u3 H locs hu3 hW hS => ?_)
      obtain ⟨rfl, f3⟩ := hu3
      replace f3 := f3.symm
      subst f3
      rw [hq]
      rw [if_pos (show (¬ _ < (0 : Int32) ∧ _ < _) from hR1)]
      refine lv_if_ne (tgt := 18) hx hb dX7_request_6 (by decide) (fun c_ => absurd c_ (by decide)) (fun _ => ?_)
      refine lv_iload_n hx hb dX7_request_9 rfl (lv_at hl 2 rfl) ?_
      refine lv_if_lt (tgt := 18) hx hb dX7_request_10 (by decide) (fun c_ => absurd c_ (by decide)) (fun _ => ?_)
      refine lv_iload_n hx hb dX7_request_13 rfl (lv_at hl 2 rfl) ?_
      refine lv_iconst (v := 3) hx hb dX7_request_14 (by decide) ?_
      refine lv_icmp_le (tgt := 22) hx hb dX7_request_15 (by decide) (fun _ => ?_) (fun c_ => absurd c_ (by decide))
      refine lv_iconst (v := 0) hx hb dX7_request_22 (by decide) ?_
      refine pM_thrown hx hb hts hX7 hown hK.1 hW hS rfl (hts (.fieldLink RX7 120 "SharedRegistersModel" "thrown" "I") (by decide +kernel)) dX7_request_23 (fun H locs hW hS => ?_)
      refine lv_aload_n hx hb dX7_request_26 rfl (lv_at hl 0 rfl) ?_
      refine gM 38 hx hb hts hX7 hown hK.1 hW (by simp only [tI_mA, tJ_mA]) (by decide) rfl (hts (.fieldLink RX7 120 "SharedRegistersModel" "thrown" "I") (by decide +kernel)) rfl dX7_request_27 ?_
      rw [show mI (tI z 38 0 0) 38 0 = 0 from by simp [tI_mI, tJ_mI, tI_mJ, tJ_mJ, up2]]
      refine lv_if_le (tgt := 35) hx hb dX7_request_30 (by decide) (fun _ => ?_) (fun c_ => absurd c_ (by decide))
      refine lv_aload_n hx hb dX7_request_35 rfl (lv_at hl 0 rfl) ?_
      refine gM 33 hx hb hts hX7 hown hK.1 hW (by simp only [tI_mA, tJ_mA]) (by decide) rfl (hts (.fieldLink RX7 105 "SharedRegistersModel" "ended" "[I") (by decide +kernel)) rfl dX7_request_36 ?_
      refine lv_iload_n hx hb dX7_request_39 rfl (lv_at hl 1 rfl) ?_
      refine mil_n 31 hx hb hK.1 hW (by simp only [tI_mA, tJ_mA]) (by decide) rfl (show _ < 200 by omega) (by decide) dX7_request_40 ?_
      rw [show mI (tI z 38 0 0) 31 r = mI z 31 r from by simp [tI_mI, tJ_mI, tI_mJ, tJ_mJ, up2]]
      refine lv_iconst (v := 1) hx hb dX7_request_41 (by decide) ?_
      refine lv_icmp_ne (tgt := 49) hx hb dX7_request_42 (by decide) (fun c_42 => ?_) (fun c_42 => ?_)
      · refine lv_iconst (v := 0) hx hb dX7_request_49 (by decide) ?_
        refine lv_istore_n (lv' := [(3, _), (0, _), (1, _), (2, _)]) hx hb dX7_request_50 rfl hl (by decide) rfl (fun ls hl => ?_)
        refine lv_iload_n hx hb dX7_request_51 rfl (lv_at hl 3 rfl) ?_
        refine lv_if_ne (tgt := 64) hx hb dX7_request_52 (by decide) (fun _ => ?_) (fun c_ => absurd c_ (by decide))
        refine lv_iload_n hx hb dX7_request_64 rfl (lv_at hl 3 rfl) ?_
        refine lv_iconst (v := 1) hx hb dX7_request_65 (by decide) ?_
        refine lv_icmp_ne (tgt := 90) hx hb dX7_request_66 (by decide) (fun _ => ?_) (fun c_ => absurd c_ (by decide))
        refine lv_iload_n hx hb dX7_request_90 rfl (lv_at hl 3 rfl) ?_
        refine lv_iconst (v := 2) hx hb dX7_request_91 (by decide) ?_
        refine lv_icmp_ne (tgt := 121) hx hb dX7_request_92 (by decide) (fun _ => ?_) (fun c_ => absurd c_ (by decide))
        refine lv_aload_n hx hb dX7_request_121 rfl (lv_at hl 1 rfl) ?_
        refine gM 32 hx hb hts hX7 hown hK.1 hW (by simp only [tI_mA, tJ_mA]) (by decide) rfl (hts (.fieldLink RX7 102 "SharedRegistersModel" "its" "[I") (by decide +kernel)) rfl dX7_request_122 ?_
        refine lv_iload_n hx hb dX7_request_125 rfl (lv_at hl 2 rfl) ?_
        refine mil_n 30 hx hb hK.1 hW (by simp only [tI_mA, tJ_mA]) (by decide) rfl (show _ < 200 by omega) (by decide) dX7_request_126 ?_
        rw [show mI (tI z 38 0 0) 30 r = mI z 30 r from by simp [tI_mI, tJ_mI, tI_mJ, tJ_mJ, up2]]
        refine W.iret hx hb hr ?_ hS.2.2 dX7_request_127
        refine mq1 ?_ hW hS
        exact Or.inl ⟨r, 3, hr0, by decide, rfl, rfl, rfl, rfl⟩
      · refine lv_iconst (v := 1) hx hb dX7_request_45 (by decide) ?_
        refine lv_goto (tgt := 50) hx hb dX7_request_46 (by decide) ?_
        refine lv_istore_n (lv' := [(3, _), (0, _), (1, _), (2, _)]) hx hb dX7_request_50 rfl hl (by decide) rfl (fun ls hl => ?_)
        refine lv_iload_n hx hb dX7_request_51 rfl (lv_at hl 3 rfl) ?_
        refine lv_if_ne (tgt := 64) hx hb dX7_request_52 (by decide) (fun _ => ?_) (fun c_ => absurd c_ (by decide))
        refine lv_iload_n hx hb dX7_request_64 rfl (lv_at hl 3 rfl) ?_
        refine lv_iconst (v := 1) hx hb dX7_request_65 (by decide) ?_
        refine lv_icmp_ne (tgt := 90) hx hb dX7_request_66 (by decide) (fun _ => ?_) (fun c_ => absurd c_ (by decide))
        refine lv_iload_n hx hb dX7_request_90 rfl (lv_at hl 3 rfl) ?_
        refine lv_iconst (v := 2) hx hb dX7_request_91 (by decide) ?_
        refine lv_icmp_ne (tgt := 121) hx hb dX7_request_92 (by decide) (fun _ => ?_) (fun c_ => absurd c_ (by decide))
        refine lv_aload_n hx hb dX7_request_121 rfl (lv_at hl 1 rfl) ?_
        refine gM 32 hx hb hts hX7 hown hK.1 hW (by simp only [tI_mA, tJ_mA]) (by decide) rfl (hts (.fieldLink RX7 102 "SharedRegistersModel" "its" "[I") (by decide +kernel)) rfl dX7_request_122 ?_
        refine lv_iload_n hx hb dX7_request_125 rfl (lv_at hl 2 rfl) ?_
        refine mil_n 30 hx hb hK.1 hW (by simp only [tI_mA, tJ_mA]) (by decide) rfl (show _ < 200 by omega) (by decide) dX7_request_126 ?_
        rw [show mI (tI z 38 0 0) 30 r = mI z 30 r from by simp [tI_mI, tJ_mI, tI_mJ, tJ_mJ, up2]]
        refine W.iret hx hb hr ?_ hS.2.2 dX7_request_127
        refine mq1 ?_ hW hS
        exact Or.inl ⟨r, 3, hr0, by decide, rfl, rfl, rfl, rfl⟩
  · by_cases hq0 : inR i (nI q)
    · refine lv_aload_n hx hb dX7_request_0 rfl (lv_at hl 0 rfl) ?_
      refine lv_aload_n hx hb dX7_request_1 rfl (lv_at hl 0 rfl) ?_
      refine lv_iload_n hx hb dX7_request_2 rfl (lv_at hl 1 rfl) ?_
      refine mc1 (va_runV (As := [.int i]) (rest := [.ref (mA z 0 0)]) ⟨hx, hb, hml, hown, hts⟩ (m7_noRequest l D y z _ i) (cwV 1 hts gX7_request_X7_noRequest rfl rfl rfl (by decide +kernel) ⟨Nat.le_of_ble_eq_true rfl, Nat.le_of_ble_eq_true rfl⟩) (mPreV (k := 0) (q := (RX7, TX7, 39)) hW hK (show 0 < 1 from Nat.zero_lt_one) rfl rfl [.int i]) rfl rfl hl.1 rfl (lv_room (Nat.le_of_ble_eq_true rfl)) dX7_request_3 ⟨Nat.le_of_ble_eq_true rfl, Nat.le_of_ble_eq_true rfl⟩) hW hS hA (fun v3 u3 H locs hu3 hW hS => ?_)
      obtain ⟨rfl, f3⟩ := hu3
      replace f3 := f3.symm
      subst f3
      rw [hq]
      rw [if_pos (show (¬ _ < (0 : Int32) ∧ _ < _) from hq0)]
      refine lv_if_ne (tgt := 18) hx hb dX7_request_6 (by decide) (fun c_ => absurd c_ (by decide)) (fun _ => ?_)
      refine lv_iload_n hx hb dX7_request_9 rfl (lv_at hl 2 rfl) ?_
      refine lv_if_lt (tgt := 18) hx hb dX7_request_10 (by decide) (fun c_10 => ?_) (fun c_10 => ?_)
      · refine lv_iconst (v := 1) hx hb dX7_request_18 (by decide) ?_
        refine lv_goto (tgt := 23) hx hb dX7_request_19 (by decide) ?_
        refine pM_thrown hx hb hts hX7 hown hK.1 hW hS rfl (hts (.fieldLink RX7 120 "SharedRegistersModel" "thrown" "I") (by decide +kernel)) dX7_request_23 (fun H locs hW hS => ?_)
        refine lv_aload_n hx hb dX7_request_26 rfl (lv_at hl 0 rfl) ?_
        refine gM 38 hx hb hts hX7 hown hK.1 hW (by simp only [tI_mA, tJ_mA]) (by decide) rfl (hts (.fieldLink RX7 120 "SharedRegistersModel" "thrown" "I") (by decide +kernel)) rfl dX7_request_27 ?_
        rw [show mI (tI z 38 0 1) 38 0 = 1 from by simp [tI_mI, tJ_mI, tI_mJ, tJ_mJ, up2]]
        refine lv_if_le (tgt := 35) hx hb dX7_request_30 (by decide) (fun c_ => absurd c_ (by decide)) (fun _ => ?_)
        refine lv_iconst (v := 0) hx hb dX7_request_33 (by decide) ?_
        refine W.iret hx hb hr ?_ hS.2.2 dX7_request_34
        refine mq1 ?_ hW hS
        exact Or.inr ⟨hok, rfl, rfl⟩
      · refine lv_iload_n hx hb dX7_request_13 rfl (lv_at hl 2 rfl) ?_
        refine lv_iconst (v := 3) hx hb dX7_request_14 (by decide) ?_
        refine lv_icmp_le (tgt := 22) hx hb dX7_request_15 (by decide) (fun c_15 => ?_) (fun c_15 => ?_)
        · exact absurd ⟨hq0, c_10, le_lt c_15 (by decide)⟩ hok
        · refine lv_iconst (v := 1) hx hb dX7_request_18 (by decide) ?_
          refine lv_goto (tgt := 23) hx hb dX7_request_19 (by decide) ?_
          refine pM_thrown hx hb hts hX7 hown hK.1 hW hS rfl (hts (.fieldLink RX7 120 "SharedRegistersModel" "thrown" "I") (by decide +kernel)) dX7_request_23 (fun H locs hW hS => ?_)
          refine lv_aload_n hx hb dX7_request_26 rfl (lv_at hl 0 rfl) ?_
          refine gM 38 hx hb hts hX7 hown hK.1 hW (by simp only [tI_mA, tJ_mA]) (by decide) rfl (hts (.fieldLink RX7 120 "SharedRegistersModel" "thrown" "I") (by decide +kernel)) rfl dX7_request_27 ?_
          rw [show mI (tI z 38 0 1) 38 0 = 1 from by simp [tI_mI, tJ_mI, tI_mJ, tJ_mJ, up2]]
          refine lv_if_le (tgt := 35) hx hb dX7_request_30 (by decide) (fun c_ => absurd c_ (by decide)) (fun _ => ?_)
          refine lv_iconst (v := 0) hx hb dX7_request_33 (by decide) ?_
          refine W.iret hx hb hr ?_ hS.2.2 dX7_request_34
          refine mq1 ?_ hW hS
          exact Or.inr ⟨hok, rfl, rfl⟩
    · refine lv_aload_n hx hb dX7_request_0 rfl (lv_at hl 0 rfl) ?_
      refine lv_aload_n hx hb dX7_request_1 rfl (lv_at hl 0 rfl) ?_
      refine lv_iload_n hx hb dX7_request_2 rfl (lv_at hl 1 rfl) ?_
      refine mc1 (va_runV (As := [.int i]) (rest := [.ref (mA z 0 0)]) ⟨hx, hb, hml, hown, hts⟩ (m7_noRequest l D y z _ i) (cwV 1 hts gX7_request_X7_noRequest rfl rfl rfl (by decide +kernel) ⟨Nat.le_of_ble_eq_true rfl, Nat.le_of_ble_eq_true rfl⟩) (mPreV (k := 0) (q := (RX7, TX7, 39)) hW hK (show 0 < 1 from Nat.zero_lt_one) rfl rfl [.int i]) rfl rfl hl.1 rfl (lv_room (Nat.le_of_ble_eq_true rfl)) dX7_request_3 ⟨Nat.le_of_ble_eq_true rfl, Nat.le_of_ble_eq_true rfl⟩) hW hS hA (fun v3 u3 H locs hu3 hW hS => ?_)
      obtain ⟨rfl, f3⟩ := hu3
      replace f3 := f3.symm
      subst f3
      rw [hq]
      rw [if_neg (show ¬ (¬ _ < (0 : Int32) ∧ _ < _) from hq0)]
      refine lv_if_ne (tgt := 18) hx hb dX7_request_6 (by decide) (fun _ => ?_) (fun c_ => absurd c_ (by decide))
      refine lv_iconst (v := 1) hx hb dX7_request_18 (by decide) ?_
      refine lv_goto (tgt := 23) hx hb dX7_request_19 (by decide) ?_
      refine pM_thrown hx hb hts hX7 hown hK.1 hW hS rfl (hts (.fieldLink RX7 120 "SharedRegistersModel" "thrown" "I") (by decide +kernel)) dX7_request_23 (fun H locs hW hS => ?_)
      refine lv_aload_n hx hb dX7_request_26 rfl (lv_at hl 0 rfl) ?_
      refine gM 38 hx hb hts hX7 hown hK.1 hW (by simp only [tI_mA, tJ_mA]) (by decide) rfl (hts (.fieldLink RX7 120 "SharedRegistersModel" "thrown" "I") (by decide +kernel)) rfl dX7_request_27 ?_
      rw [show mI (tI z 38 0 1) 38 0 = 1 from by simp [tI_mI, tJ_mI, tI_mJ, tJ_mJ, up2]]
      refine lv_if_le (tgt := 35) hx hb dX7_request_30 (by decide) (fun c_ => absurd c_ (by decide)) (fun _ => ?_)
      refine lv_iconst (v := 0) hx hb dX7_request_33 (by decide) ?_
      refine W.iret hx hb hr ?_ hS.2.2 dX7_request_34
      refine mq1 ?_ hW hS
      exact Or.inr ⟨hok, rfl, rfl⟩
set_option maxHeartbeats 4000000 in
set_option maxRecDepth 100000 in
theorem m7_result (l : Launch) (D : va_G) (y : Nat → ClassId) (z : MS) (sz : Nat) (i : Int32) (q : Nat) (hq : mI z 37 0 = nI q) (hq200 : q ≤ 200) : Met l yX7_result wsX7_result ({ frames := 1, cells := 0, slots := 0, locals := 40 }) (va_Pc [.ref (mA z 0 0), .int i] (mPre D y z sz)) (mQ1 D y z sz (fun v u => (∃ r, r < q ∧ i = nI r ∧ v = .long (if mI z 31 r = 1 then (if mI z 33 r = 0 then 0 else mJ z 35 r) else 0) ∧ u = tI z 38 0 0) ∨ (¬ inR i (nI q) ∧ v = .long 0 ∧ u = tI z 38 0 1))) 0 0 (mF z sz) := by
  refine Met.ofW (cc := cX7_result) (maxL := 2) (ret := (some .long)) (by decide) rfl ?_
  intro p e s m args below meth c s₁ B hml hv
  obtain ⟨rfl, hsz, hW0, hK⟩ := hv
  have hx := B.exec
  have hb := B.bytes
  have hr := B.returns
  have hts := atoms_spec (ws := wsX7_result) B.pre
  have hown : s.vm.findClass RX7 = some m.cls := findClass_of_methodNamed B.named
  have hlocks := B.notSynchronized
  subst hsz
  have hW := hW0.self (sz := s.heap.size)
  have hA : ∀ q, s.heap.size ≤ q → mF z s.heap.size q := fun q h => Or.inr h
  have hS : va_S (mF z s.heap.size) s.heap s.heap [] := va_S.rf
  have hl := lv_entry ([.ref (mA z 0 0), .int i]) (n := 2) (Nat.le_of_ble_eq_true rfl)
  rw [lg_entry_eq]
  generalize (lg_sl ([.ref (mA z 0 0), .int i]) ++ List.replicate (2 - (lg_sl ([.ref (mA z 0 0), .int i])).length) Slot.unset).toArray = ls at hl ⊢
  have hl : lv_has ls 2 [(0, .ref (mA z 0 0)), (1, .int i)] := hl
  have hX7 : ∀ w ∈ wsX70, w ∈ wsX7_result := by decide +kernel
  by_cases hok : inR i (nI q)
  · obtain ⟨r, hr0, rfl⟩ := inR_nat (n := q) hok (by omega)
    refine lv_aload_n hx hb dX7_result_0 rfl (lv_at hl 0 rfl) ?_
    refine lv_aload_n hx hb dX7_result_1 rfl (lv_at hl 0 rfl) ?_
    refine lv_iload_n hx hb dX7_result_2 rfl (lv_at hl 1 rfl) ?_
    refine mc1 (va_runV (As := [.int (nI r)]) (rest := [.ref (mA z 0 0)]) ⟨hx, hb, hml, hown, hts⟩ (m7_noRequest l D y z _ (nI r)) (cwV 1 hts gX7_result_X7_noRequest rfl rfl rfl (by decide +kernel) ⟨Nat.le_of_ble_eq_true rfl, Nat.le_of_ble_eq_true rfl⟩) (mPreV (k := 0) (q := (RX7, TX7, 39)) hW hK (show 0 < 1 from Nat.zero_lt_one) rfl rfl [.int (nI r)]) rfl rfl hl.1 rfl (lv_room (Nat.le_of_ble_eq_true rfl)) dX7_result_3 ⟨Nat.le_of_ble_eq_true rfl, Nat.le_of_ble_eq_true rfl⟩) hW hS hA (fun v3 u3 H locs hu3 hW hS => ?_)
    obtain ⟨rfl, f3⟩ := hu3
    replace f3 := f3.symm
    subst f3
    rw [hq]
    rw [if_pos (show (¬ _ < (0 : Int32) ∧ _ < _) from hok)]
    refine lv_if_eq (tgt := 13) hx hb dX7_result_6 (by decide) (fun _ => ?_) (fun c_ => absurd c_ (by decide))
    refine lv_iconst (v := 0) hx hb dX7_result_13 (by decide) ?_
    refine pM_thrown hx hb hts hX7 hown hK.1 hW hS rfl (hts (.fieldLink RX7 120 "SharedRegistersModel" "thrown" "I") (by decide +kernel)) dX7_result_14 (fun H locs hW hS => ?_)
    refine lv_aload_n hx hb dX7_result_17 rfl (lv_at hl 0 rfl) ?_
    refine gM 38 hx hb hts hX7 hown hK.1 hW (by simp only [tI_mA, tJ_mA]) (by decide) rfl (hts (.fieldLink RX7 120 "SharedRegistersModel" "thrown" "I") (by decide +kernel)) rfl dX7_result_18 ?_
    rw [show mI (tI z 38 0 0) 38 0 = 0 from by simp [tI_mI, tJ_mI, tI_mJ, tJ_mJ, up2]]
    refine lv_if_ne (tgt := 52) hx hb dX7_result_21 (by decide) (fun c_ => absurd c_ (by decide)) (fun _ => ?_)
    refine lv_aload_n hx hb dX7_result_24 rfl (lv_at hl 0 rfl) ?_
    refine gM 33 hx hb hts hX7 hown hK.1 hW (by simp only [tI_mA, tJ_mA]) (by decide) rfl (hts (.fieldLink RX7 105 "SharedRegistersModel" "ended" "[I") (by decide +kernel)) rfl dX7_result_25 ?_
    refine lv_iload_n hx hb dX7_result_28 rfl (lv_at hl 1 rfl) ?_
    refine mil_n 31 hx hb hK.1 hW (by simp only [tI_mA, tJ_mA]) (by decide) rfl (show _ < 200 by omega) (by decide) dX7_result_29 ?_
    rw [show mI (tI z 38 0 0) 31 r = mI z 31 r from by simp [tI_mI, tJ_mI, tI_mJ, tJ_mJ, up2]]
    refine lv_iconst (v := 1) hx hb dX7_result_30 (by decide) ?_
    refine lv_icmp_ne (tgt := 52) hx hb dX7_result_31 (by decide) (fun c_31 => ?_) (fun c_31 => ?_)
    · refine lv_lconst (v := 0) hx hb dX7_result_52 (by decide) ?_
      refine W.lret hx hb hr ?_ hS.2.2 dX7_result_53
      refine mq1 ?_ hW hS
      exact Or.inl ⟨r, hr0, rfl, by simp [c_31], rfl⟩
    · refine lv_aload_n hx hb dX7_result_34 rfl (lv_at hl 0 rfl) ?_
      refine gM 35 hx hb hts hX7 hown hK.1 hW (by simp only [tI_mA, tJ_mA]) (by decide) rfl (hts (.fieldLink RX7 111 "SharedRegistersModel" "isThere" "[Z") (by decide +kernel)) rfl dX7_result_35 ?_
      refine lv_iload_n hx hb dX7_result_38 rfl (lv_at hl 1 rfl) ?_
      refine mzl_n 33 hx hb hK.1 hW (by simp only [tI_mA, tJ_mA]) (by decide) rfl (show _ < 200 by omega) (by decide) dX7_result_39 ?_
      rw [show mI (tI z 38 0 0) 33 r = mI z 33 r from by simp [tI_mI, tJ_mI, tI_mJ, tJ_mJ, up2]]
      refine lv_if_eq (tgt := 52) hx hb dX7_result_40 (by decide) (fun c_40 => ?_) (fun c_40 => ?_)
      · refine lv_lconst (v := 0) hx hb dX7_result_52 (by decide) ?_
        refine W.lret hx hb hr ?_ hS.2.2 dX7_result_53
        refine mq1 ?_ hW hS
        exact Or.inl ⟨r, hr0, rfl, by simp [c_31, c_40], rfl⟩
      · refine lv_aload_n hx hb dX7_result_43 rfl (lv_at hl 0 rfl) ?_
        refine gM 37 hx hb hts hX7 hown hK.1 hW (by simp only [tI_mA, tJ_mA]) (by decide) rfl (hts (.fieldLink RX7 117 "SharedRegistersModel" "endValue" "[J") (by decide +kernel)) rfl dX7_result_44 ?_
        refine lv_iload_n hx hb dX7_result_47 rfl (lv_at hl 1 rfl) ?_
        refine mll_n 35 hx hb hK.1 hW (by simp only [tI_mA, tJ_mA]) (by decide) rfl (show _ < 200 by omega) (by decide) dX7_result_48 ?_
        rw [show mJ (tI z 38 0 0) 35 r = mJ z 35 r from by simp [tI_mI, tJ_mI, tI_mJ, tJ_mJ, up2]]
        refine lv_goto (tgt := 53) hx hb dX7_result_49 (by decide) ?_
        refine W.lret hx hb hr ?_ hS.2.2 dX7_result_53
        refine mq1 ?_ hW hS
        exact Or.inl ⟨r, hr0, rfl, by simp [c_31, c_40], rfl⟩
  · refine lv_aload_n hx hb dX7_result_0 rfl (lv_at hl 0 rfl) ?_
    refine lv_aload_n hx hb dX7_result_1 rfl (lv_at hl 0 rfl) ?_
    refine lv_iload_n hx hb dX7_result_2 rfl (lv_at hl 1 rfl) ?_
    refine mc1 (va_runV (As := [.int i]) (rest := [.ref (mA z 0 0)]) ⟨hx, hb, hml, hown, hts⟩ (m7_noRequest l D y z _ i) (cwV 1 hts gX7_result_X7_noRequest rfl rfl rfl (by decide +kernel) ⟨Nat.le_of_ble_eq_true rfl, Nat.le_of_ble_eq_true rfl⟩) (mPreV (k := 0) (q := (RX7, TX7, 39)) hW hK (show 0 < 1 from Nat.zero_lt_one) rfl rfl [.int i]) rfl rfl hl.1 rfl (lv_room (Nat.le_of_ble_eq_true rfl)) dX7_result_3 ⟨Nat.le_of_ble_eq_true rfl, Nat.le_of_ble_eq_true rfl⟩) hW hS hA (fun v3 u3 H locs hu3 hW hS => ?_)
    obtain ⟨rfl, f3⟩ := hu3
    replace f3 := f3.symm
    subst f3
    rw [hq]
    rw [if_neg (show ¬ (¬ _ < (0 : Int32) ∧ _ < _) from hok)]
    refine lv_if_eq (tgt := 13) hx hb dX7_result_6 (by decide) (fun c_ => absurd c_ (by decide)) (fun _ => ?_)
    refine lv_iconst (v := 1) hx hb dX7_result_9 (by decide) ?_
    refine lv_goto (tgt := 14) hx hb dX7_result_10 (by decide) ?_
    refine pM_thrown hx hb hts hX7 hown hK.1 hW hS rfl (hts (.fieldLink RX7 120 "SharedRegistersModel" "thrown" "I") (by decide +kernel)) dX7_result_14 (fun H locs hW hS => ?_)
    refine lv_aload_n hx hb dX7_result_17 rfl (lv_at hl 0 rfl) ?_
    refine gM 38 hx hb hts hX7 hown hK.1 hW (by simp only [tI_mA, tJ_mA]) (by decide) rfl (hts (.fieldLink RX7 120 "SharedRegistersModel" "thrown" "I") (by decide +kernel)) rfl dX7_result_18 ?_
    rw [show mI (tI z 38 0 1) 38 0 = 1 from by simp [tI_mI, tJ_mI, tI_mJ, tJ_mJ, up2]]
    refine lv_if_ne (tgt := 52) hx hb dX7_result_21 (by decide) (fun _ => ?_) (fun c_ => absurd c_ (by decide))
    refine lv_lconst (v := 0) hx hb dX7_result_52 (by decide) ?_
    refine W.lret hx hb hr ?_ hS.2.2 dX7_result_53
    refine mq1 ?_ hW hS
    exact Or.inr ⟨hok, rfl, rfl⟩
