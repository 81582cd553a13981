set_option maxHeartbeats 4000000 in
set_option maxRecDepth 100000 in
theorem m7_noAsker (l : Launch) (D : va_G) (y : Nat → ClassId) (z : MS) (sz : Nat) (i : Int32) : Met l yX7_noAsker wsX7_noAsker ({ frames := 0, cells := 0, slots := 0, locals := 0 }) (va_Pc [.int i] (mPre D y z sz)) (mQ1 D y z sz (fun v u => v = .int (if ¬ i < 0 ∧ i < 4 then 0 else 1) ∧ u = z)) 0 0 (mF z sz) := by
  refine Met.ofW (cc := cX7_noAsker) (maxL := 1) (ret := (some .boolean)) (by decide) rfl ?_
  intro p e s m args below meth c s₁ B hml hv
  obtain ⟨rfl, hsz, hW0, hK⟩ := hv
  have hx := B.exec
  have hb := B.bytes
  have hr := B.returns
  have hts := atoms_spec (ws := wsX7_noAsker) B.pre
  have hown : s.vm.findClass RX7 = some m.cls := findClass_of_methodNamed B.named
  have hlocks := B.notSynchronized
  subst hsz
  have hW := hW0.self (sz := s.heap.size)
  have hA : ∀ q, s.heap.size ≤ q → mF z s.heap.size q := fun q h => Or.inr h
  have hS : va_S (mF z s.heap.size) s.heap s.heap [] := va_S.rf
  have hl := lv_entry ([.int i]) (n := 1) (Nat.le_of_ble_eq_true rfl)
  rw [lg_entry_eq]
  generalize (lg_sl ([.int i]) ++ List.replicate (1 - (lg_sl ([.int i])).length) Slot.unset).toArray = ls at hl ⊢
  have hl : lv_has ls 1 [(0, .int i)] := hl
  refine lv_iload_n hx hb dX7_noAsker_0 rfl (lv_at hl 0 rfl) ?_
  refine lv_if_lt (tgt := 9) hx hb dX7_noAsker_1 (by decide) (fun c_1 => ?_) (fun c_1 => ?_)
  · refine lv_iconst (v := 1) hx hb dX7_noAsker_9 (by decide) ?_
    refine lv_goto (tgt := 14) hx hb dX7_noAsker_10 (by decide) ?_
    refine W.zret hx hb hr rfl ?_ hS.2.2 dX7_noAsker_14
    refine mq1 ?_ hW hS
    exact ⟨by simp [c_1], rfl⟩
  · refine lv_iload_n hx hb dX7_noAsker_4 rfl (lv_at hl 0 rfl) ?_
    refine lv_iconst (v := 4) hx hb dX7_noAsker_5 (by decide) ?_
    refine lv_icmp_lt (tgt := 13) hx hb dX7_noAsker_6 (by decide) (fun c_6 => ?_) (fun c_6 => ?_)
    · refine lv_iconst (v := 0) hx hb dX7_noAsker_13 (by decide) ?_
      refine W.zret hx hb hr rfl ?_ hS.2.2 dX7_noAsker_14
      refine mq1 ?_ hW hS
      exact ⟨by simp [c_1, c_6], rfl⟩
    · refine lv_iconst (v := 1) hx hb dX7_noAsker_9 (by decide) ?_
      refine lv_goto (tgt := 14) hx hb dX7_noAsker_10 (by decide) ?_
      refine W.zret hx hb hr rfl ?_ hS.2.2 dX7_noAsker_14
      refine mq1 ?_ hW hS
      exact ⟨by simp [c_1, c_6], rfl⟩
set_option maxHeartbeats 4000000 in
set_option maxRecDepth 100000 in
theorem m7_noKeeper (l : Launch) (D : va_G) (y : Nat → ClassId) (z : MS) (sz : Nat) (i : Int32) : Met l yX7_noKeeper wsX7_noKeeper ({ frames := 0, cells := 0, slots := 0, locals := 0 }) (va_Pc [.int i] (mPre D y z sz)) (mQ1 D y z sz (fun v u => v = .int (if ¬ i < 0 ∧ i < 9 then 0 else 1) ∧ u = z)) 0 0 (mF z sz) := by
  refine Met.ofW (cc := cX7_noKeeper) (maxL := 1) (ret := (some .boolean)) (by decide) rfl ?_
  intro p e s m args below meth c s₁ B hml hv
  obtain ⟨rfl, hsz, hW0, hK⟩ := hv
  have hx := B.exec
  have hb := B.bytes
  have hr := B.returns
  have hts := atoms_spec (ws := wsX7_noKeeper) B.pre
  have hown : s.vm.findClass RX7 = some m.cls := findClass_of_methodNamed B.named
  have hlocks := B.notSynchronized
  subst hsz
  have hW := hW0.self (sz := s.heap.size)
  have hA : ∀ q, s.heap.size ≤ q → mF z s.heap.size q := fun q h => Or.inr h
  have hS : va_S (mF z s.heap.size) s.heap s.heap [] := va_S.rf
  have hl := lv_entry ([.int i]) (n := 1) (Nat.le_of_ble_eq_true rfl)
  rw [lg_entry_eq]
  generalize (lg_sl ([.int i]) ++ List.replicate (1 - (lg_sl ([.int i])).length) Slot.unset).toArray = ls at hl ⊢
  have hl : lv_has ls 1 [(0, .int i)] := hl
  refine lv_iload_n hx hb dX7_noKeeper_0 rfl (lv_at hl 0 rfl) ?_
  refine lv_if_lt (tgt := 10) hx hb dX7_noKeeper_1 (by decide) (fun c_1 => ?_) (fun c_1 => ?_)
  · refine lv_iconst (v := 1) hx hb dX7_noKeeper_10 (by decide) ?_
    refine lv_goto (tgt := 15) hx hb dX7_noKeeper_11 (by decide) ?_
    refine W.zret hx hb hr rfl ?_ hS.2.2 dX7_noKeeper_15
    refine mq1 ?_ hW hS
    exact ⟨by simp [c_1], rfl⟩
  · refine lv_iload_n hx hb dX7_noKeeper_4 rfl (lv_at hl 0 rfl) ?_
    refine lv_bipush (v := 9) hx hb dX7_noKeeper_5 (by decide) ?_
    refine lv_icmp_lt (tgt := 14) hx hb dX7_noKeeper_7 (by decide) (fun c_7 => ?_) (fun c_7 => ?_)
    · refine lv_iconst (v := 0) hx hb dX7_noKeeper_14 (by decide) ?_
      refine W.zret hx hb hr rfl ?_ hS.2.2 dX7_noKeeper_15
      refine mq1 ?_ hW hS
      exact ⟨by simp [c_1, c_7], rfl⟩
    · refine lv_iconst (v := 1) hx hb dX7_noKeeper_10 (by decide) ?_
      refine lv_goto (tgt := 15) hx hb dX7_noKeeper_11 (by decide) ?_
      refine W.zret hx hb hr rfl ?_ hS.2.2 dX7_noKeeper_15
      refine mq1 ?_ hW hS
      exact ⟨by simp [c_1, c_7], rfl⟩
set_option maxHeartbeats 4000000 in
set_option maxRecDepth 100000 in
theorem m7_noKey (l : Launch) (D : va_G) (y : Nat → ClassId) (z : MS) (sz : Nat) (i : Int32) : Met l yX7_noKey wsX7_noKey ({ frames := 0, cells := 0, slots := 0, locals := 0 }) (va_Pc [.int i] (mPre D y z sz)) (mQ1 D y z sz (fun v u => v = .int (if ¬ i < 0 ∧ i < 4 then 0 else 1) ∧ u = z)) 0 0 (mF z sz) := by
  refine Met.ofW (cc := cX7_noKey) (maxL := 1) (ret := (some .boolean)) (by decide) rfl ?_
  intro p e s m args below meth c s₁ B hml hv
  obtain ⟨rfl, hsz, hW0, hK⟩ := hv
  have hx := B.exec
  have hb := B.bytes
  have hr := B.returns
  have hts := atoms_spec (ws := wsX7_noKey) B.pre
  have hown : s.vm.findClass RX7 = some m.cls := findClass_of_methodNamed B.named
  have hlocks := B.notSynchronized
  subst hsz
  have hW := hW0.self (sz := s.heap.size)
  have hA : ∀ q, s.heap.size ≤ q → mF z s.heap.size q := fun q h => Or.inr h
  have hS : va_S (mF z s.heap.size) s.heap s.heap [] := va_S.rf
  have hl := lv_entry ([.int i]) (n := 1) (Nat.le_of_ble_eq_true rfl)
  rw [lg_entry_eq]
  generalize (lg_sl ([.int i]) ++ List.replicate (1 - (lg_sl ([.int i])).length) Slot.unset).toArray = ls at hl ⊢
  have hl : lv_has ls 1 [(0, .int i)] := hl
  refine lv_iload_n hx hb dX7_noKey_0 rfl (lv_at hl 0 rfl) ?_
  refine lv_if_lt (tgt := 9) hx hb dX7_noKey_1 (by decide) (fun c_1 => ?_) (fun c_1 => ?_)
  · refine lv_iconst (v := 1) hx hb dX7_noKey_9 (by decide) ?_
    refine lv_goto (tgt := 14) hx hb dX7_noKey_10 (by decide) ?_
    refine W.zret hx hb hr rfl ?_ hS.2.2 dX7_noKey_14
    refine mq1 ?_ hW hS
    exact ⟨by simp [c_1], rfl⟩
  · refine lv_iload_n hx hb dX7_noKey_4 rfl (lv_at hl 0 rfl) ?_
    refine lv_iconst (v := 4) hx hb dX7_noKey_5 (by decide) ?_
    refine lv_icmp_lt (tgt := 13) hx hb dX7_noKey_6 (by decide) (fun c_6 => ?_) (fun c_6 => ?_)
    · refine lv_iconst (v := 0) hx hb dX7_noKey_13 (by decide) ?_
      refine W.zret hx hb hr rfl ?_ hS.2.2 dX7_noKey_14
      refine mq1 ?_ hW hS
      exact ⟨by simp [c_1, c_6], rfl⟩
    · refine lv_iconst (v := 1) hx hb dX7_noKey_9 (by decide) ?_
      refine lv_goto (tgt := 14) hx hb dX7_noKey_10 (by decide) ?_
      refine W.zret hx hb hr rfl ?_ hS.2.2 dX7_noKey_14
      refine mq1 ?_ hW hS
      exact ⟨by simp [c_1, c_6], rfl⟩
set_option maxHeartbeats 4000000 in
set_option maxRecDepth 100000 in
theorem m7_noMessage (l : Launch) (D : va_G) (y : Nat → ClassId) (z : MS) (sz : Nat) (i : Int32) : Met l yX7_noMessage wsX7_noMessage ({ frames := 0, cells := 0, slots := 0, locals := 0 }) (va_Pc [.ref (mA z 0 0), .int i] (mPre D y z sz)) (mQ1 D y z sz (fun v u => v = .int (if ¬ i < 0 ∧ i < mI z 36 0 then 0 else 1) ∧ u = z)) 0 0 (mF z sz) := by
  refine Met.ofW (cc := cX7_noMessage) (maxL := 2) (ret := (some .boolean)) (by decide) rfl ?_
  intro p e s m args below meth c s₁ B hml hv
  obtain ⟨rfl, hsz, hW0, hK⟩ := hv
  have hx := B.exec
  have hb := B.bytes
  have hr := B.returns
  have hts := atoms_spec (ws := wsX7_noMessage) B.pre
  have hown : s.vm.findClass RX7 = some m.cls := findClass_of_methodNamed B.named
  have hlocks := B.notSynchronized
  subst hsz
  have hW := hW0.self (sz := s.heap.size)
  have hA : ∀ q, s.heap.size ≤ q → mF z s.heap.size q := fun q h => Or.inr h
  have hS : va_S (mF z s.heap.size) s.heap s.heap [] := va_S.rf
  have hl := lv_entry ([.ref (mA z 0 0), .int i]) (n := 2) (Nat.le_of_ble_eq_true rfl)
  rw [lg_entry_eq]
  generalize (lg_sl ([.ref (mA z 0 0), .int i]) ++ List.replicate (2 - (lg_sl ([.ref (mA z 0 0), .int i])).length) Slot.unset).toArray = ls at hl ⊢
  have hl : lv_has ls 2 [(0, .ref (mA z 0 0)), (1, .int i)] := hl
  have hX7 : ∀ w ∈ wsX70, w ∈ wsX7_noMessage := by decide +kernel
  refine lv_iload_n hx hb dX7_noMessage_0 rfl (lv_at hl 1 rfl) ?_
  refine lv_if_lt (tgt := 12) hx hb dX7_noMessage_1 (by decide) (fun c_1 => ?_) (fun c_1 => ?_)
  · refine lv_iconst (v := 1) hx hb dX7_noMessage_12 (by decide) ?_
    refine lv_goto (tgt := 17) hx hb dX7_noMessage_13 (by decide) ?_
    refine W.zret hx hb hr rfl ?_ hS.2.2 dX7_noMessage_17
    refine mq1 ?_ hW hS
    exact ⟨by simp [c_1], rfl⟩
  · refine lv_iload_n hx hb dX7_noMessage_4 rfl (lv_at hl 1 rfl) ?_
    refine lv_aload_n hx hb dX7_noMessage_5 rfl (lv_at hl 0 rfl) ?_
    refine gM 0 hx hb hts hX7 hown hK.1 hW rfl (by decide) rfl (hts (.fieldLink RX7 124 "SharedRegistersModel" "many" "I") (by decide +kernel)) rfl dX7_noMessage_6 ?_
    refine lv_icmp_lt (tgt := 16) hx hb dX7_noMessage_9 (by decide) (fun c_9 => ?_) (fun c_9 => ?_)
    · refine lv_iconst (v := 0) hx hb dX7_noMessage_16 (by decide) ?_
      refine W.zret hx hb hr rfl ?_ hS.2.2 dX7_noMessage_17
      refine mq1 ?_ hW hS
      exact ⟨by simp [c_1, c_9], rfl⟩
    · refine lv_iconst (v := 1) hx hb dX7_noMessage_12 (by decide) ?_
      refine lv_goto (tgt := 17) hx hb dX7_noMessage_13 (by decide) ?_
      refine W.zret hx hb hr rfl ?_ hS.2.2 dX7_noMessage_17
      refine mq1 ?_ hW hS
      exact ⟨by simp [c_1, c_9], rfl⟩
set_option maxHeartbeats 4000000 in
set_option maxRecDepth 100000 in
theorem m7_noRequest (l : Launch) (D : va_G) (y : Nat → ClassId) (z : MS) (sz : Nat) (i : Int32) : Met l yX7_noRequest wsX7_noRequest ({ frames := 0, cells := 0, slots := 0, locals := 0 }) (va_Pc [.ref (mA z 0 0), .int i] (mPre D y z sz)) (mQ1 D y z sz (fun v u => v = .int (if ¬ i < 0 ∧ i < mI z 37 0 then 0 else 1) ∧ u = z)) 0 0 (mF z sz) := by
  refine Met.ofW (cc := cX7_noRequest) (maxL := 2) (ret := (some .boolean)) (by decide) rfl ?_
  intro p e s m args below meth c s₁ B hml hv
  obtain ⟨rfl, hsz, hW0, hK⟩ := hv
  have hx := B.exec
  have hb := B.bytes
  have hr := B.returns
  have hts := atoms_spec (ws := wsX7_noRequest) B.pre
  have hown : s.vm.findClass RX7 = some m.cls := findClass_of_methodNamed B.named
  have hlocks := B.notSynchronized
  subst hsz
  have hW := hW0.self (sz := s.heap.size)
  have hA : ∀ q, s.heap.size ≤ q → mF z s.heap.size q := fun q h => Or.inr h
  have hS : va_S (mF z s.heap.size) s.heap s.heap [] := va_S.rf
  have hl := lv_entry ([.ref (mA z 0 0), .int i]) (n := 2) (Nat.le_of_ble_eq_true rfl)
  rw [lg_entry_eq]
  generalize (lg_sl ([.ref (mA z 0 0), .int i]) ++ List.replicate (2 - (lg_sl ([.ref (mA z 0 0), .int i])).length) Slot.unset).toArray = ls at hl ⊢
  have hl : lv_has ls 2 [(0, .ref (mA z 0 0)), (1, .int i)] := hl
  have hX7 : ∀ w ∈ wsX70, w ∈ wsX7_noRequest := by decide +kernel
  refine lv_iload_n hx hb dX7_noRequest_0 rfl (lv_at hl 1 rfl) ?_
  refine lv_if_lt (tgt := 12) hx hb dX7_noRequest_1 (by decide) (fun c_1 => ?_) (fun c_1 => ?_)
  · refine lv_iconst (v := 1) hx hb dX7_noRequest_12 (by decide) ?_
    refine lv_goto (tgt := 17) hx hb dX7_noRequest_13 (by decide) ?_
    refine W.zret hx hb hr rfl ?_ hS.2.2 dX7_noRequest_17
    refine mq1 ?_ hW hS
    exact ⟨by simp [c_1], rfl⟩
  · refine lv_iload_n hx hb dX7_noRequest_4 rfl (lv_at hl 1 rfl) ?_
    refine lv_aload_n hx hb dX7_noRequest_5 rfl (lv_at hl 0 rfl) ?_
    refine gM 28 hx hb hts hX7 hown hK.1 hW rfl (by decide) rfl (hts (.fieldLink RX7 134 "SharedRegistersModel" "requests" "I") (by decide +kernel)) rfl dX7_noRequest_6 ?_
    refine lv_icmp_lt (tgt := 16) hx hb dX7_noRequest_9 (by decide) (fun c_9 => ?_) (fun c_9 => ?_)
    · refine lv_iconst (v := 0) hx hb dX7_noRequest_16 (by decide) ?_
      refine W.zret hx hb hr rfl ?_ hS.2.2 dX7_noRequest_17
      refine mq1 ?_ hW hS
      exact ⟨by simp [c_1, c_9], rfl⟩
    · refine lv_iconst (v := 1) hx hb dX7_noRequest_12 (by decide) ?_
      refine lv_goto (tgt := 17) hx hb dX7_noRequest_13 (by decide) ?_
      refine W.zret hx hb hr rfl ?_ hS.2.2 dX7_noRequest_17
      refine mq1 ?_ hW hS
      exact ⟨by simp [c_1, c_9], rfl⟩
set_option maxHeartbeats 4000000 in
set_option maxRecDepth 100000 in
theorem m7_thrown (l : Launch) (D : va_G) (y : Nat → ClassId) (z : MS) (sz : Nat)  : Met l yX7_thrown wsX7_thrown ({ frames := 0, cells := 0, slots := 0, locals := 0 }) (va_Pc [.ref (mA z 0 0)] (mPre D y z sz)) (mQ1 D y z sz (fun v u => v = .int (mI z 38 0) ∧ u = z)) 0 0 (mF z sz) := by
  refine Met.ofW (cc := cX7_thrown) (maxL := 1) (ret := (some .int)) (by decide) rfl ?_
  intro p e s m args below meth c s₁ B hml hv
  obtain ⟨rfl, hsz, hW0, hK⟩ := hv
  have hx := B.exec
  have hb := B.bytes
  have hr := B.returns
  have hts := atoms_spec (ws := wsX7_thrown) B.pre
  have hown : s.vm.findClass RX7 = some m.cls := findClass_of_methodNamed B.named
  have hlocks := B.notSynchronized
  subst hsz
  have hW := hW0.self (sz := s.heap.size)
  have hA : ∀ q, s.heap.size ≤ q → mF z s.heap.size q := fun q h => Or.inr h
  have hS : va_S (mF z s.heap.size) s.heap s.heap [] := va_S.rf
  have hl := lv_entry ([.ref (mA z 0 0)]) (n := 1) (Nat.le_of_ble_eq_true rfl)
  rw [lg_entry_eq]
  generalize (lg_sl ([.ref (mA z 0 0)]) ++ List.replicate (1 - (lg_sl ([.ref (mA z 0 0)])).length) Slot.unset).toArray = ls at hl ⊢
  have hl : lv_has ls 1 [(0, .ref (mA z 0 0))] := hl
  have hX7 : ∀ w ∈ wsX70, w ∈ wsX7_thrown := by decide +kernel
  refine lv_aload_n hx hb dX7_thrown_0 rfl (lv_at hl 0 rfl) ?_
  refine gM 38 hx hb hts hX7 hown hK.1 hW rfl (by decide) rfl (hts (.fieldLink RX7 120 "SharedRegistersModel" "thrown" "I") (by decide +kernel)) rfl dX7_thrown_1 ?_
  refine W.iret hx hb hr ?_ hS.2.2 dX7_thrown_4
  refine mq1 ?_ hW hS
  exact ⟨rfl, rfl⟩
def tSend (z : MS) (n : Nat) (so wh wm ab ba te ve : Int32) (va : Int64) : MS := tI (tJ (tI (tI (tI (tI (tI (tI (tI z 0 n so) 1 n wh) 2 n wm) 3 n ab) 4 n ba) 5 n te) 6 n ve) 7 n va) 36 0 (nI (n + 1))
def mSend (z : MS) (n : Nat) (so wh wm ab ba te ve : Int32) (va : Int64) : MS := if n < 300 then tSend z n so wh wm ab ba te ve va else z
set_option maxHeartbeats 4000000 in
set_option maxRecDepth 100000 in
theorem m7_send (l : Launch) (D : va_G) (y : Nat → ClassId) (z : MS) (sz : Nat) (n : Nat) (so wh wm ab ba te ve : Int32) (va : Int64) (hn : mI z 36 0 = nI n) (hn0 : n ≤ 300) (hte : te = 0 ∨ te = 1) : Met l yX7_send wsX7_send ({ frames := 0, cells := 0, slots := 0, locals := 0 }) (va_Pc [.ref (mA z 0 0), .int so, .int wh, .int wm, .int ab, .int ba, .int te, .int ve, .long va] (mPre D y z sz)) (mQ0 D y z sz (fun u => u = mSend z n so wh wm ab ba te ve va)) 0 0 (mF z sz) := by
  refine Met.ofW (cc := cX7_send) (maxL := 10) (ret := none) (by decide) rfl ?_
  intro p e s m args below meth c s₁ B hml hv
  obtain ⟨rfl, hsz, hW0, hK⟩ := hv
  have hx := B.exec
  have hb := B.bytes
  have hr := B.returns
  have hts := atoms_spec (ws := wsX7_send) B.pre
  have hown : s.vm.findClass RX7 = some m.cls := findClass_of_methodNamed B.named
  have hlocks := B.notSynchronized
  subst hsz
  have hW := hW0.self (sz := s.heap.size)
  have hA : ∀ q, s.heap.size ≤ q → mF z s.heap.size q := fun q h => Or.inr h
  have hS : va_S (mF z s.heap.size) s.heap s.heap [] := va_S.rf
  have hl := lv_entry ([.ref (mA z 0 0), .int so, .int wh, .int wm, .int ab, .int ba, .int te, .int ve, .long va]) (n := 10) (Nat.le_of_ble_eq_true rfl)
  rw [lg_entry_eq]
  generalize (lg_sl ([.ref (mA z 0 0), .int so, .int wh, .int wm, .int ab, .int ba, .int te, .int ve, .long va]) ++ List.replicate (10 - (lg_sl ([.ref (mA z 0 0), .int so, .int wh, .int wm, .int ab, .int ba, .int te, .int ve, .long va])).length) Slot.unset).toArray = ls at hl ⊢
  have hl : lv_has ls 10 [(0, .ref (mA z 0 0)), (1, .int so), (2, .int wh), (3, .int wm), (4, .int ab), (5, .int ba), (6, .int te), (7, .int ve), (8, .long va)] := hl
  have hX7 : ∀ w ∈ wsX70, w ∈ wsX7_send := by decide +kernel
  refine lv_aload_n hx hb dX7_send_0 rfl (lv_at hl 0 rfl) ?_
  refine gM 0 hx hb hts hX7 hown hK.1 hW rfl (by decide) rfl (hts (.fieldLink RX7 124 "SharedRegistersModel" "many" "I") (by decide +kernel)) rfl dX7_send_1 ?_
  rw [show mI z 36 0 = nI n from hn]
  refine lv_sipush (v := 300) hx hb dX7_send_4 (by decide) ?_
  refine lv_icmp_ge (tgt := 105) hx hb dX7_send_7 (by decide) (fun c_7 => ?_) (fun c_7 => ?_)
  · have hn3 : ¬ n < 300 := fun h9 => absurd c_7 (show ¬ (300 : Int32) ≤ nI n from nI_ge (b := 300) h9 (by decide))
    refine W.vret hx hb hr ?_ hS.2.2 dX7_send_105
    refine mq0 ?_ hW hS
    exact (by rw [mSend, if_neg hn3])
  · have hn3 : n < 300 := by rcases Nat.lt_or_ge n 300 with q | q; exact q; exact absurd (show (300 : Int32) ≤ nI n from nI_le (a := 300) q (by omega)) c_7
    refine lv_aload_n hx hb dX7_send_10 rfl (lv_at hl 0 rfl) ?_
    refine gM 1 hx hb hts hX7 hown hK.1 hW rfl (by decide) rfl (hts (.fieldLink RX7 7 "SharedRegistersModel" "sort" "[I") (by decide +kernel)) rfl dX7_send_11 ?_
    refine lv_aload_n hx hb dX7_send_14 rfl (lv_at hl 0 rfl) ?_
    refine gM 0 hx hb hts hX7 hown hK.1 hW rfl (by decide) rfl (hts (.fieldLink RX7 124 "SharedRegistersModel" "many" "I") (by decide +kernel)) rfl dX7_send_15 ?_
    rw [show mI z 36 0 = nI n from hn]
    refine lv_iload_n hx hb dX7_send_18 rfl (lv_at hl 1 rfl) ?_
    refine mis_n 0 hx hb hK.1 hW hS rfl (by decide) rfl (show _ < 301 by omega) (by decide) dX7_send_19 (fun H locs hW hS => ?_)
    refine lv_aload_n hx hb dX7_send_20 rfl (lv_at hl 0 rfl) ?_
    refine gM 2 hx hb hts hX7 hown hK.1 hW (by simp only [tI_mA, tJ_mA]) (by decide) rfl (hts (.fieldLink RX7 13 "SharedRegistersModel" "who" "[I") (by decide +kernel)) rfl dX7_send_21 ?_
    refine lv_aload_n hx hb dX7_send_24 rfl (lv_at hl 0 rfl) ?_
    refine gM 0 hx hb hts hX7 hown hK.1 hW (by simp only [tI_mA, tJ_mA]) (by decide) rfl (hts (.fieldLink RX7 124 "SharedRegistersModel" "many" "I") (by decide +kernel)) rfl dX7_send_25 ?_
    rw [show mI (tI z 0 n so) 36 0 = mI z 36 0 from by simp [tI_mI, tJ_mI, tI_mJ, tJ_mJ, up2]]
    rw [show mI z 36 0 = nI n from hn]
    refine lv_iload_n hx hb dX7_send_28 rfl (lv_at hl 2 rfl) ?_
    refine mis_n 1 hx hb hK.1 hW hS (by simp only [tI_mA, tJ_mA]) (by decide) rfl (show _ < 301 by omega) (by decide) dX7_send_29 (fun H locs hW hS => ?_)
    refine lv_aload_n hx hb dX7_send_30 rfl (lv_at hl 0 rfl) ?_
    refine gM 3 hx hb hts hX7 hown hK.1 hW (by simp only [tI_mA, tJ_mA]) (by decide) rfl (hts (.fieldLink RX7 16 "SharedRegistersModel" "whom" "[I") (by decide +kernel)) rfl dX7_send_31 ?_
    refine lv_aload_n hx hb dX7_send_34 rfl (lv_at hl 0 rfl) ?_
    refine gM 0 hx hb hts hX7 hown hK.1 hW (by simp only [tI_mA, tJ_mA]) (by decide) rfl (hts (.fieldLink RX7 124 "SharedRegistersModel" "many" "I") (by decide +kernel)) rfl dX7_send_35 ?_
    rw [show mI (tI (tI z 0 n so) 1 n wh) 36 0 = mI z 36 0 from by simp [tI_mI, tJ_mI, tI_mJ, tJ_mJ, up2]]
    rw [show mI z 36 0 = nI n from hn]
    refine lv_iload_n hx hb dX7_send_38 rfl (lv_at hl 3 rfl) ?_
    refine mis_n 2 hx hb hK.1 hW hS (by simp only [tI_mA, tJ_mA]) (by decide) rfl (show _ < 301 by omega) (by decide) dX7_send_39 (fun H locs hW hS => ?_)
    refine lv_aload_n hx hb dX7_send_40 rfl (lv_at hl 0 rfl) ?_
    refine gM 4 hx hb hts hX7 hown hK.1 hW (by simp only [tI_mA, tJ_mA]) (by decide) rfl (hts (.fieldLink RX7 19 "SharedRegistersModel" "about" "[I") (by decide +kernel)) rfl dX7_send_41 ?_
    refine lv_aload_n hx hb dX7_send_44 rfl (lv_at hl 0 rfl) ?_
    refine gM 0 hx hb hts hX7 hown hK.1 hW (by simp only [tI_mA, tJ_mA]) (by decide) rfl (hts (.fieldLink RX7 124 "SharedRegistersModel" "many" "I") (by decide +kernel)) rfl dX7_send_45 ?_
    rw [show mI (tI (tI (tI z 0 n so) 1 n wh) 2 n wm) 36 0 = mI z 36 0 from by simp [tI_mI, tJ_mI, tI_mJ, tJ_mJ, up2]]
    rw [show mI z 36 0 = nI n from hn]
    refine lv_iload hx hb dX7_send_48 (lv_at hl 4 rfl) ?_
    refine mis_n 3 hx hb hK.1 hW hS (by simp only [tI_mA, tJ_mA]) (by decide) rfl (show _ < 301 by omega) (by decide) dX7_send_50 (fun H locs hW hS => ?_)
    refine lv_aload_n hx hb dX7_send_51 rfl (lv_at hl 0 rfl) ?_
    refine gM 5 hx hb hts hX7 hown hK.1 hW (by simp only [tI_mA, tJ_mA]) (by decide) rfl (hts (.fieldLink RX7 22 "SharedRegistersModel" "ballot" "[I") (by decide +kernel)) rfl dX7_send_52 ?_
    refine lv_aload_n hx hb dX7_send_55 rfl (lv_at hl 0 rfl) ?_
    refine gM 0 hx hb hts hX7 hown hK.1 hW (by simp only [tI_mA, tJ_mA]) (by decide) rfl (hts (.fieldLink RX7 124 "SharedRegistersModel" "many" "I") (by decide +kernel)) rfl dX7_send_56 ?_
    rw [show mI (tI (tI (tI (tI z 0 n so) 1 n wh) 2 n wm) 3 n ab) 36 0 = mI z 36 0 from by simp [tI_mI, tJ_mI, tI_mJ, tJ_mJ, up2]]
    rw [show mI z 36 0 = nI n from hn]
    refine lv_iload hx hb dX7_send_59 (lv_at hl 5 rfl) ?_
    refine mis_n 4 hx hb hK.1 hW hS (by simp only [tI_mA, tJ_mA]) (by decide) rfl (show _ < 301 by omega) (by decide) dX7_send_61 (fun H locs hW hS => ?_)
    refine lv_aload_n hx hb dX7_send_62 rfl (lv_at hl 0 rfl) ?_
    refine gM 6 hx hb hts hX7 hown hK.1 hW (by simp only [tI_mA, tJ_mA]) (by decide) rfl (hts (.fieldLink RX7 25 "SharedRegistersModel" "tells" "[Z") (by decide +kernel)) rfl dX7_send_63 ?_
    refine lv_aload_n hx hb dX7_send_66 rfl (lv_at hl 0 rfl) ?_
    refine gM 0 hx hb hts hX7 hown hK.1 hW (by simp only [tI_mA, tJ_mA]) (by decide) rfl (hts (.fieldLink RX7 124 "SharedRegistersModel" "many" "I") (by decide +kernel)) rfl dX7_send_67 ?_
    rw [show mI (tI (tI (tI (tI (tI z 0 n so) 1 n wh) 2 n wm) 3 n ab) 4 n ba) 36 0 = mI z 36 0 from by simp [tI_mI, tJ_mI, tI_mJ, tJ_mJ, up2]]
    rw [show mI z 36 0 = nI n from hn]
    refine lv_iload hx hb dX7_send_70 (lv_at hl 6 rfl) ?_
    refine mzs_n 5 hx hb hK.1 hW hS (by simp only [tI_mA, tJ_mA]) (by decide) rfl (show _ < 301 by omega) (by decide) (by first | exact Or.inl rfl | exact Or.inr rfl | assumption) dX7_send_72 (fun H locs hW hS => ?_)
    refine lv_aload_n hx hb dX7_send_73 rfl (lv_at hl 0 rfl) ?_
    refine gM 7 hx hb hts hX7 hown hK.1 hW (by simp only [tI_mA, tJ_mA]) (by decide) rfl (hts (.fieldLink RX7 29 "SharedRegistersModel" "version" "[I") (by decide +kernel)) rfl dX7_send_74 ?_
    refine lv_aload_n hx hb dX7_send_77 rfl (lv_at hl 0 rfl) ?_
    refine gM 0 hx hb hts hX7 hown hK.1 hW (by simp only [tI_mA, tJ_mA]) (by decide) rfl (hts (.fieldLink RX7 124 "SharedRegistersModel" "many" "I") (by decide +kernel)) rfl dX7_send_78 ?_
    rw [show mI (tI (tI (tI (tI (tI (tI z 0 n so) 1 n wh) 2 n wm) 3 n ab) 4 n ba) 5 n te) 36 0 = mI z 36 0 from by simp [tI_mI, tJ_mI, tI_mJ, tJ_mJ, up2]]
    rw [show mI z 36 0 = nI n from hn]
    refine lv_iload hx hb dX7_send_81 (lv_at hl 7 rfl) ?_
    refine mis_n 6 hx hb hK.1 hW hS (by simp only [tI_mA, tJ_mA]) (by decide) rfl (show _ < 301 by omega) (by decide) dX7_send_83 (fun H locs hW hS => ?_)
    refine lv_aload_n hx hb dX7_send_84 rfl (lv_at hl 0 rfl) ?_
    refine gM 8 hx hb hts hX7 hown hK.1 hW (by simp only [tI_mA, tJ_mA]) (by decide) rfl (hts (.fieldLink RX7 32 "SharedRegistersModel" "value" "[J") (by decide +kernel)) rfl dX7_send_85 ?_
    refine lv_aload_n hx hb dX7_send_88 rfl (lv_at hl 0 rfl) ?_
    refine gM 0 hx hb hts hX7 hown hK.1 hW (by simp only [tI_mA, tJ_mA]) (by decide) rfl (hts (.fieldLink RX7 124 "SharedRegistersModel" "many" "I") (by decide +kernel)) rfl dX7_send_89 ?_
    rw [show mI (tI (tI (tI (tI (tI (tI (tI z 0 n so) 1 n wh) 2 n wm) 3 n ab) 4 n ba) 5 n te) 6 n ve) 36 0 = mI z 36 0 from by simp [tI_mI, tJ_mI, tI_mJ, tJ_mJ, up2]]
    rw [show mI z 36 0 = nI n from hn]
    refine lv_lload hx hb dX7_send_92 (lv_at hl 8 rfl) ?_
    refine mls_n 7 hx hb hK.1 hW hS (by simp only [tI_mA, tJ_mA]) (by decide) rfl (show _ < 301 by omega) (by decide) dX7_send_94 (fun H locs hW hS => ?_)
    refine lv_aload_n hx hb dX7_send_95 rfl (lv_at hl 0 rfl) ?_
    refine lv_dup hx hb dX7_send_96 rfl ?_
    refine gM 0 hx hb hts hX7 hown hK.1 hW (by simp only [tI_mA, tJ_mA]) (by decide) rfl (hts (.fieldLink RX7 124 "SharedRegistersModel" "many" "I") (by decide +kernel)) rfl dX7_send_97 ?_
    rw [show mI (tJ (tI (tI (tI (tI (tI (tI (tI z 0 n so) 1 n wh) 2 n wm) 3 n ab) 4 n ba) 5 n te) 6 n ve) 7 n va) 36 0 = mI z 36 0 from by simp [tI_mI, tJ_mI, tI_mJ, tJ_mJ, up2]]
    rw [show mI z 36 0 = nI n from hn]
    refine lv_iconst (v := 1) hx hb dX7_send_100 (by decide) ?_
    refine lv_iadd hx hb dX7_send_101 ?_
    rw [show nI n + 1 = nI (n + 1) from nI_1 _]
    refine pM_many hx hb hts hX7 hown hK.1 hW hS (by simp only [tI_mA, tJ_mA]) (hts (.fieldLink RX7 124 "SharedRegistersModel" "many" "I") (by decide +kernel)) dX7_send_102 (fun H locs hW hS => ?_)
    refine W.vret hx hb hr ?_ hS.2.2 dX7_send_105
    refine mq0 ?_ hW hS
    exact (by rw [mSend, if_pos hn3]; rfl)
set_option maxHeartbeats 4000000 in
set_option maxRecDepth 100000 in
theorem m7_lose0 (l : Launch) (D : va_G) (y : Nat → ClassId) (z : MS) (sz : Nat) (a r : Nat) (ha : a < 4) (hr19 : mI z 19 a = nI r) (hr0 : r < 200) : Met l yX7_lose0 wsX7_lose0 ({ frames := 0, cells := 0, slots := 0, locals := 0 }) (va_Pc [.ref (mA z 0 0), .int (nI a)] (mPre D y z sz)) (mQ0 D y z sz (fun u => u = tI (tI z 31 r 2) 19 a (-1))) 0 0 (mF z sz) := by
  refine Met.ofW (cc := cX7_lose0) (maxL := 2) (ret := none) (by decide) rfl ?_
  intro p e s m args below meth c s₁ B hml hv
  obtain ⟨rfl, hsz, hW0, hK⟩ := hv
  have hx := B.exec
  have hb := B.bytes
  have hr := B.returns
  have hts := atoms_spec (ws := wsX7_lose0) B.pre
  have hown : s.vm.findClass RX7 = some m.cls := findClass_of_methodNamed B.named
  have hlocks := B.notSynchronized
  subst hsz
  have hW := hW0.self (sz := s.heap.size)
  have hA : ∀ q, s.heap.size ≤ q → mF z s.heap.size q := fun q h => Or.inr h
  have hS : va_S (mF z s.heap.size) s.heap s.heap [] := va_S.rf
  have hl := lv_entry ([.ref (mA z 0 0), .int (nI a)]) (n := 2) (Nat.le_of_ble_eq_true rfl)
  rw [lg_entry_eq]
  generalize (lg_sl ([.ref (mA z 0 0), .int (nI a)]) ++ List.replicate (2 - (lg_sl ([.ref (mA z 0 0), .int (nI a)])).length) Slot.unset).toArray = ls at hl ⊢
  have hl : lv_has ls 2 [(0, .ref (mA z 0 0)), (1, .int (nI a))] := hl
  have hX7 : ∀ w ∈ wsX70, w ∈ wsX7_lose0 := by decide +kernel
  refine lv_aload_n hx hb dX7_lose0_0 rfl (lv_at hl 0 rfl) ?_
  refine gM 33 hx hb hts hX7 hown hK.1 hW rfl (by decide) rfl (hts (.fieldLink RX7 105 "SharedRegistersModel" "ended" "[I") (by decide +kernel)) rfl dX7_lose0_1 ?_
  refine lv_aload_n hx hb dX7_lose0_4 rfl (lv_at hl 0 rfl) ?_
  refine gM 20 hx hb hts hX7 hown hK.1 hW rfl (by decide) rfl (hts (.fieldLink RX7 69 "SharedRegistersModel" "now" "[I") (by decide +kernel)) rfl dX7_lose0_5 ?_
  refine lv_iload_n hx hb dX7_lose0_8 rfl (lv_at hl 1 rfl) ?_
  refine mil_n 19 hx hb hK.1 hW rfl (by decide) rfl (show _ < 4 by omega) (by decide) dX7_lose0_9 ?_
  rw [show mI z 19 a = nI r from hr19]
  refine lv_iconst (v := 2) hx hb dX7_lose0_10 (by decide) ?_
  refine mis_n 31 hx hb hK.1 hW hS rfl (by decide) rfl (show _ < 200 by omega) (by decide) dX7_lose0_11 (fun H locs hW hS => ?_)
  refine lv_aload_n hx hb dX7_lose0_12 rfl (lv_at hl 0 rfl) ?_
  refine gM 20 hx hb hts hX7 hown hK.1 hW (by simp only [tI_mA, tJ_mA]) (by decide) rfl (hts (.fieldLink RX7 69 "SharedRegistersModel" "now" "[I") (by decide +kernel)) rfl dX7_lose0_13 ?_
  refine lv_iload_n hx hb dX7_lose0_16 rfl (lv_at hl 1 rfl) ?_
  refine lv_iconst (v := (-1)) hx hb dX7_lose0_17 (by decide) ?_
  refine mis_n 19 hx hb hK.1 hW hS (by simp only [tI_mA, tJ_mA]) (by decide) rfl (show _ < 4 by omega) (by decide) dX7_lose0_18 (fun H locs hW hS => ?_)
  refine W.vret hx hb hr ?_ hS.2.2 dX7_lose0_19
  refine mq0 ?_ hW hS
  exact rfl
