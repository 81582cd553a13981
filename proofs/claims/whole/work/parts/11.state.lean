set_option maxHeartbeats 4000000 in
set_option maxRecDepth 100000 in
theorem m_State_versionOrNone (l : Launch) (D : va_G) (y : Nat → ClassId) (z : CS) (sz : Nat) (i : Nat) (hi : i < cNs z)  : Met l yX5_versionOrNone wsX5_versionOrNone ({ frames := 0, cells := 0, slots := 0, locals := 0 }) (va_Pc [.ref (cA z 5 i)] (cPre D y z sz)) (cQ1 D y z sz (fun v u => v = .int (if cI z 26 i = 0 then -1 else cI z 27 i) ∧ u = z)) 0 0 (cF z sz) := by
  refine Met.ofW (cc := cX5_versionOrNone) (maxL := 1) (ret := (some .int)) (by decide) rfl ?_
  intro p e s m args below meth c s₁ B hml hv
  obtain ⟨rfl, hsz, hW0, hK⟩ := hv
  have hx := B.exec
  have hb := B.bytes
  have hr := B.returns
  have hts := atoms_spec (ws := wsX5_versionOrNone) B.pre
  have hown : s.vm.findClass RX5 = some m.cls := findClass_of_methodNamed B.named
  have hlocks := B.notSynchronized
  subst hsz
  have hW := hW0.self (sz := s.heap.size)
  have hA : ∀ q, s.heap.size ≤ q → cF z s.heap.size q := fun q h => Or.inr h
  have hS : va_S (cF z s.heap.size) s.heap s.heap [] := va_S.rf
  have hl := lv_entry ([.ref (cA z 5 i)]) (n := 1) (Nat.le_of_ble_eq_true rfl)
  rw [lg_entry_eq]
  generalize (lg_sl ([.ref (cA z 5 i)]) ++ List.replicate (1 - (lg_sl ([.ref (cA z 5 i)])).length) Slot.unset).toArray = ls at hl ⊢
  have hl : lv_has ls 1 [(0, .ref (cA z 5 i))] := hl
  have hX5 : ∀ w ∈ wsX50, w ∈ wsX5_versionOrNone := by decide +kernel
  refine lv_aload_n hx hb dX5_versionOrNone_0 rfl (lv_at hl 0 rfl) ?_
  refine g_State_present hx hb hts hX5 hown hK.1 hW rfl (by first | assumption | omega | exact Nat.zero_lt_one | decide) (hts (.fieldLink RX5 9 "SharedRegisters$State" "present" "Z") (by decide +kernel)) dX5_versionOrNone_1 ?_
  refine lv_if_eq (tgt := 14) hx hb dX5_versionOrNone_4 (by decide) (fun c_4 => ?_) (fun c_4 => ?_)
  · refine lv_iconst (v := (-1)) hx hb dX5_versionOrNone_14 (by decide) ?_
    refine W.iret hx hb hr ?_ hS.2.2 dX5_versionOrNone_15
    refine cq1 ?_ hW hS
    exact ⟨by simp [c_4], rfl⟩
  · refine lv_aload_n hx hb dX5_versionOrNone_7 rfl (lv_at hl 0 rfl) ?_
    refine g_State_version hx hb hts hX5 hown hK.1 hW rfl (by first | assumption | omega | exact Nat.zero_lt_one | decide) (hts (.fieldLink RX5 15 "SharedRegisters$State" "version" "I") (by decide +kernel)) dX5_versionOrNone_8 ?_
    refine lv_goto (tgt := 15) hx hb dX5_versionOrNone_11 (by decide) ?_
    refine W.iret hx hb hr ?_ hS.2.2 dX5_versionOrNone_15
    refine cq1 ?_ hW hS
    exact ⟨by simp [c_4], rfl⟩
def hiW (a : Int64) : Int32 := (a >>> ((32 : Int32).toInt64 &&& 63)).toInt32
/-- does the change k with the argument a fail on the state i: 1 or 0 -/
def fFails (z : CS) (i k : Nat) (a : Int64) : Int32 := match k with
  | 1 => cI z 26 i
  | 3 => if cI z 26 i = 0 ∨ ¬ cI z 27 i = hiW a then 1 else 0
  | 5 => if cI z 26 i = 0 then 1 else 0
  | 6 => if cI z 26 i = 0 ∨ cJ z 1 i < a then 0 else 1
  | _ => 0
set_option maxHeartbeats 4000000 in
set_option maxRecDepth 100000 in
theorem m_State_fails (l : Launch) (D : va_G) (y : Nat → ClassId) (z : CS) (sz : Nat) (i k : Nat) (a : Int64) (hi : i < cNs z) (hk : k < 7) (hb26 : cI z 26 i = 0 ∨ cI z 26 i = 1)  : Met l yX5_fails wsX5_fails ({ frames := 0, cells := 0, slots := 0, locals := 0 }) (va_Pc [.ref (cA z 5 i), .int (nI k), .long a] (cPre D y z sz)) (cQ1 D y z sz (fun v u => v = .int (fFails z i k a) ∧ u = z)) 0 0 (cF z sz) := by
  refine Met.ofW (cc := cX5_fails) (maxL := 4) (ret := (some .boolean)) (by decide) rfl ?_
  intro p e s m args below meth c s₁ B hml hv
  obtain ⟨rfl, hsz, hW0, hK⟩ := hv
  have hx := B.exec
  have hb := B.bytes
  have hr := B.returns
  have hts := atoms_spec (ws := wsX5_fails) B.pre
  have hown : s.vm.findClass RX5 = some m.cls := findClass_of_methodNamed B.named
  have hlocks := B.notSynchronized
  subst hsz
  have hW := hW0.self (sz := s.heap.size)
  have hA : ∀ q, s.heap.size ≤ q → cF z s.heap.size q := fun q h => Or.inr h
  have hS : va_S (cF z s.heap.size) s.heap s.heap [] := va_S.rf
  have hl := lv_entry ([.ref (cA z 5 i), .int (nI k), .long a]) (n := 4) (Nat.le_of_ble_eq_true rfl)
  rw [lg_entry_eq]
  generalize (lg_sl ([.ref (cA z 5 i), .int (nI k), .long a]) ++ List.replicate (4 - (lg_sl ([.ref (cA z 5 i), .int (nI k), .long a])).length) Slot.unset).toArray = ls at hl ⊢
  have hl : lv_has ls 4 [(0, .ref (cA z 5 i)), (1, .int (nI k)), (2, .long a)] := hl
  have hX5 : ∀ w ∈ wsX50, w ∈ wsX5_fails := by decide +kernel
  refine lv_iload_n hx hb dX5_fails_0 rfl (lv_at hl 1 rfl) ?_
  rcases (show k = 0 ∨ k = 1 ∨ k = 2 ∨ k = 3 ∨ k = 4 ∨ k = 5 ∨ k = 6 by omega) with rfl | rfl | rfl | rfl | rfl | rfl | rfl
  · refine lv_tableOut (tgt := 105) hx hb dX5_fails_1 (by decide) (by decide) ?_
    refine lv_iconst (v := 0) hx hb dX5_fails_105 (by decide) ?_
    refine W.zret hx hb hr rfl ?_ hS.2.2 dX5_fails_106
    refine cq1 ?_ hW hS
    exact ⟨by simp [fFails], rfl⟩
  · refine lv_tableIn (off := 39) (tgt := 40) hx hb dX5_fails_1 (by decide) (by decide) (by decide) (by decide) ?_
    refine lv_aload_n hx hb dX5_fails_40 rfl (lv_at hl 0 rfl) ?_
    refine g_State_present hx hb hts hX5 hown hK.1 hW rfl (by first | assumption | omega | exact Nat.zero_lt_one | decide) (hts (.fieldLink RX5 9 "SharedRegisters$State" "present" "Z") (by decide +kernel)) dX5_fails_41 ?_
    refine W.zret hx hb hr (bo_n hb26) ?_ hS.2.2 dX5_fails_44
    refine cq1 ?_ hW hS
    exact ⟨by simp [fFails], rfl⟩
  · refine lv_tableIn (off := 104) (tgt := 105) hx hb dX5_fails_1 (by decide) (by decide) (by decide) (by decide) ?_
    refine lv_iconst (v := 0) hx hb dX5_fails_105 (by decide) ?_
    refine W.zret hx hb hr rfl ?_ hS.2.2 dX5_fails_106
    refine cq1 ?_ hW hS
    exact ⟨by simp [fFails], rfl⟩
  · refine lv_tableIn (off := 44) (tgt := 45) hx hb dX5_fails_1 (by decide) (by decide) (by decide) (by decide) ?_
    refine lv_aload_n hx hb dX5_fails_45 rfl (lv_at hl 0 rfl) ?_
    refine g_State_present hx hb hts hX5 hown hK.1 hW rfl (by first | assumption | omega | exact Nat.zero_lt_one | decide) (hts (.fieldLink RX5 9 "SharedRegisters$State" "present" "Z") (by decide +kernel)) dX5_fails_46 ?_
    refine lv_if_eq (tgt := 64) hx hb dX5_fails_49 (by decide) (fun c_49 => ?_) (fun c_49 => ?_)
    · refine lv_iconst (v := 1) hx hb dX5_fails_64 (by decide) ?_
      refine lv_goto (tgt := 69) hx hb dX5_fails_65 (by decide) ?_
      refine W.zret hx hb hr rfl ?_ hS.2.2 dX5_fails_69
      refine cq1 ?_ hW hS
      exact ⟨by simp [fFails, c_49], rfl⟩
    · refine lv_aload_n hx hb dX5_fails_52 rfl (lv_at hl 0 rfl) ?_
      refine g_State_version hx hb hts hX5 hown hK.1 hW rfl (by first | assumption | omega | exact Nat.zero_lt_one | decide) (hts (.fieldLink RX5 15 "SharedRegisters$State" "version" "I") (by decide +kernel)) dX5_fails_53 ?_
      refine lv_lload_n hx hb dX5_fails_56 rfl (lv_at hl 2 rfl) ?_
      refine lv_bipush (v := 32) hx hb dX5_fails_57 (by decide) ?_
      refine lv_lshr hx hb dX5_fails_59 rfl ?_
      refine lv_l2i hx hb dX5_fails_60 rfl ?_
      refine lv_icmp_eq (tgt := 68) hx hb dX5_fails_61 (by decide) (fun c_61 => ?_) (fun c_61 => ?_)
      · have c_61 : cI z 27 i = hiW a := c_61
        refine lv_iconst (v := 0) hx hb dX5_fails_68 (by decide) ?_
        refine W.zret hx hb hr rfl ?_ hS.2.2 dX5_fails_69
        refine cq1 ?_ hW hS
        exact ⟨by simp [fFails, c_49, c_61], rfl⟩
      · have c_61 : ¬ cI z 27 i = hiW a := c_61
        refine lv_iconst (v := 1) hx hb dX5_fails_64 (by decide) ?_
        refine lv_goto (tgt := 69) hx hb dX5_fails_65 (by decide) ?_
        refine W.zret hx hb hr rfl ?_ hS.2.2 dX5_fails_69
        refine cq1 ?_ hW hS
        exact ⟨by simp [fFails, c_49, c_61], rfl⟩
  · refine lv_tableIn (off := 104) (tgt := 105) hx hb dX5_fails_1 (by decide) (by decide) (by decide) (by decide) ?_
    refine lv_iconst (v := 0) hx hb dX5_fails_105 (by decide) ?_
    refine W.zret hx hb hr rfl ?_ hS.2.2 dX5_fails_106
    refine cq1 ?_ hW hS
    exact ⟨by simp [fFails], rfl⟩
  · refine lv_tableIn (off := 69) (tgt := 70) hx hb dX5_fails_1 (by decide) (by decide) (by decide) (by decide) ?_
    refine lv_aload_n hx hb dX5_fails_70 rfl (lv_at hl 0 rfl) ?_
    refine g_State_present hx hb hts hX5 hown hK.1 hW rfl (by first | assumption | omega | exact Nat.zero_lt_one | decide) (hts (.fieldLink RX5 9 "SharedRegisters$State" "present" "Z") (by decide +kernel)) dX5_fails_71 ?_
    refine lv_if_ne (tgt := 81) hx hb dX5_fails_74 (by decide) (fun c_74 => ?_) (fun c_74 => ?_)
    · refine lv_iconst (v := 0) hx hb dX5_fails_81 (by decide) ?_
      refine W.zret hx hb hr rfl ?_ hS.2.2 dX5_fails_82
      refine cq1 ?_ hW hS
      exact ⟨by simp [fFails, c_74], rfl⟩
    · refine lv_iconst (v := 1) hx hb dX5_fails_77 (by decide) ?_
      refine lv_goto (tgt := 82) hx hb dX5_fails_78 (by decide) ?_
      refine W.zret hx hb hr rfl ?_ hS.2.2 dX5_fails_82
      refine cq1 ?_ hW hS
      exact ⟨by simp [fFails, c_74], rfl⟩
  · refine lv_tableIn (off := 82) (tgt := 83) hx hb dX5_fails_1 (by decide) (by decide) (by decide) (by decide) ?_
    refine lv_aload_n hx hb dX5_fails_83 rfl (lv_at hl 0 rfl) ?_
    refine g_State_present hx hb hts hX5 hown hK.1 hW rfl (by first | assumption | omega | exact Nat.zero_lt_one | decide) (hts (.fieldLink RX5 9 "SharedRegisters$State" "present" "Z") (by decide +kernel)) dX5_fails_84 ?_
    refine lv_if_eq (tgt := 103) hx hb dX5_fails_87 (by decide) (fun c_87 => ?_) (fun c_87 => ?_)
    · refine lv_iconst (v := 0) hx hb dX5_fails_103 (by decide) ?_
      refine W.zret hx hb hr rfl ?_ hS.2.2 dX5_fails_104
      refine cq1 ?_ hW hS
      exact ⟨by simp [fFails, c_87], rfl⟩
    · refine lv_aload_n hx hb dX5_fails_90 rfl (lv_at hl 0 rfl) ?_
      refine g_State_value hx hb hts hX5 hown hK.1 hW rfl (by first | assumption | omega | exact Nat.zero_lt_one | decide) (hts (.fieldLink RX5 19 "SharedRegisters$State" "value" "J") (by decide +kernel)) dX5_fails_91 ?_
      refine lv_lload_n hx hb dX5_fails_94 rfl (lv_at hl 2 rfl) ?_
      refine W.lcmp hx hb dX5_fails_95 ?_
      refine lv_if_lt (tgt := 103) hx hb dX5_fails_96 (by decide) (fun c_96 => ?_) (fun c_96 => ?_)
      · rw [lg_cmp_lt] at c_96
        refine lv_iconst (v := 0) hx hb dX5_fails_103 (by decide) ?_
        refine W.zret hx hb hr rfl ?_ hS.2.2 dX5_fails_104
        refine cq1 ?_ hW hS
        exact ⟨by simp [fFails, c_87, c_96], rfl⟩
      · rw [lg_cmp_lt] at c_96
        refine lv_iconst (v := 1) hx hb dX5_fails_99 (by decide) ?_
        refine lv_goto (tgt := 104) hx hb dX5_fails_100 (by decide) ?_
        refine W.zret hx hb hr rfl ?_ hS.2.2 dX5_fails_104
        refine cq1 ?_ hW hS
        exact ⟨by simp [fFails, c_87, c_96], rfl⟩
set_option maxHeartbeats 4000000 in
set_option maxRecDepth 100000 in
theorem m_State_init (l : Launch) (D : va_G) (y : Nat → ClassId) (z : CS) (sz : Nat) (i : Nat) (pr ve : Int32) (va : Int64) (hi : i < cNs z) (hpr : pr = 0 ∨ pr = 1)  : Met l yX5_init wsX5_init ({ frames := 1, cells := 0, slots := 0, locals := 12 }) (va_Pc [.ref (cA z 5 i), .int pr, .int ve, .long va] (cPre D y z sz)) (cQ0 D y z sz (fun u => u = sJ (sI (sI z 26 i pr) 27 i ve) 1 i va)) 0 0 (cF z sz) := by
  refine Met.ofW (cc := cX5_init) (maxL := 5) (ret := none) (by decide) rfl ?_
  intro p e s m args below meth c s₁ B hml hv
  obtain ⟨rfl, hsz, hW0, hK⟩ := hv
  have hx := B.exec
  have hb := B.bytes
  have hr := B.returns
  have hts := atoms_spec (ws := wsX5_init) B.pre
  have hown : s.vm.findClass RX5 = some m.cls := findClass_of_methodNamed B.named
  have hlocks := B.notSynchronized
  have hin : meth.name = "<init>" := (name_of_methodNamed B.named B.method).1
  subst hsz
  have hW := hW0.self (sz := s.heap.size)
  have hA : ∀ q, s.heap.size ≤ q → cF z s.heap.size q := fun q h => Or.inr h
  have hS : va_S (cF z s.heap.size) s.heap s.heap [] := va_S.rf
  have hl := lv_entry ([.ref (cA z 5 i), .int pr, .int ve, .long va]) (n := 5) (Nat.le_of_ble_eq_true rfl)
  rw [lg_entry_eq]
  generalize (lg_sl ([.ref (cA z 5 i), .int pr, .int ve, .long va]) ++ List.replicate (5 - (lg_sl ([.ref (cA z 5 i), .int pr, .int ve, .long va])).length) Slot.unset).toArray = ls at hl ⊢
  have hl : lv_has ls 5 [(0, .ref (cA z 5 i)), (1, .int pr), (2, .int ve), (3, .long va)] := hl
  have hX5 : ∀ w ∈ wsX50, w ∈ wsX5_init := by decide +kernel
  refine lv_aload_n hx hb dX5_init_0 rfl (lv_at hl 0 rfl) ?_
  refine W.objInit hx hb hown (hts (.methodLink RX5 3 objectInit) (by decide +kernel)) (hts (.instanceMethod objectInit) (by decide +kernel)) (hts (.code objectInit ⟨#[0xb1]⟩ 1 none) (by decide +kernel)) rfl (by rw [hml]; exact hl.1) rfl dX5_init_1 (Nat.le_of_ble_eq_true rfl) (Nat.le_of_ble_eq_true rfl) ?_
  refine W.eq (g2 := F0 m 4 ls []) rfl ?_
  refine lv_aload_n hx hb dX5_init_4 rfl (lv_at hl 0 rfl) ?_
  refine lv_iload_n hx hb dX5_init_5 rfl (lv_at hl 1 rfl) ?_
  refine pF_State_present hx hb hts hX5 hown hK.1 hW hS hin rfl rfl (by first | assumption | omega | exact Nat.zero_lt_one | decide) (bo_n hpr) (bo_f hpr) (hts (.fieldLink RX5 9 "SharedRegisters$State" "present" "Z") (by decide +kernel)) dX5_init_6 (fun H locs hW hS => ?_)
  refine lv_aload_n hx hb dX5_init_9 rfl (lv_at hl 0 rfl) ?_
  refine lv_iload_n hx hb dX5_init_10 rfl (lv_at hl 2 rfl) ?_
  refine pF_State_version hx hb hts hX5 hown hK.1 hW hS hin rfl rfl (by first | assumption | omega | exact Nat.zero_lt_one | decide) (hts (.fieldLink RX5 15 "SharedRegisters$State" "version" "I") (by decide +kernel)) dX5_init_11 (fun H locs hW hS => ?_)
  refine lv_aload_n hx hb dX5_init_14 rfl (lv_at hl 0 rfl) ?_
  refine lv_lload_n hx hb dX5_init_15 rfl (lv_at hl 3 rfl) ?_
  refine pF_State_value hx hb hts hX5 hown hK.1 hW hS hin rfl rfl (by first | assumption | omega | exact Nat.zero_lt_one | decide) (hts (.fieldLink RX5 19 "SharedRegisters$State" "value" "J") (by decide +kernel)) dX5_init_16 (fun H locs hW hS => ?_)
  refine W.vret hx hb hr ?_ hS.2.2 dX5_init_19
  refine cq0 ?_ hW hS
  exact rfl
set_option maxHeartbeats 4000000 in
set_option maxRecDepth 100000 in
theorem m_State_next (l : Launch) (D : va_G) (y : Nat → ClassId) (z : CS) (sz : Nat) (i : Nat) (a : Int64) (hi : i < cNs z) (hV : cV z)  : Met l yX5_next wsX5_next ({ frames := 2, cells := 1, slots := 3, locals := 40 }) (va_Pc [.ref (cA z 5 i), .long a] (cPre D y z sz)) (cQ1 D y z sz (fun v u => ∃ q, v = .ref (cA u 5 (cNs z)) ∧ u = newS z q 1 (cI z 27 i + 1) a)) 1 3 (cF z sz) := by
  refine Met.ofW (cc := cX5_next) (maxL := 3) (ret := (some (.object "SharedRegisters$State"))) (by decide) rfl ?_
  intro p e s m args below meth c s₁ B hml hv
  obtain ⟨rfl, hsz, hW0, hK⟩ := hv
  have hx := B.exec
  have hb := B.bytes
  have hr := B.returns
  have hts := atoms_spec (ws := wsX5_next) B.pre
  have hown : s.vm.findClass RX5 = some m.cls := findClass_of_methodNamed B.named
  have hlocks := B.notSynchronized
  subst hsz
  have hW := hW0.self (sz := s.heap.size)
  have hA : ∀ q, s.heap.size ≤ q → cF z s.heap.size q := fun q h => Or.inr h
  have hS : va_S (cF z s.heap.size) s.heap s.heap [] := va_S.rf
  have hl := lv_entry ([.ref (cA z 5 i), .long a]) (n := 3) (Nat.le_of_ble_eq_true rfl)
  rw [lg_entry_eq]
  generalize (lg_sl ([.ref (cA z 5 i), .long a]) ++ List.replicate (3 - (lg_sl ([.ref (cA z 5 i), .long a])).length) Slot.unset).toArray = ls at hl ⊢
  have hl : lv_has ls 3 [(0, .ref (cA z 5 i)), (1, .long a)] := hl
  have hX5 : ∀ w ∈ wsX50, w ∈ wsX5_next := by decide +kernel
  have hi9 : i ≠ cNs z := by omega
  refine n_State hx hb hts hX5 hown (hts (.classLink RX5 10 RX5) (by decide +kernel)) (hts (.instantiable RX5 3) (by decide +kernel)) (hts (.initialized RX5) (by decide +kernel)) hK.1 hW hS hA hV (Nat.le_of_ble_eq_true rfl) (Nat.le_of_ble_eq_true rfl) dX5_next_0 (fun q H hW hS => ?_)
  refine lv_dup hx hb dX5_next_3 rfl ?_
  refine lv_iconst (v := 1) hx hb dX5_next_4 (by decide) ?_
  refine lv_aload_n hx hb dX5_next_5 rfl (lv_at hl 0 rfl) ?_
  refine g_State_version hx hb hts hX5 hown hK.1 hW (addS_ad (fun e9 => hi9 e9.2)).symm (show i < cNs z + 1 by omega) (hts (.fieldLink RX5 15 "SharedRegisters$State" "version" "I") (by decide +kernel)) dX5_next_6 ?_
  refine lv_iconst (v := 1) hx hb dX5_next_9 (by decide) ?_
  refine lv_iadd hx hb dX5_next_10 ?_
  refine lv_lload_n hx hb dX5_next_11 rfl (lv_at hl 1 rfl) ?_
  refine cc0 (va_runI (As := [.int 1, .int (cI (addS z q) 27 i + 1), .long a]) (rest := [.ref (cA (addS z q) 5 (cNs z))]) ⟨hx, hb, hml, hown, hts⟩ (m_State_init l D y (addS z q) _ (cNs z) 1 (cI (addS z q) 27 i + 1) a (Nat.lt_succ_self _) (Or.inr rfl)) (cwI 3 hts gX5_next_X5_init rfl rfl rfl (hts (.initialized RX5) (by decide +kernel)) (hts (.methodLink RX5 31 yX5_init) (by decide +kernel)) (hts (.instanceMethod yX5_init) (by decide +kernel)) rfl (by decide +kernel) ⟨Nat.le_of_ble_eq_true rfl, Nat.le_of_ble_eq_true rfl⟩) (cPreS hW hK (.ref (cA (addS z q) 5 (cNs z)) :: [.int 1, .int (cI (addS z q) 27 i + 1), .long a])) rfl rfl hl.1 rfl (lv_room (Nat.le_of_ble_eq_true rfl)) dX5_next_12 ⟨Nat.le_of_ble_eq_true rfl, Nat.le_of_ble_eq_true rfl⟩) hW hS hA (fun u12 H locs hu12 hW hS => ?_)
  subst hu12
  refine W.widen (k := 1) (n := 3) (Nat.le_of_ble_eq_true rfl) (Nat.le_of_ble_eq_true rfl) ?_
  refine W.aret hx hb hr (Or.inl ⟨_, rfl⟩) (Or.inr ⟨_, rfl⟩) ?_ hS.2.2 dX5_next_15
  refine cq1 ?_ hW hS
  exact ⟨q, rfl, by simp [newS, addS_cI, up2, hi9]⟩
/-- what the change makes of the state i, where it doesn't stay -/
def fChg (z : CS) (i k : Nat) (a : Int64) : Option (Int32 × Int32 × Int64) := if fFails z i k a = 0 then (match k with
  | 0 => none
  | 3 => some (1, cI z 27 i + 1, a.toInt32.toInt64)
  | 4 => some (1, cI z 27 i + 1, cJ z 1 i + a)
  | 5 => some (0, 0, 0)
  | _ => some (1, cI z 27 i + 1, a)) else none
def chgTo (z : CS) (i : Nat) (o : Option (Int32 × Int32 × Int64)) (v : Value) (u : CS) : Prop := match o with
  | none => v = .ref (cA z 5 i) ∧ u = z
  | some t => ∃ q, v = .ref (cA u 5 (cNs z)) ∧ u = newS z q t.1 t.2.1 t.2.2
set_option maxHeartbeats 4000000 in
set_option maxRecDepth 100000 in
theorem m_State_changed (l : Launch) (D : va_G) (y : Nat → ClassId) (z : CS) (sz : Nat) (i k : Nat) (a : Int64) (hi : i < cNs z) (hk : k < 7) (hb26 : cI z 26 i = 0 ∨ cI z 26 i = 1) (hV : cV z)  : Met l yX5_changed wsX5_changed ({ frames := 3, cells := 1, slots := 3, locals := 70 }) (va_Pc [.ref (cA z 5 i), .int (nI k), .long a] (cPre D y z sz)) (cQ1 D y z sz (fun v u => chgTo z i (fChg z i k a) v u)) 1 3 (cF z sz) := by
  refine Met.ofW (cc := cX5_changed) (maxL := 4) (ret := (some (.object "SharedRegisters$State"))) (by decide) rfl ?_
  intro p e s m args below meth c s₁ B hml hv
  obtain ⟨rfl, hsz, hW0, hK⟩ := hv
  have hx := B.exec
  have hb := B.bytes
  have hr := B.returns
  have hts := atoms_spec (ws := wsX5_changed) B.pre
  have hown : s.vm.findClass RX5 = some m.cls := findClass_of_methodNamed B.named
  have hlocks := B.notSynchronized
  subst hsz
  have hW := hW0.self (sz := s.heap.size)
  have hA : ∀ q, s.heap.size ≤ q → cF z s.heap.size q := fun q h => Or.inr h
  have hS : va_S (cF z s.heap.size) s.heap s.heap [] := va_S.rf
  have hl := lv_entry ([.ref (cA z 5 i), .int (nI k), .long a]) (n := 4) (Nat.le_of_ble_eq_true rfl)
  rw [lg_entry_eq]
  generalize (lg_sl ([.ref (cA z 5 i), .int (nI k), .long a]) ++ List.replicate (4 - (lg_sl ([.ref (cA z 5 i), .int (nI k), .long a])).length) Slot.unset).toArray = ls at hl ⊢
  have hl : lv_has ls 4 [(0, .ref (cA z 5 i)), (1, .int (nI k)), (2, .long a)] := hl
  have hX5 : ∀ w ∈ wsX50, w ∈ wsX5_changed := by decide +kernel
  refine lv_aload_n hx hb dX5_changed_0 rfl (lv_at hl 0 rfl) ?_
  refine lv_iload_n hx hb dX5_changed_1 rfl (lv_at hl 1 rfl) ?_
  refine lv_lload_n hx hb dX5_changed_2 rfl (lv_at hl 2 rfl) ?_
  refine cc1 (va_runV (As := [.int (nI k), .long a]) (rest := []) ⟨hx, hb, hml, hown, hts⟩ (m_State_fails l D y z _ i k a hi hk hb26) (cwV 2 hts gX5_changed_X5_fails rfl rfl rfl (by decide +kernel) ⟨Nat.le_of_ble_eq_true rfl, Nat.le_of_ble_eq_true rfl⟩) (cPreV (k := 5) (q := (RX5, TX5, 3)) hW hK hi rfl rfl [.int (nI k), .long a]) rfl rfl hl.1 rfl (lv_room (Nat.le_of_ble_eq_true rfl)) dX5_changed_3 ⟨Nat.le_of_ble_eq_true rfl, Nat.le_of_ble_eq_true rfl⟩) hW hS hA (fun v3 u3 H locs hu3 hW hS => ?_)
  obtain ⟨rfl, rfl⟩ := hu3
  refine lv_if_eq (tgt := 11) hx hb dX5_changed_6 (by decide) (fun c_6 => ?_) (fun c_6 => ?_)
  · refine lv_iload_n hx hb dX5_changed_11 rfl (lv_at hl 1 rfl) ?_
    rcases (show k = 0 ∨ k = 1 ∨ k = 2 ∨ k = 3 ∨ k = 4 ∨ k = 5 ∨ k = 6 by omega) with rfl | rfl | rfl | rfl | rfl | rfl | rfl
    · refine lv_tableIn (off := 44) (tgt := 56) hx hb dX5_changed_12 (by decide) (by decide) (by decide) (by decide) ?_
      refine lv_aload_n hx hb dX5_changed_56 rfl (lv_at hl 0 rfl) ?_
      refine W.widen (k := 1) (n := 3) (Nat.le_of_ble_eq_true rfl) (Nat.le_of_ble_eq_true rfl) ?_
      refine W.aret hx hb hr (Or.inl ⟨_, rfl⟩) (Or.inr ⟨_, rfl⟩) ?_ hS.2.2 dX5_changed_57
      refine cq1 ?_ hW hS
      exact (by unfold fChg; rw [if_pos c_6]; exact ⟨rfl, rfl⟩)
    · refine lv_tableIn (off := 76) (tgt := 88) hx hb dX5_changed_12 (by decide) (by decide) (by decide) (by decide) ?_
      refine lv_aload_n hx hb dX5_changed_88 rfl (lv_at hl 0 rfl) ?_
      refine lv_lload_n hx hb dX5_changed_89 rfl (lv_at hl 2 rfl) ?_
      refine cc1 (va_runV (As := [.long (a)]) (rest := []) ⟨hx, hb, hml, hown, hts⟩ (m_State_next l D y u3 _ i (a) hi hV) (cwV 1 hts gX5_changed_X5_next rfl rfl rfl (by decide +kernel) ⟨Nat.le_of_ble_eq_true rfl, Nat.le_of_ble_eq_true rfl⟩) (cPreV (k := 5) (q := (RX5, TX5, 3)) hW hK hi rfl rfl [.long (a)]) rfl rfl hl.1 rfl (lv_room (Nat.le_of_ble_eq_true rfl)) dX5_changed_90 ⟨Nat.le_of_ble_eq_true rfl, Nat.le_of_ble_eq_true rfl⟩) hW hS hA (fun v90 u90 H locs hu90 hW hS => ?_)
      obtain ⟨q, rfl, rfl⟩ := hu90
      refine W.widen (k := 1) (n := 3) (Nat.le_of_ble_eq_true rfl) (Nat.le_of_ble_eq_true rfl) ?_
      refine W.aret hx hb hr (Or.inl ⟨_, rfl⟩) (Or.inr ⟨_, rfl⟩) ?_ hS.2.2 dX5_changed_93
      refine cq1 ?_ hW hS
      exact (by unfold fChg; rw [if_pos c_6]; exact ⟨q, rfl, rfl⟩)
    · refine lv_tableIn (off := 76) (tgt := 88) hx hb dX5_changed_12 (by decide) (by decide) (by decide) (by decide) ?_
      refine lv_aload_n hx hb dX5_changed_88 rfl (lv_at hl 0 rfl) ?_
      refine lv_lload_n hx hb dX5_changed_89 rfl (lv_at hl 2 rfl) ?_
      refine cc1 (va_runV (As := [.long (a)]) (rest := []) ⟨hx, hb, hml, hown, hts⟩ (m_State_next l D y u3 _ i (a) hi hV) (cwV 1 hts gX5_changed_X5_next rfl rfl rfl (by decide +kernel) ⟨Nat.le_of_ble_eq_true rfl, Nat.le_of_ble_eq_true rfl⟩) (cPreV (k := 5) (q := (RX5, TX5, 3)) hW hK hi rfl rfl [.long (a)]) rfl rfl hl.1 rfl (lv_room (Nat.le_of_ble_eq_true rfl)) dX5_changed_90 ⟨Nat.le_of_ble_eq_true rfl, Nat.le_of_ble_eq_true rfl⟩) hW hS hA (fun v90 u90 H locs hu90 hW hS => ?_)
      obtain ⟨q, rfl, rfl⟩ := hu90
      refine W.widen (k := 1) (n := 3) (Nat.le_of_ble_eq_true rfl) (Nat.le_of_ble_eq_true rfl) ?_
      refine W.aret hx hb hr (Or.inl ⟨_, rfl⟩) (Or.inr ⟨_, rfl⟩) ?_ hS.2.2 dX5_changed_93
      refine cq1 ?_ hW hS
      exact (by unfold fChg; rw [if_pos c_6]; exact ⟨q, rfl, rfl⟩)
    · refine lv_tableIn (off := 46) (tgt := 58) hx hb dX5_changed_12 (by decide) (by decide) (by decide) (by decide) ?_
      refine lv_aload_n hx hb dX5_changed_58 rfl (lv_at hl 0 rfl) ?_
      refine lv_lload_n hx hb dX5_changed_59 rfl (lv_at hl 2 rfl) ?_
      refine lv_l2i hx hb dX5_changed_60 rfl ?_
      refine lv_i2l hx hb dX5_changed_61 rfl ?_
      refine cc1 (va_runV (As := [.long (a.toInt32.toInt64)]) (rest := []) ⟨hx, hb, hml, hown, hts⟩ (m_State_next l D y u3 _ i (a.toInt32.toInt64) hi hV) (cwV 1 hts gX5_changed_X5_next rfl rfl rfl (by decide +kernel) ⟨Nat.le_of_ble_eq_true rfl, Nat.le_of_ble_eq_true rfl⟩) (cPreV (k := 5) (q := (RX5, TX5, 3)) hW hK hi rfl rfl [.long (a.toInt32.toInt64)]) rfl rfl hl.1 rfl (lv_room (Nat.le_of_ble_eq_true rfl)) dX5_changed_62 ⟨Nat.le_of_ble_eq_true rfl, Nat.le_of_ble_eq_true rfl⟩) hW hS hA (fun v62 u62 H locs hu62 hW hS => ?_)
      obtain ⟨q, rfl, rfl⟩ := hu62
      refine W.widen (k := 1) (n := 3) (Nat.le_of_ble_eq_true rfl) (Nat.le_of_ble_eq_true rfl) ?_
      refine W.aret hx hb hr (Or.inl ⟨_, rfl⟩) (Or.inr ⟨_, rfl⟩) ?_ hS.2.2 dX5_changed_65
      refine cq1 ?_ hW hS
      exact (by unfold fChg; rw [if_pos c_6]; exact ⟨q, rfl, rfl⟩)
    · refine lv_tableIn (off := 54) (tgt := 66) hx hb dX5_changed_12 (by decide) (by decide) (by decide) (by decide) ?_
      refine lv_aload_n hx hb dX5_changed_66 rfl (lv_at hl 0 rfl) ?_
      refine lv_aload_n hx hb dX5_changed_67 rfl (lv_at hl 0 rfl) ?_
      refine g_State_value hx hb hts hX5 hown hK.1 hW rfl (by first | assumption | omega | exact Nat.zero_lt_one | decide) (hts (.fieldLink RX5 19 "SharedRegisters$State" "value" "J") (by decide +kernel)) dX5_changed_68 ?_
      refine lv_lload_n hx hb dX5_changed_71 rfl (lv_at hl 2 rfl) ?_
      refine lv_ladd hx hb dX5_changed_72 ?_
      refine cc1 (va_runV (As := [.long (cJ u3 1 i + a)]) (rest := []) ⟨hx, hb, hml, hown, hts⟩ (m_State_next l D y u3 _ i (cJ u3 1 i + a) hi hV) (cwV 1 hts gX5_changed_X5_next rfl rfl rfl (by decide +kernel) ⟨Nat.le_of_ble_eq_true rfl, Nat.le_of_ble_eq_true rfl⟩) (cPreV (k := 5) (q := (RX5, TX5, 3)) hW hK hi rfl rfl [.long (cJ u3 1 i + a)]) rfl rfl hl.1 rfl (lv_room (Nat.le_of_ble_eq_true rfl)) dX5_changed_73 ⟨Nat.le_of_ble_eq_true rfl, Nat.le_of_ble_eq_true rfl⟩) hW hS hA (fun v73 u73 H locs hu73 hW hS => ?_)
      obtain ⟨q, rfl, rfl⟩ := hu73
      refine W.widen (k := 1) (n := 3) (Nat.le_of_ble_eq_true rfl) (Nat.le_of_ble_eq_true rfl) ?_
      refine W.aret hx hb hr (Or.inl ⟨_, rfl⟩) (Or.inr ⟨_, rfl⟩) ?_ hS.2.2 dX5_changed_76
      refine cq1 ?_ hW hS
      exact (by unfold fChg; rw [if_pos c_6]; exact ⟨q, rfl, rfl⟩)
    · refine lv_tableIn (off := 65) (tgt := 77) hx hb dX5_changed_12 (by decide) (by decide) (by decide) (by decide) ?_
      refine n_State hx hb hts hX5 hown (hts (.classLink RX5 10 RX5) (by decide +kernel)) (hts (.instantiable RX5 3) (by decide +kernel)) (hts (.initialized RX5) (by decide +kernel)) hK.1 hW hS hA hV (Nat.le_of_ble_eq_true rfl) (Nat.le_of_ble_eq_true rfl) dX5_changed_77 (fun q H hW hS => ?_)
      refine lv_dup hx hb dX5_changed_80 rfl ?_
      refine lv_iconst (v := 0) hx hb dX5_changed_81 (by decide) ?_
      refine lv_iconst (v := 0) hx hb dX5_changed_82 (by decide) ?_
      refine lv_lconst (v := 0) hx hb dX5_changed_83 (by decide) ?_
      refine cc0 (va_runI (As := [.int 0, .int 0, .long 0]) (rest := [.ref (cA (addS u3 q) 5 (cNs u3))]) ⟨hx, hb, hml, hown, hts⟩ (m_State_init l D y (addS u3 q) _ (cNs u3) 0 0 0 (Nat.lt_succ_self _) (Or.inl rfl)) (cwI 3 hts gX5_changed_X5_init rfl rfl rfl (hts (.initialized RX5) (by decide +kernel)) (hts (.methodLink RX5 31 yX5_init) (by decide +kernel)) (hts (.instanceMethod yX5_init) (by decide +kernel)) rfl (by decide +kernel) ⟨Nat.le_of_ble_eq_true rfl, Nat.le_of_ble_eq_true rfl⟩) (cPreS hW hK (.ref (cA (addS u3 q) 5 (cNs u3)) :: [.int 0, .int 0, .long 0])) rfl rfl hl.1 rfl (lv_room (Nat.le_of_ble_eq_true rfl)) dX5_changed_84 ⟨Nat.le_of_ble_eq_true rfl, Nat.le_of_ble_eq_true rfl⟩) hW hS hA (fun u84 H locs hu84 hW hS => ?_)
      subst hu84
      refine W.widen (k := 1) (n := 3) (Nat.le_of_ble_eq_true rfl) (Nat.le_of_ble_eq_true rfl) ?_
      refine W.aret hx hb hr (Or.inl ⟨_, rfl⟩) (Or.inr ⟨_, rfl⟩) ?_ hS.2.2 dX5_changed_87
      refine cq1 ?_ hW hS
      exact (by unfold fChg; rw [if_pos c_6]; exact ⟨q, rfl, rfl⟩)
    · refine lv_tableIn (off := 76) (tgt := 88) hx hb dX5_changed_12 (by decide) (by decide) (by decide) (by decide) ?_
      refine lv_aload_n hx hb dX5_changed_88 rfl (lv_at hl 0 rfl) ?_
      refine lv_lload_n hx hb dX5_changed_89 rfl (lv_at hl 2 rfl) ?_
      refine cc1 (va_runV (As := [.long (a)]) (rest := []) ⟨hx, hb, hml, hown, hts⟩ (m_State_next l D y u3 _ i (a) hi hV) (cwV 1 hts gX5_changed_X5_next rfl rfl rfl (by decide +kernel) ⟨Nat.le_of_ble_eq_true rfl, Nat.le_of_ble_eq_true rfl⟩) (cPreV (k := 5) (q := (RX5, TX5, 3)) hW hK hi rfl rfl [.long (a)]) rfl rfl hl.1 rfl (lv_room (Nat.le_of_ble_eq_true rfl)) dX5_changed_90 ⟨Nat.le_of_ble_eq_true rfl, Nat.le_of_ble_eq_true rfl⟩) hW hS hA (fun v90 u90 H locs hu90 hW hS => ?_)
      obtain ⟨q, rfl, rfl⟩ := hu90
      refine W.widen (k := 1) (n := 3) (Nat.le_of_ble_eq_true rfl) (Nat.le_of_ble_eq_true rfl) ?_
      refine W.aret hx hb hr (Or.inl ⟨_, rfl⟩) (Or.inr ⟨_, rfl⟩) ?_ hS.2.2 dX5_changed_93
      refine cq1 ?_ hW hS
      exact (by unfold fChg; rw [if_pos c_6]; exact ⟨q, rfl, rfl⟩)
  · refine lv_aload_n hx hb dX5_changed_9 rfl (lv_at hl 0 rfl) ?_
    refine W.widen (k := 1) (n := 3) (Nat.le_of_ble_eq_true rfl) (Nat.le_of_ble_eq_true rfl) ?_
    refine W.aret hx hb hr (Or.inl ⟨_, rfl⟩) (Or.inr ⟨_, rfl⟩) ?_ hS.2.2 dX5_changed_10
    refine cq1 ?_ hW hS
    exact (by unfold fChg; rw [if_neg c_6]; exact ⟨rfl, rfl⟩)
