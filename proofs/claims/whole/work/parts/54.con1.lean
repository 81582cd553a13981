set_option maxHeartbeats 4000000 in
set_option maxRecDepth 100000 in
theorem g_Register_init (l : Launch) (D : va_G) (y : Nat → ClassId) (ad : Nat → Nat → Nat) (N : Nat → Nat) (cell : Nat → Nat → va_E) (sz : Nat) (i st : Nat) (hi : i < N 2) (hc : cell 2 i = .inr (2, [.int 0, .int 0, .null])) : Met l yX2_init wsX2_init ({ frames := 1, cells := 0, slots := 0, locals := 20 }) (va_Pc [.ref (ad 2 i), .ref st] (gPre D y ad N cell sz)) (gQ0 D ad N sz (fun ad' N' cell' => ad' = ad ∧ N' = N ∧ cell' = up2 cell 2 i (.inr (2, [.int 0, .int 0, .ref st])))) 0 0 (gA ad N sz) := by
  refine Met.ofW (cc := cX2_init) (maxL := 2) (ret := none) (by decide) rfl ?_
  intro p e s m args below meth c s₁ B hml hv
  obtain ⟨rfl, hsz, hW0, hK, hO⟩ := hv
  have hx := B.exec
  have hb := B.bytes
  have hr := B.returns
  have hts := atoms_spec (ws := wsX2_init) B.pre
  have hown : s.vm.findClass RX2 = some m.cls := findClass_of_methodNamed B.named
  have hin : meth.name = "<init>" := (name_of_methodNamed B.named B.method).1
  subst hsz
  have hW := hW0.self (sz := s.heap.size)
  have hA : ∀ q, s.heap.size ≤ q → gA ad N s.heap.size q := fun q h => Or.inr h
  have hS : va_S (gA ad N s.heap.size) s.heap s.heap [] := va_S.rf
  have hl := lv_entry ([.ref (ad 2 i), .ref st]) (n := 2) (Nat.le_of_ble_eq_true rfl)
  rw [lg_entry_eq]
  generalize (lg_sl ([.ref (ad 2 i), .ref st]) ++ List.replicate (2 - (lg_sl ([.ref (ad 2 i), .ref st])).length) Slot.unset).toArray = ls at hl ⊢
  have hl : lv_has ls 2 [(0, .ref (ad 2 i)), (1, .ref st)] := hl
  have hX2 : ∀ w ∈ wsX20, w ∈ wsX2_init := by decide +kernel
  refine lv_aload_n hx hb dX2_init_0 rfl (lv_at hl 0 rfl) ?_
  refine W.objInit hx hb hown (hts (.methodLink RX2 1 objectInit) (by decide +kernel)) (hts (.instanceMethod objectInit) (by decide +kernel)) (hts (.code objectInit ⟨#[0xb1]⟩ 1 none) (by decide +kernel)) rfl (by rw [hml]; exact hl.1) rfl dX2_init_1 (Nat.le_of_ble_eq_true rfl) (Nat.le_of_ble_eq_true rfl) ?_
  refine W.eq (g2 := F0 m 4 ls []) rfl ?_
  refine lv_aload_n hx hb dX2_init_4 rfl (lv_at hl 0 rfl) ?_
  refine lv_iconst (v := 0) hx hb dX2_init_5 (by decide) ?_
  refine gz_put (ci := 2) (C := RX2) (T := TX2) (Nf := 3) hx hb hts hX2 tyX2 tyX2_ok nmX2 hown hK.1 hW hS (k := 2) (i := i) hi rfl (fs := [.int 0, .int 0, .null]) hc rfl 0 (by decide) (hts (.fieldLink RX2 7 "SharedRegisters$Register" "promise" "I") (by decide +kernel)) (fun _ h9 => h9) rfl (ty := .int) (v := .int 0) (by decide +kernel) rfl rfl (Nat.le_of_ble_eq_true rfl) dX2_init_6 (cell' := up2 cell 2 i (.inr (2, [.int 0, .int 0, .null]))) (by rw [up2_s]; rfl) (fun k' i' _ h => up2_n h) (fun H locs hW hS => ?_)
  refine lv_aload_n hx hb dX2_init_9 rfl (lv_at hl 0 rfl) ?_
  refine lv_iconst (v := 0) hx hb dX2_init_10 (by decide) ?_
  refine gz_put (ci := 2) (C := RX2) (T := TX2) (Nf := 3) hx hb hts hX2 tyX2 tyX2_ok nmX2 hown hK.1 hW hS (k := 2) (i := i) hi rfl (fs := [.int 0, .int 0, .null]) (up2_s _ _ _ _) rfl 1 (by decide) (hts (.fieldLink RX2 13 "SharedRegisters$Register" "ballot" "I") (by decide +kernel)) (fun _ h9 => h9) rfl (ty := .int) (v := .int 0) (by decide +kernel) rfl rfl (Nat.le_of_ble_eq_true rfl) dX2_init_11 (cell' := up2 cell 2 i (.inr (2, [.int 0, .int 0, .null]))) (by rw [up2_s]; rfl) (fun k' i' _ h => (up2_n h).trans (up2_n h).symm) (fun H locs hW hS => ?_)
  refine lv_aload_n hx hb dX2_init_14 rfl (lv_at hl 0 rfl) ?_
  refine lv_aload_n hx hb dX2_init_15 rfl (lv_at hl 1 rfl) ?_
  refine gz_put (ci := 2) (C := RX2) (T := TX2) (Nf := 3) hx hb hts hX2 tyX2 tyX2_ok nmX2 hown hK.1 hW hS (k := 2) (i := i) hi rfl (fs := [.int 0, .int 0, .null]) (up2_s _ _ _ _) rfl 2 (by decide) (hts (.fieldLink RX2 16 "SharedRegisters$Register" "state" "LSharedRegisters$State;") (by decide +kernel)) (fun _ h9 => h9) rfl (ty := .object "SharedRegisters$State") (v := .ref st) (by decide +kernel) rfl rfl (Nat.le_of_ble_eq_true rfl) dX2_init_16 (cell' := up2 cell 2 i (.inr (2, [.int 0, .int 0, .ref st]))) (by rw [up2_s]; rfl) (fun k' i' _ h => (up2_n h).trans (up2_n h).symm) (fun H locs hW hS => ?_)
  refine W.vret hx hb hr ?_ hS.2.2 dX2_init_19
  refine gq0 ?_ hW hS
  exact ⟨rfl, rfl, rfl⟩
set_option maxHeartbeats 4000000 in
set_option maxRecDepth 100000 in
theorem g_Message_init (l : Launch) (D : va_G) (y : Nat → ClassId) (ad : Nat → Nat → Nat) (N : Nat → Nat) (cell : Nat → Nat → va_E) (sz : Nat) (i st : Nat) (hi : i < N 1) (hc : cell 1 i = .inr (1, [.int 0, .int 0, .int 0, .int 0, .int 0, .int 0, .null])) : Met l yX1_init wsX1_init ({ frames := 1, cells := 0, slots := 0, locals := 20 }) (va_Pc [.ref (ad 1 i), .ref st] (gPre D y ad N cell sz)) (gQ0 D ad N sz (fun ad' N' cell' => ad' = ad ∧ N' = N ∧ cell' = up2 cell 1 i (.inr (1, [.int 0, .int 0, .int 0, .int 0, .int 0, .int 0, .ref st])))) 0 0 (gA ad N sz) := by
  refine Met.ofW (cc := cX1_init) (maxL := 2) (ret := none) (by decide) rfl ?_
  intro p e s m args below meth c s₁ B hml hv
  obtain ⟨rfl, hsz, hW0, hK, hO⟩ := hv
  have hx := B.exec
  have hb := B.bytes
  have hr := B.returns
  have hts := atoms_spec (ws := wsX1_init) B.pre
  have hown : s.vm.findClass RX1 = some m.cls := findClass_of_methodNamed B.named
  have hin : meth.name = "<init>" := (name_of_methodNamed B.named B.method).1
  subst hsz
  have hW := hW0.self (sz := s.heap.size)
  have hA : ∀ q, s.heap.size ≤ q → gA ad N s.heap.size q := fun q h => Or.inr h
  have hS : va_S (gA ad N s.heap.size) s.heap s.heap [] := va_S.rf
  have hl := lv_entry ([.ref (ad 1 i), .ref st]) (n := 2) (Nat.le_of_ble_eq_true rfl)
  rw [lg_entry_eq]
  generalize (lg_sl ([.ref (ad 1 i), .ref st]) ++ List.replicate (2 - (lg_sl ([.ref (ad 1 i), .ref st])).length) Slot.unset).toArray = ls at hl ⊢
  have hl : lv_has ls 2 [(0, .ref (ad 1 i)), (1, .ref st)] := hl
  have hX1 : ∀ w ∈ wsX10, w ∈ wsX1_init := by decide +kernel
  refine lv_aload_n hx hb dX1_init_0 rfl (lv_at hl 0 rfl) ?_
  refine W.objInit hx hb hown (hts (.methodLink RX1 1 objectInit) (by decide +kernel)) (hts (.instanceMethod objectInit) (by decide +kernel)) (hts (.code objectInit ⟨#[0xb1]⟩ 1 none) (by decide +kernel)) rfl (by rw [hml]; exact hl.1) rfl dX1_init_1 (Nat.le_of_ble_eq_true rfl) (Nat.le_of_ble_eq_true rfl) ?_
  refine W.eq (g2 := F0 m 4 ls []) rfl ?_
  refine lv_aload_n hx hb dX1_init_4 rfl (lv_at hl 0 rfl) ?_
  refine lv_aload_n hx hb dX1_init_5 rfl (lv_at hl 1 rfl) ?_
  refine gz_put (ci := 1) (C := RX1) (T := TX1) (Nf := 7) hx hb hts hX1 tyX1 tyX1_ok nmX1 hown hK.1 hW hS (k := 1) (i := i) hi rfl (fs := [.int 0, .int 0, .int 0, .int 0, .int 0, .int 0, .null]) hc rfl 6 (by decide) (hts (.fieldLink RX1 7 "SharedRegisters$Message" "state" "LSharedRegisters$State;") (by decide +kernel)) (fun _ h9 => h9) rfl (ty := .object "SharedRegisters$State") (v := .ref st) (by decide +kernel) rfl rfl (Nat.le_of_ble_eq_true rfl) dX1_init_6 (cell' := up2 cell 1 i (.inr (1, [.int 0, .int 0, .int 0, .int 0, .int 0, .int 0, .ref st]))) (by rw [up2_s]; rfl) (fun k' i' _ h => up2_n h) (fun H locs hW hS => ?_)
  refine W.vret hx hb hr ?_ hS.2.2 dX1_init_9
  refine gq0 ?_ hW hS
  exact ⟨rfl, rfl, rfl⟩
set_option maxHeartbeats 4000000 in
set_option maxRecDepth 100000 in
theorem g_State_init (l : Launch) (D : va_G) (y : Nat → ClassId) (ad : Nat → Nat → Nat) (N : Nat → Nat) (cell : Nat → Nat → va_E) (sz : Nat) (hi : 0 < N 5) (hc : cell 5 0 = .inr (5, [.int 0, .int 0, .long 0])) : Met l yX5_init wsX5_init ({ frames := 1, cells := 0, slots := 0, locals := 20 }) (va_Pc [.ref (ad 5 0), .int 0, .int 0, .long 0] (gPre D y ad N cell sz)) (gQ0 D ad N sz (fun ad' N' cell' => ad' = ad ∧ N' = N ∧ cell' = up2 cell 5 0 (.inr (5, [.int 0, .int 0, .long 0])))) 0 0 (gA ad N sz) := by
  refine Met.ofW (cc := cX5_init) (maxL := 5) (ret := none) (by decide) rfl ?_
  intro p e s m args below meth c s₁ B hml hv
  obtain ⟨rfl, hsz, hW0, hK, hO⟩ := hv
  have hx := B.exec
  have hb := B.bytes
  have hr := B.returns
  have hts := atoms_spec (ws := wsX5_init) B.pre
  have hown : s.vm.findClass RX5 = some m.cls := findClass_of_methodNamed B.named
  have hin : meth.name = "<init>" := (name_of_methodNamed B.named B.method).1
  subst hsz
  have hW := hW0.self (sz := s.heap.size)
  have hA : ∀ q, s.heap.size ≤ q → gA ad N s.heap.size q := fun q h => Or.inr h
  have hS : va_S (gA ad N s.heap.size) s.heap s.heap [] := va_S.rf
  have hl := lv_entry ([.ref (ad 5 0), .int 0, .int 0, .long 0]) (n := 5) (Nat.le_of_ble_eq_true rfl)
  rw [lg_entry_eq]
  generalize (lg_sl ([.ref (ad 5 0), .int 0, .int 0, .long 0]) ++ List.replicate (5 - (lg_sl ([.ref (ad 5 0), .int 0, .int 0, .long 0])).length) Slot.unset).toArray = ls at hl ⊢
  have hl : lv_has ls 5 [(0, .ref (ad 5 0)), (1, .int 0), (2, .int 0), (3, .long 0)] := hl
  have hX5 : ∀ w ∈ wsX50, w ∈ wsX5_init := by decide +kernel
  refine lv_aload_n hx hb dX5_init_0 rfl (lv_at hl 0 rfl) ?_
  refine W.objInit hx hb hown (hts (.methodLink RX5 3 objectInit) (by decide +kernel)) (hts (.instanceMethod objectInit) (by decide +kernel)) (hts (.code objectInit ⟨#[0xb1]⟩ 1 none) (by decide +kernel)) rfl (by rw [hml]; exact hl.1) rfl dX5_init_1 (Nat.le_of_ble_eq_true rfl) (Nat.le_of_ble_eq_true rfl) ?_
  refine W.eq (g2 := F0 m 4 ls []) rfl ?_
  refine lv_aload_n hx hb dX5_init_4 rfl (lv_at hl 0 rfl) ?_
  refine lv_iload_n hx hb dX5_init_5 rfl (lv_at hl 1 rfl) ?_
  refine gz_putF (ci := 5) (C := RX5) (T := TX5) (Nf := 3) hx hb hts hX5 tyX5 tyX5_ok nmX5 hown hK.1 hW hS (k := 5) (i := 0) hi rfl (fs := [.int 0, .int 0, .long 0]) hc rfl 0 (by decide) (hts (.fieldLink RX5 9 "SharedRegisters$State" "present" "Z") (by decide +kernel)) (fun _ h9 => h9) rfl hin rfl (ty := .boolean) (v := .int 0) (by decide +kernel) rfl rfl (Nat.le_of_ble_eq_true rfl) dX5_init_6 (cell' := up2 cell 5 0 (.inr (5, [.int 0, .int 0, .long 0]))) (by rw [up2_s]; rfl) (fun k' i' _ h => up2_n h) (fun H locs hW hS => ?_)
  refine lv_aload_n hx hb dX5_init_9 rfl (lv_at hl 0 rfl) ?_
  refine lv_iload_n hx hb dX5_init_10 rfl (lv_at hl 2 rfl) ?_
  refine gz_putF (ci := 5) (C := RX5) (T := TX5) (Nf := 3) hx hb hts hX5 tyX5 tyX5_ok nmX5 hown hK.1 hW hS (k := 5) (i := 0) hi rfl (fs := [.int 0, .int 0, .long 0]) (up2_s _ _ _ _) rfl 1 (by decide) (hts (.fieldLink RX5 15 "SharedRegisters$State" "version" "I") (by decide +kernel)) (fun _ h9 => h9) rfl hin rfl (ty := .int) (v := .int 0) (by decide +kernel) rfl rfl (Nat.le_of_ble_eq_true rfl) dX5_init_11 (cell' := up2 cell 5 0 (.inr (5, [.int 0, .int 0, .long 0]))) (by rw [up2_s]; rfl) (fun k' i' _ h => (up2_n h).trans (up2_n h).symm) (fun H locs hW hS => ?_)
  refine lv_aload_n hx hb dX5_init_14 rfl (lv_at hl 0 rfl) ?_
  refine lv_lload_n hx hb dX5_init_15 rfl (lv_at hl 3 rfl) ?_
  refine gz_putF (ci := 5) (C := RX5) (T := TX5) (Nf := 3) hx hb hts hX5 tyX5 tyX5_ok nmX5 hown hK.1 hW hS (k := 5) (i := 0) hi rfl (fs := [.int 0, .int 0, .long 0]) (up2_s _ _ _ _) rfl 2 (by decide) (hts (.fieldLink RX5 19 "SharedRegisters$State" "value" "J") (by decide +kernel)) (fun _ h9 => h9) rfl hin rfl (ty := .long) (v := .long 0) (by decide +kernel) rfl rfl (Nat.le_of_ble_eq_true rfl) dX5_init_16 (cell' := up2 cell 5 0 (.inr (5, [.int 0, .int 0, .long 0]))) (by rw [up2_s]; rfl) (fun k' i' _ h => (up2_n h).trans (up2_n h).symm) (fun H locs hW hS => ?_)
  refine W.vret hx hb hr ?_ hS.2.2 dX5_init_19
  refine gq0 ?_ hW hS
  exact ⟨rfl, rfl, rfl⟩
set_option maxHeartbeats 4000000 in
set_option maxRecDepth 100000 in
theorem g_Asker_init (l : Launch) (D : va_G) (y : Nat → ClassId) (ad : Nat → Nat → Nat) (N : Nat → Nat) (cell : Nat → Nat → va_E) (sz : Nat) (i : Nat) (num : Int32) (hi : i < N 0) (h7 : N 7 = i) (h8 : N 8 = i) (hc : cell 0 i = .inr (0, [.int 0, .null, .null, .int 0, .null])) : Met l yX0_init wsX0_init ({ frames := 1, cells := 2, slots := 4, locals := 20 }) (va_Pc [.ref (ad 0 i), .int num] (gPre D y ad N cell sz)) (gQ0 D ad N sz (fun ad' N' cell' => ∃ q7 q8, ad' = up2 (up2 ad 7 i q7) 8 i q8 ∧ N' = va_up (va_up N 7 (i + 1)) 8 (i + 1) ∧ cell' = up2 (up2 (up2 cell 0 i (.inr (0, [.int num, .ref q7, .ref q8, .int 0, .null]))) 7 i (.inl (y 0, 2, .inl (fun q => if q = 1 then 7 else if q = 0 then 7 else 0)))) 8 i (.inl (y 0, 2, .inl (fun q => if q = 1 then 2 else if q = 0 then 2 else 0))))) 2 4 (gA ad N sz) := by
  refine Met.ofW (cc := cX0_init) (maxL := 2) (ret := none) (by decide) rfl ?_
  intro p e s m args below meth c s₁ B hml hv
  obtain ⟨rfl, hsz, hW0, hK, hO⟩ := hv
  have hx := B.exec
  have hb := B.bytes
  have hr := B.returns
  have hts := atoms_spec (ws := wsX0_init) B.pre
  have hown : s.vm.findClass RX0 = some m.cls := findClass_of_methodNamed B.named
  have hin : meth.name = "<init>" := (name_of_methodNamed B.named B.method).1
  subst hsz
  have hW := hW0.self (sz := s.heap.size)
  have hA : ∀ q, s.heap.size ≤ q → gA ad N s.heap.size q := fun q h => Or.inr h
  have hS : va_S (gA ad N s.heap.size) s.heap s.heap [] := va_S.rf
  have hl := lv_entry ([.ref (ad 0 i), .int num]) (n := 2) (Nat.le_of_ble_eq_true rfl)
  rw [lg_entry_eq]
  generalize (lg_sl ([.ref (ad 0 i), .int num]) ++ List.replicate (2 - (lg_sl ([.ref (ad 0 i), .int num])).length) Slot.unset).toArray = ls at hl ⊢
  have hl : lv_has ls 2 [(0, .ref (ad 0 i)), (1, .int num)] := hl
  have hX0 : ∀ w ∈ wsX00, w ∈ wsX0_init := by decide +kernel
  refine lv_aload_n hx hb dX0_init_0 rfl (lv_at hl 0 rfl) ?_
  refine W.objInit hx hb hown (hts (.methodLink RX0 3 objectInit) (by decide +kernel)) (hts (.instanceMethod objectInit) (by decide +kernel)) (hts (.code objectInit ⟨#[0xb1]⟩ 1 none) (by decide +kernel)) rfl (by rw [hml]; exact hl.1) rfl dX0_init_1 (Nat.le_of_ble_eq_true rfl) (Nat.le_of_ble_eq_true rfl) ?_
  refine W.eq (g2 := F0 m 4 ls []) rfl ?_
  refine lv_aload_n hx hb dX0_init_4 rfl (lv_at hl 0 rfl) ?_
  refine lv_iload_n hx hb dX0_init_5 rfl (lv_at hl 1 rfl) ?_
  refine gz_putF (ci := 0) (C := RX0) (T := TX0) (Nf := 5) hx hb hts hX0 tyX0 tyX0_ok nmX0 hown hK.1 hW hS (k := 0) (i := i) hi rfl (fs := [.int 0, .null, .null, .int 0, .null]) hc rfl 0 (by decide) (hts (.fieldLink RX0 9 "SharedRegisters$Asker" "number" "I") (by decide +kernel)) (fun _ h9 => h9) rfl hin rfl (ty := .int) (v := .int num) (by decide +kernel) rfl rfl (Nat.le_of_ble_eq_true rfl) dX0_init_6 (cell' := up2 cell 0 i (.inr (0, [.int num, .null, .null, .int 0, .null]))) (by rw [up2_s]; rfl) (fun k' i' _ h => up2_n h) (fun H locs hW hS => ?_)
  have h87 : va_up N 7 (i + 1) 8 = i := by rw [va_up_ne _ _ (by decide)]; exact h8
  refine lv_aload_n hx hb dX0_init_9 rfl (lv_at hl 0 rfl) ?_
  refine lv_iconst (v := 2) hx hb dX0_init_10 (by decide) ?_
  refine gz_newI 7 (N' := 2) h7 hx hb (hts (.arrayClass .int) (by decide +kernel)) hK.1 hW hS hA (by decide) rfl (by decide) (Nat.le_of_ble_eq_true rfl) (Nat.le_of_ble_eq_true rfl) dX0_init_11 (fun q7 H hW hS => ?_)
  refine lv_dup hx hb dX0_init_13 rfl ?_
  refine lv_iconst (v := 0) hx hb dX0_init_14 (by decide) ?_
  refine lv_bipush (v := 7) hx hb dX0_init_15 (by decide) ?_
  refine gz_iast hx hb hK.1 hW hS (k := 7) (i := i) (show i < va_up N 7 (i + 1) 7 by rw [va_up_self]; omega) ((up2_s _ _ _ _).symm) 0 (f := (fun _ => (0 : Int32))) (up2_s _ _ _ _) rfl (show ¬ ((0 : Int32) < 0 ∨ 2 ≤ (0 : Int32).toNatClampNeg) by decide) dX0_init_17 (cell' := up2 (up2 cell 0 i (.inr (0, [.int num, .null, .null, .int 0, .null]))) 7 i (.inl (y 0, 2, .inl (fun q => if q = 0 then 7 else 0)))) (f' := (fun q => if q = 0 then 7 else 0)) (up2_s _ _ _ _) (fun q => by rw [show (0 : Int32).toNatClampNeg = 0 from rfl]) (fun k' i' _ h => (up2_n h).trans (up2_n h).symm) (fun H locs hW hS => ?_)
  refine lv_dup hx hb dX0_init_18 rfl ?_
  refine lv_iconst (v := 1) hx hb dX0_init_19 (by decide) ?_
  refine lv_bipush (v := 7) hx hb dX0_init_20 (by decide) ?_
  refine gz_iast hx hb hK.1 hW hS (k := 7) (i := i) (show i < va_up N 7 (i + 1) 7 by rw [va_up_self]; omega) ((up2_s _ _ _ _).symm) 0 (f := (fun q => if q = 0 then 7 else 0)) (up2_s _ _ _ _) rfl (show ¬ ((1 : Int32) < 0 ∨ 2 ≤ (1 : Int32).toNatClampNeg) by decide) dX0_init_22 (cell' := up2 (up2 cell 0 i (.inr (0, [.int num, .null, .null, .int 0, .null]))) 7 i (.inl (y 0, 2, .inl (fun q => if q = 1 then 7 else if q = 0 then 7 else 0)))) (f' := (fun q => if q = 1 then 7 else if q = 0 then 7 else 0)) (up2_s _ _ _ _) (fun q => by rw [show (1 : Int32).toNatClampNeg = 1 from rfl]) (fun k' i' _ h => (up2_n h).trans (up2_n h).symm) (fun H locs hW hS => ?_)
  refine gz_putF (ci := 0) (C := RX0) (T := TX0) (Nf := 5) hx hb hts hX0 tyX0 tyX0_ok nmX0 hown hK.1 hW hS (k := 0) (i := i) (show i < va_up N 7 (i + 1) 0 by rw [va_up_ne _ _ (by decide)]; exact hi) (up2_k (by decide)).symm (fs := [.int num, .null, .null, .int 0, .null]) (by rw [up2_k (by decide), up2_s]) rfl 1 (by decide) (hts (.fieldLink RX0 15 "SharedRegisters$Asker" "sets" "[I") (by decide +kernel)) (fun _ h9 => h9) rfl hin rfl (ty := .array .int) (v := .ref q7) (by decide +kernel) rfl rfl (Nat.le_of_ble_eq_true rfl) dX0_init_23 (cell' := up2 (up2 cell 0 i (.inr (0, [.int num, .ref q7, .null, .int 0, .null]))) 7 i (.inl (y 0, 2, .inl (fun q => if q = 1 then 7 else if q = 0 then 7 else 0)))) (by rw [up2_k (by decide), up2_s]; rfl) (fun k' i' _ h => by by_cases g : k' = 7 ∧ i' = i; (rw [g.1, g.2, up2_s, up2_s]); (rw [up2_n g, up2_n g, up2_n h, up2_n h])) (fun H locs hW hS => ?_)
  refine lv_aload_n hx hb dX0_init_26 rfl (lv_at hl 0 rfl) ?_
  refine lv_iconst (v := 2) hx hb dX0_init_27 (by decide) ?_
  refine gz_newI 8 (N' := 2) h87 hx hb (hts (.arrayClass .int) (by decide +kernel)) hK.1 hW hS hA (by decide) rfl (by decide) (Nat.le_of_ble_eq_true rfl) (Nat.le_of_ble_eq_true rfl) dX0_init_28 (fun q8 H hW hS => ?_)
  refine lv_dup hx hb dX0_init_30 rfl ?_
  refine lv_iconst (v := 0) hx hb dX0_init_31 (by decide) ?_
  refine lv_iconst (v := 2) hx hb dX0_init_32 (by decide) ?_
  refine gz_iast hx hb hK.1 hW hS (k := 8) (i := i) (show i < va_up (va_up N 7 (i + 1)) 8 (i + 1) 8 by rw [va_up_self]; omega) ((up2_s _ _ _ _).symm) 0 (f := (fun _ => (0 : Int32))) (up2_s _ _ _ _) rfl (show ¬ ((0 : Int32) < 0 ∨ 2 ≤ (0 : Int32).toNatClampNeg) by decide) dX0_init_33 (cell' := up2 (up2 (up2 cell 0 i (.inr (0, [.int num, .ref q7, .null, .int 0, .null]))) 7 i (.inl (y 0, 2, .inl (fun q => if q = 1 then 7 else if q = 0 then 7 else 0)))) 8 i (.inl (y 0, 2, .inl (fun q => if q = 0 then 2 else 0)))) (f' := (fun q => if q = 0 then 2 else 0)) (up2_s _ _ _ _) (fun q => by rw [show (0 : Int32).toNatClampNeg = 0 from rfl]) (fun k' i' _ h => (up2_n h).trans (up2_n h).symm) (fun H locs hW hS => ?_)
  refine lv_dup hx hb dX0_init_34 rfl ?_
  refine lv_iconst (v := 1) hx hb dX0_init_35 (by decide) ?_
  refine lv_iconst (v := 2) hx hb dX0_init_36 (by decide) ?_
  refine gz_iast hx hb hK.1 hW hS (k := 8) (i := i) (show i < va_up (va_up N 7 (i + 1)) 8 (i + 1) 8 by rw [va_up_self]; omega) ((up2_s _ _ _ _).symm) 0 (f := (fun q => if q = 0 then 2 else 0)) (up2_s _ _ _ _) rfl (show ¬ ((1 : Int32) < 0 ∨ 2 ≤ (1 : Int32).toNatClampNeg) by decide) dX0_init_37 (cell' := up2 (up2 (up2 cell 0 i (.inr (0, [.int num, .ref q7, .null, .int 0, .null]))) 7 i (.inl (y 0, 2, .inl (fun q => if q = 1 then 7 else if q = 0 then 7 else 0)))) 8 i (.inl (y 0, 2, .inl (fun q => if q = 1 then 2 else if q = 0 then 2 else 0)))) (f' := (fun q => if q = 1 then 2 else if q = 0 then 2 else 0)) (up2_s _ _ _ _) (fun q => by rw [show (1 : Int32).toNatClampNeg = 1 from rfl]) (fun k' i' _ h => (up2_n h).trans (up2_n h).symm) (fun H locs hW hS => ?_)
  refine gz_putF (ci := 0) (C := RX0) (T := TX0) (Nf := 5) hx hb hts hX0 tyX0 tyX0_ok nmX0 hown hK.1 hW hS (k := 0) (i := i) (show i < va_up (va_up N 7 (i + 1)) 8 (i + 1) 0 by rw [va_up_ne _ _ (by decide), va_up_ne _ _ (by decide)]; exact hi) (by rw [up2_k (by decide), up2_k (by decide)]) (fs := [.int num, .ref q7, .null, .int 0, .null]) (by rw [up2_k (by decide), up2_k (by decide), up2_s]) rfl 2 (by decide) (hts (.fieldLink RX0 19 "SharedRegisters$Asker" "enough" "[I") (by decide +kernel)) (fun _ h9 => h9) rfl hin rfl (ty := .array .int) (v := .ref q8) (by decide +kernel) rfl rfl (Nat.le_of_ble_eq_true rfl) dX0_init_38 (cell' := up2 (up2 (up2 cell 0 i (.inr (0, [.int num, .ref q7, .ref q8, .int 0, .null]))) 7 i (.inl (y 0, 2, .inl (fun q => if q = 1 then 7 else if q = 0 then 7 else 0)))) 8 i (.inl (y 0, 2, .inl (fun q => if q = 1 then 2 else if q = 0 then 2 else 0)))) (by rw [up2_k (by decide), up2_k (by decide), up2_s]; rfl) (fun k' i' _ h => by by_cases g8 : k' = 8 ∧ i' = i; (rw [g8.1, g8.2, up2_s, up2_s]); (rw [up2_n g8, up2_n g8]; by_cases g : k' = 7 ∧ i' = i; (rw [g.1, g.2, up2_s, up2_s]); (rw [up2_n g, up2_n g, up2_n h, up2_n h]))) (fun H locs hW hS => ?_)
  refine lv_aload_n hx hb dX0_init_41 rfl (lv_at hl 0 rfl) ?_
  refine lv_iconst (v := 0) hx hb dX0_init_42 (by decide) ?_
  refine gz_put (ci := 0) (C := RX0) (T := TX0) (Nf := 5) hx hb hts hX0 tyX0 tyX0_ok nmX0 hown hK.1 hW hS (k := 0) (i := i) (show i < va_up (va_up N 7 (i + 1)) 8 (i + 1) 0 by rw [va_up_ne _ _ (by decide), va_up_ne _ _ (by decide)]; exact hi) (by rw [up2_k (by decide), up2_k (by decide)]) (fs := [.int num, .ref q7, .ref q8, .int 0, .null]) (by rw [up2_k (by decide), up2_k (by decide), up2_s]) rfl 3 (by decide) (hts (.fieldLink RX0 22 "SharedRegisters$Asker" "count" "I") (by decide +kernel)) (fun _ h9 => h9) rfl (ty := .int) (v := .int 0) (by decide +kernel) rfl rfl (Nat.le_of_ble_eq_true rfl) dX0_init_43 (cell' := up2 (up2 (up2 cell 0 i (.inr (0, [.int num, .ref q7, .ref q8, .int 0, .null]))) 7 i (.inl (y 0, 2, .inl (fun q => if q = 1 then 7 else if q = 0 then 7 else 0)))) 8 i (.inl (y 0, 2, .inl (fun q => if q = 1 then 2 else if q = 0 then 2 else 0)))) (by rw [up2_k (by decide), up2_k (by decide), up2_s]; rfl) (fun _ _ _ _ => rfl) (fun H locs hW hS => ?_)
  refine lv_aload_n hx hb dX0_init_46 rfl (lv_at hl 0 rfl) ?_
  refine lv_null hx hb dX0_init_47 ?_
  refine gz_put (ci := 0) (C := RX0) (T := TX0) (Nf := 5) hx hb hts hX0 tyX0 tyX0_ok nmX0 hown hK.1 hW hS (k := 0) (i := i) (show i < va_up (va_up N 7 (i + 1)) 8 (i + 1) 0 by rw [va_up_ne _ _ (by decide), va_up_ne _ _ (by decide)]; exact hi) (by rw [up2_k (by decide), up2_k (by decide)]) (fs := [.int num, .ref q7, .ref q8, .int 0, .null]) (by rw [up2_k (by decide), up2_k (by decide), up2_s]) rfl 4 (by decide) (hts (.fieldLink RX0 25 "SharedRegisters$Asker" "current" "LSharedRegisters$Request;") (by decide +kernel)) (fun _ h9 => h9) rfl (ty := .object "SharedRegisters$Request") (v := .null) (by decide +kernel) rfl rfl (Nat.le_of_ble_eq_true rfl) dX0_init_48 (cell' := up2 (up2 (up2 cell 0 i (.inr (0, [.int num, .ref q7, .ref q8, .int 0, .null]))) 7 i (.inl (y 0, 2, .inl (fun q => if q = 1 then 7 else if q = 0 then 7 else 0)))) 8 i (.inl (y 0, 2, .inl (fun q => if q = 1 then 2 else if q = 0 then 2 else 0)))) (by rw [up2_k (by decide), up2_k (by decide), up2_s]; rfl) (fun _ _ _ _ => rfl) (fun H locs hW hS => ?_)
  refine W.widen (k := 2) (n := 4) (Nat.le_of_ble_eq_true rfl) (Nat.le_of_ble_eq_true rfl) ?_
  refine W.vret hx hb hr ?_ hS.2.2 dX0_init_51
  refine gq0 ?_ hW hS
  exact ⟨q7, q8, rfl, rfl, rfl⟩
