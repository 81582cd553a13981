set_option maxHeartbeats 4000000 in
set_option maxRecDepth 100000 in
theorem l_ask (l : Launch) (hl0 : l.stackTraces = false) (D : va_G) (y : Nat → ClassId) (z : CS) (qo sz : Nat) (i j ch : Int32) (arg : Int64) (n : Nat) (h28 : cI z 28 0 = nI (cNr z)) (h200 : cNr z ≤ 200) (hI : cInv z) (hrow : RowOk z n) : Met l yL_ask wsL_ask ({ frames := 8, cells := 4, slots := 33, locals := 140 }) (va_Pc [.ref (cA z 6 0), .int i, .int j, .int ch, .long arg, .ref qo] (lPre D y z qo sz)) (lQ D y z qo sz (fun w u o => (w = 0 ∧ ∃ x : Int32, (fun (v : Value) (u : CS) => ∃ a k, a < 4 ∧ k < 4 ∧ i = nI a ∧ j = nI k ∧ inG ch 0 6 ∧ (((¬ cR z 1 a = none ∨ ¬ cNr z < 200) ∧ v = .int (-1) ∧ u = z) ∨ (cR z 1 a = none ∧ cNr z < 200 ∧ ∃ q, v = .int (cI u 12 (cNr z)) ∧ u = fSet 9 (askS z q a (nI k) ch arg) 0 0 (cNr z) (cE z 0 a 0) 0))) (.int x) u ∧ o = x.toInt64) ∨ (w = 1 ∧ u = z ∧ ¬ (inR i 4 ∧ inR j 4)) ∨ (w = 2 ∧ u = z ∧ inR i 4 ∧ inR j 4 ∧ ¬ inG ch 0 6))) 4 33 (lF z qo sz) := by
  refine lh_ofWH (cc := cL_ask) (maxL := 8) (ret := (some .int)) (by decide) rfl ?_
  intro p e s m args below meth c s₁ B hml hv
  obtain ⟨rfl, hsz, hW0, ⟨f0, hO⟩, hqo, hK, hZ0, hN⟩ := hv
  have hx := B.exec
  have hb := B.bytes
  have hr := B.returns
  have hts := atoms_spec (ws := wsL_ask) B.pre
  have hown : s.vm.findClass RL = some m.cls := findClass_of_methodNamed B.named
  have htb : c.exceptionTable.toList = tableOf [(0, 14, 17, 13), (0, 14, 21, 15)] := vx_table (x := yL_ask) B (hts _ List.mem_cons_self)
  subst hsz
  have hW := hW0.self (sz := s.heap.size)
  have hA : ∀ q, s.heap.size ≤ q → cF z s.heap.size q := fun q h => Or.inr h
  have hS : va_S (cF z s.heap.size) s.heap s.heap [] := va_S.rf
  have hZ : zS (cF z s.heap.size) s := hZ0.narrow (fun q h => Or.inl h)
  have hqs : qo < s.heap.size := hO.lt
  have hl := lv_entry ([.ref (cA z 6 0), .int i, .int j, .int ch, .long arg, .ref qo]) (n := 8) (Nat.le_of_ble_eq_true rfl)
  rw [lg_entry_eq]
  generalize (lg_sl ([.ref (cA z 6 0), .int i, .int j, .int ch, .long arg, .ref qo]) ++ List.replicate (8 - (lg_sl ([.ref (cA z 6 0), .int i, .int j, .int ch, .long arg, .ref qo])).length) Slot.unset).toArray = ls at hl ⊢
  have hl : lv_has ls 8 [(0, .ref (cA z 6 0)), (1, .int i), (2, .int j), (3, .int ch), (4, .long arg), (6, .ref qo)] := hl
  refine lv_aload hx hb dL_ask_0 (lv_at hl 5 rfl) ?_
  refine lv_iconst (v := 0) hx hb dL_ask_2 (by decide) ?_
  refine lv_aload_n hx hb dL_ask_3 rfl (lv_at hl 0 rfl) ?_
  refine lv_iload_n hx hb dL_ask_4 rfl (lv_at hl 1 rfl) ?_
  refine lv_iload_n hx hb dL_ask_5 rfl (lv_at hl 2 rfl) ?_
  refine lv_iload_n hx hb dL_ask_6 rfl (lv_at hl 3 rfl) ?_
  refine lv_lload hx hb dL_ask_7 (lv_at hl 4 rfl) ?_
  refine cx1 (vx_runV (As := [.int i, .int j, .int ch, .long arg]) (rest := [.int 0, .ref qo]) ⟨hx, hb, hml, hown, hts⟩ (m_ask l hl0 D y z _ i j ch arg n h28 h200 hI hrow) (cwV 4 hts gL_ask_X6_ask rfl rfl rfl (by decide +kernel) ⟨Nat.le_of_ble_eq_true rfl, Nat.le_of_ble_eq_true rfl⟩) (cPreVX (k := 6) (q := (RX6, TX6, 7)) hW hK hZ hS hA (by first | assumption | omega | exact Nat.zero_lt_one | decide) rfl rfl [.int i, .int j, .int ch, .long arg]) rfl rfl hl.1 rfl (lv_room (Nat.le_of_ble_eq_true rfl)) dL_ask_9 ⟨Nat.le_of_ble_eq_true rfl, Nat.le_of_ble_eq_true rfl⟩) hW hS hA (fun E9 ce9 q9 H locs hpx hW hS h1 h2 h3 => ?_) (fun v9 u9 H locs hu9 hW hS => ?_)
  · have hO := hO.kept (hS.2.1 qo hqs hqo)
    rcases hpx with ⟨rfl, hpx⟩ | ⟨rfl, hpx⟩
    · refine vx_catch (own := RL) (name := cI_) hown [] ⟨0, 14, 17, 13⟩ [⟨0, 14, 21, 15⟩] (by rw [htb]; rfl) (fun z9 hz9 => by cases hz9) (by decide) (by decide) (hts (.classLink RL 13 "java/lang/IndexOutOfBoundsException") (by decide +kernel)) (va_Nw.use rfl (hZ.1 (.castable cI_ cI_) (by decide +kernel))) h1 h2 h3 ?_
      refine lv_astore (lv' := [(7, _), (0, _), (1, _), (2, _), (3, _), (4, _), (6, _)]) hx hb dL_ask_17 hl (by decide) rfl (fun ls hl => ?_)
      refine lv_iconst (v := 1) hx hb dL_ask_19 (by decide) ?_
      have hS := lS (qo := qo) hS
      refine W.widen (k := 4) (n := 33) (Nat.le_of_ble_eq_true rfl) (Nat.le_of_ble_eq_true rfl) ?_
      refine W.iret hx hb hr ?_ hS.2.2 dL_ask_20
      refine lq ?_ hW hO hS
      exact Or.inr (Or.inl ⟨rfl, rfl, hpx⟩)
    · refine vx_catch (own := RL) (name := cG_) hown [⟨0, 14, 17, 13⟩] ⟨0, 14, 21, 15⟩ [] (by rw [htb]; rfl) (fun z9 hz9 => by rw [List.mem_singleton.mp hz9]; exact Or.inr ⟨by decide, cI_, hts (.classLink RL 13 "java/lang/IndexOutOfBoundsException") (by decide +kernel), hN⟩) (by decide) (by decide) (hts (.classLink RL 15 "java/lang/IllegalArgumentException") (by decide +kernel)) (va_Nw.use rfl (hZ.1 (.castable cG_ cG_) (by decide +kernel))) h1 h2 h3 ?_
      refine lv_astore (lv' := [(7, _), (0, _), (1, _), (2, _), (3, _), (4, _), (6, _)]) hx hb dL_ask_21 hl (by decide) rfl (fun ls hl => ?_)
      refine lv_iconst (v := 2) hx hb dL_ask_23 (by decide) ?_
      have hS := lS (qo := qo) hS
      refine W.widen (k := 4) (n := 33) (Nat.le_of_ble_eq_true rfl) (Nat.le_of_ble_eq_true rfl) ?_
      refine W.iret hx hb hr ?_ hS.2.2 dL_ask_24
      refine lq ?_ hW hO hS
      exact Or.inr (Or.inr ⟨rfl, rfl, hpx⟩)
  · have hO := hO.kept (hS.2.1 qo hqs hqo)
    have hv9 : ∃ x9, v9 = .int x9 := by rcases hu9 with ⟨a, k, h1, h2, h3, h4, h5, ⟨h6, hv, h7⟩ | ⟨h6, h7, q, hv, h8⟩⟩ <;> exact ⟨_, hv⟩
    obtain ⟨x9, rfl⟩ := hv9
    refine lv_i2l hx hb dL_ask_12 rfl ?_
    refine out_st hx hb hK.1 hW hO hqo hS dL_ask_13 (fun H locs hW hO hS => ?_)
    refine lv_goto (tgt := 25) hx hb dL_ask_14 (by decide) ?_
    refine lv_iconst (v := 0) hx hb dL_ask_25 (by decide) ?_
    refine W.widen (k := 4) (n := 33) (Nat.le_of_ble_eq_true rfl) (Nat.le_of_ble_eq_true rfl) ?_
    refine W.iret hx hb hr ?_ hS.2.2 dL_ask_26
    refine lq ?_ hW hO hS
    exact Or.inl ⟨rfl, x9, hu9, rfl⟩
set_option maxHeartbeats 4000000 in
set_option maxRecDepth 100000 in
theorem l_give (l : Launch) (hl0 : l.stackTraces = false) (D : va_G) (y : Nat → ClassId) (z : CS) (qo sz : Nat) (i : Int32) (hcr : ∀ a r, cR z 1 a = some r → r < cNr z) : Met l yL_give wsL_give ({ frames := 8, cells := 1, slots := 6, locals := 135 }) (va_Pc [.ref (cA z 6 0), .int i, .ref qo] (lPre D y z qo sz)) (lQ D y z qo sz (fun w u o => (w = 0 ∧ ∃ x : Int32, (fun (v : Value) (u : CS) => ∃ a, a < 4 ∧ i = nI a ∧ v = .int (fEndV z a) ∧ u = fEnd z a 2) (.int x) u ∧ o = x.toInt64) ∨ (w = 1 ∧ u = z ∧ ¬ inR i 4))) 1 6 (lF z qo sz) := by
  refine lh_ofWH (cc := cL_give) (maxL := 4) (ret := (some .int)) (by decide) rfl ?_
  intro p e s m args below meth c s₁ B hml hv
  obtain ⟨rfl, hsz, hW0, ⟨f0, hO⟩, hqo, hK, hZ0, hN⟩ := hv
  have hx := B.exec
  have hb := B.bytes
  have hr := B.returns
  have hts := atoms_spec (ws := wsL_give) B.pre
  have hown : s.vm.findClass RL = some m.cls := findClass_of_methodNamed B.named
  have htb : c.exceptionTable.toList = tableOf [(0, 9, 12, 13)] := vx_table (x := yL_give) B (hts _ List.mem_cons_self)
  subst hsz
  have hW := hW0.self (sz := s.heap.size)
  have hA : ∀ q, s.heap.size ≤ q → cF z s.heap.size q := fun q h => Or.inr h
  have hS : va_S (cF z s.heap.size) s.heap s.heap [] := va_S.rf
  have hZ : zS (cF z s.heap.size) s := hZ0.narrow (fun q h => Or.inl h)
  have hqs : qo < s.heap.size := hO.lt
  have hl := lv_entry ([.ref (cA z 6 0), .int i, .ref qo]) (n := 4) (Nat.le_of_ble_eq_true rfl)
  rw [lg_entry_eq]
  generalize (lg_sl ([.ref (cA z 6 0), .int i, .ref qo]) ++ List.replicate (4 - (lg_sl ([.ref (cA z 6 0), .int i, .ref qo])).length) Slot.unset).toArray = ls at hl ⊢
  have hl : lv_has ls 4 [(0, .ref (cA z 6 0)), (1, .int i), (2, .ref qo)] := hl
  refine lv_aload_n hx hb dL_give_0 rfl (lv_at hl 2 rfl) ?_
  refine lv_iconst (v := 0) hx hb dL_give_1 (by decide) ?_
  refine lv_aload_n hx hb dL_give_2 rfl (lv_at hl 0 rfl) ?_
  refine lv_iload_n hx hb dL_give_3 rfl (lv_at hl 1 rfl) ?_
  refine cx1 (vx_runV (As := [.int i]) (rest := [.int 0, .ref qo]) ⟨hx, hb, hml, hown, hts⟩ (m_give l hl0 D y z _ i hcr) (cwV 1 hts gL_give_X6_give rfl rfl rfl (by decide +kernel) ⟨Nat.le_of_ble_eq_true rfl, Nat.le_of_ble_eq_true rfl⟩) (cPreVX (k := 6) (q := (RX6, TX6, 7)) hW hK hZ hS hA (by first | assumption | omega | exact Nat.zero_lt_one | decide) rfl rfl [.int i]) rfl rfl hl.1 rfl (lv_room (Nat.le_of_ble_eq_true rfl)) dL_give_4 ⟨Nat.le_of_ble_eq_true rfl, Nat.le_of_ble_eq_true rfl⟩) hW hS hA (fun E9 ce9 q9 H locs hpx hW hS h1 h2 h3 => ?_) (fun v9 u9 H locs hu9 hW hS => ?_)
  · have hO := hO.kept (hS.2.1 qo hqs hqo)
    obtain ⟨rfl, hpx⟩ := hpx
    refine vx_catch (own := RL) (name := cI_) hown [] ⟨0, 9, 12, 13⟩ [] (by rw [htb]; rfl) (fun z9 hz9 => by cases hz9) (by decide) (by decide) (hts (.classLink RL 13 "java/lang/IndexOutOfBoundsException") (by decide +kernel)) (va_Nw.use rfl (hZ.1 (.castable cI_ cI_) (by decide +kernel))) h1 h2 h3 ?_
    refine lv_astore_n (lv' := [(3, _), (0, _), (1, _), (2, _)]) hx hb dL_give_12 rfl hl (by decide) rfl (fun ls hl => ?_)
    refine lv_iconst (v := 1) hx hb dL_give_13 (by decide) ?_
    have hS := lS (qo := qo) hS
    refine W.widen (k := 1) (n := 6) (Nat.le_of_ble_eq_true rfl) (Nat.le_of_ble_eq_true rfl) ?_
    refine W.iret hx hb hr ?_ hS.2.2 dL_give_14
    refine lq ?_ hW hO hS
    exact Or.inr ⟨rfl, rfl, hpx⟩
  · have hO := hO.kept (hS.2.1 qo hqs hqo)
    have hv9 : ∃ x9, v9 = .int x9 := by rcases hu9 with ⟨a, ha, hi, hv, hu⟩ <;> exact ⟨_, hv⟩
    obtain ⟨x9, rfl⟩ := hv9
    refine lv_i2l hx hb dL_give_7 rfl ?_
    refine out_st hx hb hK.1 hW hO hqo hS dL_give_8 (fun H locs hW hO hS => ?_)
    refine lv_goto (tgt := 15) hx hb dL_give_9 (by decide) ?_
    refine lv_iconst (v := 0) hx hb dL_give_15 (by decide) ?_
    refine W.widen (k := 1) (n := 6) (Nat.le_of_ble_eq_true rfl) (Nat.le_of_ble_eq_true rfl) ?_
    refine W.iret hx hb hr ?_ hS.2.2 dL_give_16
    refine lq ?_ hW hO hS
    exact Or.inl ⟨rfl, x9, hu9, rfl⟩
set_option maxHeartbeats 4000000 in
set_option maxRecDepth 100000 in
theorem l_plan (l : Launch) (hl0 : l.stackTraces = false) (D : va_G) (y : Nat → ClassId) (z : CS) (qo sz : Nat) (i j se en : Int32) : Met l yL_plan wsL_plan ({ frames := 8, cells := 4, slots := 24, locals := 140 }) (va_Pc [.ref (cA z 6 0), .int i, .int j, .int se, .int en] (lPre D y z qo sz)) (lQ D y z qo sz (fun w u o => (w = 0 ∧ (fun (u : CS) => ∃ a k, a < 4 ∧ k < 2 ∧ i = nI a ∧ j = nI k ∧ inG se 1 511 ∧ inG en 1 (fBC se) ∧ u = sE (sE z 0 a k se) 1 a k en) u) ∨ (w = 1 ∧ u = z ∧ ¬ (inR i 4 ∧ inR j 2)) ∨ (w = 2 ∧ u = z ∧ inR i 4 ∧ inR j 2 ∧ ¬ (inG se 1 511 ∧ inG en 1 (fBC se))))) 4 24 (lF z qo sz) := by
  refine lh_ofWH (cc := cL_plan) (maxL := 6) (ret := (some .int)) (by decide) rfl ?_
  intro p e s m args below meth c s₁ B hml hv
  obtain ⟨rfl, hsz, hW0, ⟨f0, hO⟩, hqo, hK, hZ0, hN⟩ := hv
  have hx := B.exec
  have hb := B.bytes
  have hr := B.returns
  have hts := atoms_spec (ws := wsL_plan) B.pre
  have hown : s.vm.findClass RL = some m.cls := findClass_of_methodNamed B.named
  have htb : c.exceptionTable.toList = tableOf [(0, 9, 12, 13), (0, 9, 16, 15)] := vx_table (x := yL_plan) B (hts _ List.mem_cons_self)
  subst hsz
  have hW := hW0.self (sz := s.heap.size)
  have hA : ∀ q, s.heap.size ≤ q → cF z s.heap.size q := fun q h => Or.inr h
  have hS : va_S (cF z s.heap.size) s.heap s.heap [] := va_S.rf
  have hZ : zS (cF z s.heap.size) s := hZ0.narrow (fun q h => Or.inl h)
  have hqs : qo < s.heap.size := hO.lt
  have hl := lv_entry ([.ref (cA z 6 0), .int i, .int j, .int se, .int en]) (n := 6) (Nat.le_of_ble_eq_true rfl)
  rw [lg_entry_eq]
  generalize (lg_sl ([.ref (cA z 6 0), .int i, .int j, .int se, .int en]) ++ List.replicate (6 - (lg_sl ([.ref (cA z 6 0), .int i, .int j, .int se, .int en])).length) Slot.unset).toArray = ls at hl ⊢
  have hl : lv_has ls 6 [(0, .ref (cA z 6 0)), (1, .int i), (2, .int j), (3, .int se), (4, .int en)] := hl
  refine lv_aload_n hx hb dL_plan_0 rfl (lv_at hl 0 rfl) ?_
  refine lv_iload_n hx hb dL_plan_1 rfl (lv_at hl 1 rfl) ?_
  refine lv_iload_n hx hb dL_plan_2 rfl (lv_at hl 2 rfl) ?_
  refine lv_iload_n hx hb dL_plan_3 rfl (lv_at hl 3 rfl) ?_
  refine lv_iload hx hb dL_plan_4 (lv_at hl 4 rfl) ?_
  refine cx0 (vx_runV (As := [.int i, .int j, .int se, .int en]) (rest := []) ⟨hx, hb, hml, hown, hts⟩ (m_plan l hl0 D y z _ i j se en) (cwV 4 hts gL_plan_X6_plan rfl rfl rfl (by decide +kernel) ⟨Nat.le_of_ble_eq_true rfl, Nat.le_of_ble_eq_true rfl⟩) (cPreVX (k := 6) (q := (RX6, TX6, 7)) hW hK hZ hS hA (by first | assumption | omega | exact Nat.zero_lt_one | decide) rfl rfl [.int i, .int j, .int se, .int en]) rfl rfl hl.1 rfl (lv_room (Nat.le_of_ble_eq_true rfl)) dL_plan_6 ⟨Nat.le_of_ble_eq_true rfl, Nat.le_of_ble_eq_true rfl⟩) hW hS hA (fun E9 ce9 q9 H locs hpx hW hS h1 h2 h3 => ?_) (fun u9 H locs hu9 hW hS => ?_)
  · have hO := hO.kept (hS.2.1 qo hqs hqo)
    rcases hpx with ⟨rfl, hpx⟩ | ⟨rfl, hpx⟩
    · refine vx_catch (own := RL) (name := cI_) hown [] ⟨0, 9, 12, 13⟩ [⟨0, 9, 16, 15⟩] (by rw [htb]; rfl) (fun z9 hz9 => by cases hz9) (by decide) (by decide) (hts (.classLink RL 13 "java/lang/IndexOutOfBoundsException") (by decide +kernel)) (va_Nw.use rfl (hZ.1 (.castable cI_ cI_) (by decide +kernel))) h1 h2 h3 ?_
      refine lv_astore (lv' := [(5, _), (0, _), (1, _), (2, _), (3, _), (4, _)]) hx hb dL_plan_12 hl (by decide) rfl (fun ls hl => ?_)
      refine lv_iconst (v := 1) hx hb dL_plan_14 (by decide) ?_
      have hS := lS (qo := qo) hS
      refine W.widen (k := 4) (n := 24) (Nat.le_of_ble_eq_true rfl) (Nat.le_of_ble_eq_true rfl) ?_
      refine W.iret hx hb hr ?_ hS.2.2 dL_plan_15
      refine lq ?_ hW hO hS
      exact Or.inr (Or.inl ⟨rfl, rfl, hpx⟩)
    · refine vx_catch (own := RL) (name := cG_) hown [⟨0, 9, 12, 13⟩] ⟨0, 9, 16, 15⟩ [] (by rw [htb]; rfl) (fun z9 hz9 => by rw [List.mem_singleton.mp hz9]; exact Or.inr ⟨by decide, cI_, hts (.classLink RL 13 "java/lang/IndexOutOfBoundsException") (by decide +kernel), hN⟩) (by decide) (by decide) (hts (.classLink RL 15 "java/lang/IllegalArgumentException") (by decide +kernel)) (va_Nw.use rfl (hZ.1 (.castable cG_ cG_) (by decide +kernel))) h1 h2 h3 ?_
      refine lv_astore (lv' := [(5, _), (0, _), (1, _), (2, _), (3, _), (4, _)]) hx hb dL_plan_16 hl (by decide) rfl (fun ls hl => ?_)
      refine lv_iconst (v := 2) hx hb dL_plan_18 (by decide) ?_
      have hS := lS (qo := qo) hS
      refine W.widen (k := 4) (n := 24) (Nat.le_of_ble_eq_true rfl) (Nat.le_of_ble_eq_true rfl) ?_
      refine W.iret hx hb hr ?_ hS.2.2 dL_plan_19
      refine lq ?_ hW hO hS
      exact Or.inr (Or.inr ⟨rfl, rfl, hpx⟩)
  · have hO := hO.kept (hS.2.1 qo hqs hqo)
    refine lv_goto (tgt := 20) hx hb dL_plan_9 (by decide) ?_
    refine lv_iconst (v := 0) hx hb dL_plan_20 (by decide) ?_
    have hS := lS (qo := qo) hS
    refine W.widen (k := 4) (n := 24) (Nat.le_of_ble_eq_true rfl) (Nat.le_of_ble_eq_true rfl) ?_
    refine W.iret hx hb hr ?_ hS.2.2 dL_plan_21
    refine lq ?_ hW hO hS
    exact Or.inl ⟨rfl, hu9⟩
set_option maxHeartbeats 4000000 in
set_option maxRecDepth 100000 in
theorem l_take (l : Launch) (hl0 : l.stackTraces = false) (D : va_G) (y : Nat → ClassId) (z : CS) (qo sz : Nat) (i : Int32) (n : Nat) (hrow : RowOk z n) (hI : cInv z) (hms : ∀ j, j < n → ∃ so a k q, msgOk z (cS z 3 j) so a k q) : Met l yL_take wsL_take ({ frames := 8, cells := 2, slots := 9, locals := 205 }) (va_Pc [.ref (cA z 6 0), .int i, .ref qo] (lPre D y z qo sz)) (lQ D y z qo sz (fun w u o => (w = 0 ∧ ∃ x : Int32, (fun (v : Value) (u : CS) => ∃ j so a k q, j < n ∧ i = nI j ∧ msgOk z (cS z 3 j) so a k q ∧ v = .int (cI u 6 (cS z 3 j)) ∧ takeTo (fDraw z j n) (cS z 3 j) so a k q u) (.int x) u ∧ o = x.toInt64) ∨ (w = 1 ∧ u = z ∧ ¬ inR i (nI n)))) 2 9 (lF z qo sz) := by
  refine lh_ofWH (cc := cL_take) (maxL := 4) (ret := (some .int)) (by decide) rfl ?_
  intro p e s m args below meth c s₁ B hml hv
  obtain ⟨rfl, hsz, hW0, ⟨f0, hO⟩, hqo, hK, hZ0, hN⟩ := hv
  have hx := B.exec
  have hb := B.bytes
  have hr := B.returns
  have hts := atoms_spec (ws := wsL_take) B.pre
  have hown : s.vm.findClass RL = some m.cls := findClass_of_methodNamed B.named
  have htb : c.exceptionTable.toList = tableOf [(0, 9, 12, 13)] := vx_table (x := yL_take) B (hts _ List.mem_cons_self)
  subst hsz
  have hW := hW0.self (sz := s.heap.size)
  have hA : ∀ q, s.heap.size ≤ q → cF z s.heap.size q := fun q h => Or.inr h
  have hS : va_S (cF z s.heap.size) s.heap s.heap [] := va_S.rf
  have hZ : zS (cF z s.heap.size) s := hZ0.narrow (fun q h => Or.inl h)
  have hqs : qo < s.heap.size := hO.lt
  have hl := lv_entry ([.ref (cA z 6 0), .int i, .ref qo]) (n := 4) (Nat.le_of_ble_eq_true rfl)
  rw [lg_entry_eq]
  generalize (lg_sl ([.ref (cA z 6 0), .int i, .ref qo]) ++ List.replicate (4 - (lg_sl ([.ref (cA z 6 0), .int i, .ref qo])).length) Slot.unset).toArray = ls at hl ⊢
  have hl : lv_has ls 4 [(0, .ref (cA z 6 0)), (1, .int i), (2, .ref qo)] := hl
  refine lv_aload_n hx hb dL_take_0 rfl (lv_at hl 2 rfl) ?_
  refine lv_iconst (v := 0) hx hb dL_take_1 (by decide) ?_
  refine lv_aload_n hx hb dL_take_2 rfl (lv_at hl 0 rfl) ?_
  refine lv_iload_n hx hb dL_take_3 rfl (lv_at hl 1 rfl) ?_
  refine cx1 (vx_runV (As := [.int i]) (rest := [.int 0, .ref qo]) ⟨hx, hb, hml, hown, hts⟩ (m_take l hl0 D y z _ i n hrow hI hms) (cwV 1 hts gL_take_X6_take rfl rfl rfl (by decide +kernel) ⟨Nat.le_of_ble_eq_true rfl, Nat.le_of_ble_eq_true rfl⟩) (cPreVX (k := 6) (q := (RX6, TX6, 7)) hW hK hZ hS hA (by first | assumption | omega | exact Nat.zero_lt_one | decide) rfl rfl [.int i]) rfl rfl hl.1 rfl (lv_room (Nat.le_of_ble_eq_true rfl)) dL_take_4 ⟨Nat.le_of_ble_eq_true rfl, Nat.le_of_ble_eq_true rfl⟩) hW hS hA (fun E9 ce9 q9 H locs hpx hW hS h1 h2 h3 => ?_) (fun v9 u9 H locs hu9 hW hS => ?_)
  · have hO := hO.kept (hS.2.1 qo hqs hqo)
    obtain ⟨rfl, hpx⟩ := hpx
    refine vx_catch (own := RL) (name := cI_) hown [] ⟨0, 9, 12, 13⟩ [] (by rw [htb]; rfl) (fun z9 hz9 => by cases hz9) (by decide) (by decide) (hts (.classLink RL 13 "java/lang/IndexOutOfBoundsException") (by decide +kernel)) (va_Nw.use rfl (hZ.1 (.castable cI_ cI_) (by decide +kernel))) h1 h2 h3 ?_
    refine lv_astore_n (lv' := [(3, _), (0, _), (1, _), (2, _)]) hx hb dL_take_12 rfl hl (by decide) rfl (fun ls hl => ?_)
    refine lv_iconst (v := 1) hx hb dL_take_13 (by decide) ?_
    have hS := lS (qo := qo) hS
    refine W.widen (k := 2) (n := 9) (Nat.le_of_ble_eq_true rfl) (Nat.le_of_ble_eq_true rfl) ?_
    refine W.iret hx hb hr ?_ hS.2.2 dL_take_14
    refine lq ?_ hW hO hS
    exact Or.inr ⟨rfl, rfl, hpx⟩
  · have hO := hO.kept (hS.2.1 qo hqs hqo)
    have hv9 : ∃ x9, v9 = .int x9 := by rcases hu9 with ⟨j, so, a, k, q, h1, h2, h3, hv, h5⟩ <;> exact ⟨_, hv⟩
    obtain ⟨x9, rfl⟩ := hv9
    refine lv_i2l hx hb dL_take_7 rfl ?_
    refine out_st hx hb hK.1 hW hO hqo hS dL_take_8 (fun H locs hW hO hS => ?_)
    refine lv_goto (tgt := 15) hx hb dL_take_9 (by decide) ?_
    refine lv_iconst (v := 0) hx hb dL_take_15 (by decide) ?_
    refine W.widen (k := 2) (n := 9) (Nat.le_of_ble_eq_true rfl) (Nat.le_of_ble_eq_true rfl) ?_
    refine W.iret hx hb hr ?_ hS.2.2 dL_take_16
    refine lq ?_ hW hO hS
    exact Or.inl ⟨rfl, x9, hu9, rfl⟩
set_option maxHeartbeats 4000000 in
set_option maxRecDepth 100000 in
theorem l_run (l : Launch) (hl0 : l.stackTraces = false) (D : va_G) (y : Nat → ClassId) (z : CS) (qo sz : Nat) (i : Int32) (J : Nat → CS → Prop) (hJ0 : J 0 z) (hJ : ∀ d x, J d x → ∃ n, RowOk x n ∧ cInv x ∧ (0 < n → ∃ so a k q, msgOk x (cS x 3 0) so a k q ∧ ∀ u, takeTo (fDraw x 0 n) (cS x 3 0) so a k q u → J (d + 1) u)) : Met l yL_run wsL_run ({ frames := 8, cells := 1001, slots := 3006, locals := 210 }) (va_Pc [.ref (cA z 6 0), .int i, .ref qo] (lPre D y z qo sz)) (lQ D y z qo sz (fun w u o => (w = 0 ∧ ∃ x : Int32, (fun (v : Value) (u : CS) => ∃ lim1 d, i = nI lim1 ∧ lim1 ≤ 1000 ∧ v = .int (nI d) ∧ J d u ∧ d ≤ lim1 ∧ (d = lim1 ∨ cI u 25 0 = 0) ∧ ∀ d1, d1 < d → ∃ x1, J d1 x1 ∧ ¬ cI x1 25 0 = 0) (.int x) u ∧ o = x.toInt64) ∨ (w = 1 ∧ u = z ∧ ¬ inG i 0 1000))) 1001 3006 (lF z qo sz) := by
  refine lh_ofWH (cc := cL_run) (maxL := 4) (ret := (some .int)) (by decide) rfl ?_
  intro p e s m args below meth c s₁ B hml hv
  obtain ⟨rfl, hsz, hW0, ⟨f0, hO⟩, hqo, hK, hZ0, hN⟩ := hv
  have hx := B.exec
  have hb := B.bytes
  have hr := B.returns
  have hts := atoms_spec (ws := wsL_run) B.pre
  have hown : s.vm.findClass RL = some m.cls := findClass_of_methodNamed B.named
  have htb : c.exceptionTable.toList = tableOf [(0, 9, 12, 15)] := vx_table (x := yL_run) B (hts _ List.mem_cons_self)
  subst hsz
  have hW := hW0.self (sz := s.heap.size)
  have hA : ∀ q, s.heap.size ≤ q → cF z s.heap.size q := fun q h => Or.inr h
  have hS : va_S (cF z s.heap.size) s.heap s.heap [] := va_S.rf
  have hZ : zS (cF z s.heap.size) s := hZ0.narrow (fun q h => Or.inl h)
  have hqs : qo < s.heap.size := hO.lt
  have hl := lv_entry ([.ref (cA z 6 0), .int i, .ref qo]) (n := 4) (Nat.le_of_ble_eq_true rfl)
  rw [lg_entry_eq]
  generalize (lg_sl ([.ref (cA z 6 0), .int i, .ref qo]) ++ List.replicate (4 - (lg_sl ([.ref (cA z 6 0), .int i, .ref qo])).length) Slot.unset).toArray = ls at hl ⊢
  have hl : lv_has ls 4 [(0, .ref (cA z 6 0)), (1, .int i), (2, .ref qo)] := hl
  refine lv_aload_n hx hb dL_run_0 rfl (lv_at hl 2 rfl) ?_
  refine lv_iconst (v := 0) hx hb dL_run_1 (by decide) ?_
  refine lv_aload_n hx hb dL_run_2 rfl (lv_at hl 0 rfl) ?_
  refine lv_iload_n hx hb dL_run_3 rfl (lv_at hl 1 rfl) ?_
  refine cx1 (vx_runV (As := [.int i]) (rest := [.int 0, .ref qo]) ⟨hx, hb, hml, hown, hts⟩ (m_run l hl0 D y z _ i J hJ0 hJ) (cwV 1 hts gL_run_X6_run rfl rfl rfl (by decide +kernel) ⟨Nat.le_of_ble_eq_true rfl, Nat.le_of_ble_eq_true rfl⟩) (cPreVX (k := 6) (q := (RX6, TX6, 7)) hW hK hZ hS hA (by first | assumption | omega | exact Nat.zero_lt_one | decide) rfl rfl [.int i]) rfl rfl hl.1 rfl (lv_room (Nat.le_of_ble_eq_true rfl)) dL_run_4 ⟨Nat.le_of_ble_eq_true rfl, Nat.le_of_ble_eq_true rfl⟩) hW hS hA (fun E9 ce9 q9 H locs hpx hW hS h1 h2 h3 => ?_) (fun v9 u9 H locs hu9 hW hS => ?_)
  · have hO := hO.kept (hS.2.1 qo hqs hqo)
    obtain ⟨rfl, hpx⟩ := hpx
    refine vx_catch (own := RL) (name := cG_) hown [] ⟨0, 9, 12, 15⟩ [] (by rw [htb]; rfl) (fun z9 hz9 => by cases hz9) (by decide) (by decide) (hts (.classLink RL 15 "java/lang/IllegalArgumentException") (by decide +kernel)) (va_Nw.use rfl (hZ.1 (.castable cG_ cG_) (by decide +kernel))) h1 h2 h3 ?_
    refine lv_astore_n (lv' := [(3, _), (0, _), (1, _), (2, _)]) hx hb dL_run_12 rfl hl (by decide) rfl (fun ls hl => ?_)
    refine lv_iconst (v := 1) hx hb dL_run_13 (by decide) ?_
    have hS := lS (qo := qo) hS
    refine W.widen (k := 1001) (n := 3006) (Nat.le_of_ble_eq_true rfl) (Nat.le_of_ble_eq_true rfl) ?_
    refine W.iret hx hb hr ?_ hS.2.2 dL_run_14
    refine lq ?_ hW hO hS
    exact Or.inr ⟨rfl, rfl, hpx⟩
  · have hO := hO.kept (hS.2.1 qo hqs hqo)
    have hv9 : ∃ x9, v9 = .int x9 := by rcases hu9 with ⟨lim, d, h1, h2, hv, h3⟩ <;> exact ⟨_, hv⟩
    obtain ⟨x9, rfl⟩ := hv9
    refine lv_i2l hx hb dL_run_7 rfl ?_
    refine out_st hx hb hK.1 hW hO hqo hS dL_run_8 (fun H locs hW hO hS => ?_)
    refine lv_goto (tgt := 15) hx hb dL_run_9 (by decide) ?_
    refine lv_iconst (v := 0) hx hb dL_run_15 (by decide) ?_
    refine W.widen (k := 1001) (n := 3006) (Nat.le_of_ble_eq_true rfl) (Nat.le_of_ble_eq_true rfl) ?_
    refine W.iret hx hb hr ?_ hS.2.2 dL_run_16
    refine lq ?_ hW hO hS
    exact Or.inl ⟨rfl, x9, hu9, rfl⟩
set_option maxHeartbeats 4000000 in
set_option maxRecDepth 100000 in
theorem l_lose (l : Launch) (hl0 : l.stackTraces = false) (D : va_G) (y : Nat → ClassId) (z : CS) (qo sz : Nat) (i : Int32) (n : Nat) (hrow : RowOk z n) : Met l yL_lose wsL_lose ({ frames := 8, cells := 1, slots := 6, locals := 135 }) (va_Pc [.ref (cA z 6 0), .int i, .ref qo] (lPre D y z qo sz)) (lQ D y z qo sz (fun w u o => (w = 0 ∧ ∃ x : Int32, (fun (v : Value) (u : CS) => ∃ j, j < n ∧ i = nI j ∧ v = .int (cI z 6 (cS z 3 j)) ∧ u = fDraw z j n) (.int x) u ∧ o = x.toInt64) ∨ (w = 1 ∧ u = z ∧ ¬ inR i (nI n)))) 1 6 (lF z qo sz) := by
  refine lh_ofWH (cc := cL_lose) (maxL := 4) (ret := (some .int)) (by decide) rfl ?_
  intro p e s m args below meth c s₁ B hml hv
  obtain ⟨rfl, hsz, hW0, ⟨f0, hO⟩, hqo, hK, hZ0, hN⟩ := hv
  have hx := B.exec
  have hb := B.bytes
  have hr := B.returns
  have hts := atoms_spec (ws := wsL_lose) B.pre
  have hown : s.vm.findClass RL = some m.cls := findClass_of_methodNamed B.named
  have htb : c.exceptionTable.toList = tableOf [(0, 9, 12, 13)] := vx_table (x := yL_lose) B (hts _ List.mem_cons_self)
  subst hsz
  have hW := hW0.self (sz := s.heap.size)
  have hA : ∀ q, s.heap.size ≤ q → cF z s.heap.size q := fun q h => Or.inr h
  have hS : va_S (cF z s.heap.size) s.heap s.heap [] := va_S.rf
  have hZ : zS (cF z s.heap.size) s := hZ0.narrow (fun q h => Or.inl h)
  have hqs : qo < s.heap.size := hO.lt
  have hl := lv_entry ([.ref (cA z 6 0), .int i, .ref qo]) (n := 4) (Nat.le_of_ble_eq_true rfl)
  rw [lg_entry_eq]
  generalize (lg_sl ([.ref (cA z 6 0), .int i, .ref qo]) ++ List.replicate (4 - (lg_sl ([.ref (cA z 6 0), .int i, .ref qo])).length) Slot.unset).toArray = ls at hl ⊢
  have hl : lv_has ls 4 [(0, .ref (cA z 6 0)), (1, .int i), (2, .ref qo)] := hl
  refine lv_aload_n hx hb dL_lose_0 rfl (lv_at hl 2 rfl) ?_
  refine lv_iconst (v := 0) hx hb dL_lose_1 (by decide) ?_
  refine lv_aload_n hx hb dL_lose_2 rfl (lv_at hl 0 rfl) ?_
  refine lv_iload_n hx hb dL_lose_3 rfl (lv_at hl 1 rfl) ?_
  refine cx1 (vx_runV (As := [.int i]) (rest := [.int 0, .ref qo]) ⟨hx, hb, hml, hown, hts⟩ (m_lose l hl0 D y z _ i n hrow) (cwV 1 hts gL_lose_X6_lose rfl rfl rfl (by decide +kernel) ⟨Nat.le_of_ble_eq_true rfl, Nat.le_of_ble_eq_true rfl⟩) (cPreVX (k := 6) (q := (RX6, TX6, 7)) hW hK hZ hS hA (by first | assumption | omega | exact Nat.zero_lt_one | decide) rfl rfl [.int i]) rfl rfl hl.1 rfl (lv_room (Nat.le_of_ble_eq_true rfl)) dL_lose_4 ⟨Nat.le_of_ble_eq_true rfl, Nat.le_of_ble_eq_true rfl⟩) hW hS hA (fun E9 ce9 q9 H locs hpx hW hS h1 h2 h3 => ?_) (fun v9 u9 H locs hu9 hW hS => ?_)
  · have hO := hO.kept (hS.2.1 qo hqs hqo)
    obtain ⟨rfl, hpx⟩ := hpx
    refine vx_catch (own := RL) (name := cI_) hown [] ⟨0, 9, 12, 13⟩ [] (by rw [htb]; rfl) (fun z9 hz9 => by cases hz9) (by decide) (by decide) (hts (.classLink RL 13 "java/lang/IndexOutOfBoundsException") (by decide +kernel)) (va_Nw.use rfl (hZ.1 (.castable cI_ cI_) (by decide +kernel))) h1 h2 h3 ?_
    refine lv_astore_n (lv' := [(3, _), (0, _), (1, _), (2, _)]) hx hb dL_lose_12 rfl hl (by decide) rfl (fun ls hl => ?_)
    refine lv_iconst (v := 1) hx hb dL_lose_13 (by decide) ?_
    have hS := lS (qo := qo) hS
    refine W.widen (k := 1) (n := 6) (Nat.le_of_ble_eq_true rfl) (Nat.le_of_ble_eq_true rfl) ?_
    refine W.iret hx hb hr ?_ hS.2.2 dL_lose_14
    refine lq ?_ hW hO hS
    exact Or.inr ⟨rfl, rfl, hpx⟩
  · have hO := hO.kept (hS.2.1 qo hqs hqo)
    have hv9 : ∃ x9, v9 = .int x9 := by rcases hu9 with ⟨j, h1, h2, hv, h3⟩ <;> exact ⟨_, hv⟩
    obtain ⟨x9, rfl⟩ := hv9
    refine lv_i2l hx hb dL_lose_7 rfl ?_
    refine out_st hx hb hK.1 hW hO hqo hS dL_lose_8 (fun H locs hW hO hS => ?_)
    refine lv_goto (tgt := 15) hx hb dL_lose_9 (by decide) ?_
    refine lv_iconst (v := 0) hx hb dL_lose_15 (by decide) ?_
    refine W.widen (k := 1) (n := 6) (Nat.le_of_ble_eq_true rfl) (Nat.le_of_ble_eq_true rfl) ?_
    refine W.iret hx hb hr ?_ hS.2.2 dL_lose_16
    refine lq ?_ hW hO hS
    exact Or.inl ⟨rfl, x9, hu9, rfl⟩
set_option maxHeartbeats 4000000 in
set_option maxRecDepth 100000 in
theorem l_twice (l : Launch) (hl0 : l.stackTraces = false) (D : va_G) (y : Nat → ClassId) (z : CS) (qo sz : Nat) (i : Int32) (n : Nat) (hrow : RowOk z n) : Met l yL_twice wsL_twice ({ frames := 8, cells := 1, slots := 6, locals := 135 }) (va_Pc [.ref (cA z 6 0), .int i, .ref qo] (lPre D y z qo sz)) (lQ D y z qo sz (fun w u o => (w = 0 ∧ ∃ x : Int32, (fun (v : Value) (u : CS) => ∃ j, j < n ∧ i = nI j ∧ ((¬ n < 300 ∧ v = .int (-1) ∧ u = z) ∨ (n < 300 ∧ v = .int (cI u 25 0) ∧ u = fTwice z j))) (.int x) u ∧ o = x.toInt64) ∨ (w = 1 ∧ u = z ∧ ¬ inR i (nI n)))) 1 6 (lF z qo sz) := by
  refine lh_ofWH (cc := cL_twice) (maxL := 4) (ret := (some .int)) (by decide) rfl ?_
  intro p e s m args below meth c s₁ B hml hv
  obtain ⟨rfl, hsz, hW0, ⟨f0, hO⟩, hqo, hK, hZ0, hN⟩ := hv
  have hx := B.exec
  have hb := B.bytes
  have hr := B.returns
  have hts := atoms_spec (ws := wsL_twice) B.pre
  have hown : s.vm.findClass RL = some m.cls := findClass_of_methodNamed B.named
  have htb : c.exceptionTable.toList = tableOf [(0, 9, 12, 13)] := vx_table (x := yL_twice) B (hts _ List.mem_cons_self)
  subst hsz
  have hW := hW0.self (sz := s.heap.size)
  have hA : ∀ q, s.heap.size ≤ q → cF z s.heap.size q := fun q h => Or.inr h
  have hS : va_S (cF z s.heap.size) s.heap s.heap [] := va_S.rf
  have hZ : zS (cF z s.heap.size) s := hZ0.narrow (fun q h => Or.inl h)
  have hqs : qo < s.heap.size := hO.lt
  have hl := lv_entry ([.ref (cA z 6 0), .int i, .ref qo]) (n := 4) (Nat.le_of_ble_eq_true rfl)
  rw [lg_entry_eq]
  generalize (lg_sl ([.ref (cA z 6 0), .int i, .ref qo]) ++ List.replicate (4 - (lg_sl ([.ref (cA z 6 0), .int i, .ref qo])).length) Slot.unset).toArray = ls at hl ⊢
  have hl : lv_has ls 4 [(0, .ref (cA z 6 0)), (1, .int i), (2, .ref qo)] := hl
  refine lv_aload_n hx hb dL_twice_0 rfl (lv_at hl 2 rfl) ?_
  refine lv_iconst (v := 0) hx hb dL_twice_1 (by decide) ?_
  refine lv_aload_n hx hb dL_twice_2 rfl (lv_at hl 0 rfl) ?_
  refine lv_iload_n hx hb dL_twice_3 rfl (lv_at hl 1 rfl) ?_
  refine cx1 (vx_runV (As := [.int i]) (rest := [.int 0, .ref qo]) ⟨hx, hb, hml, hown, hts⟩ (m_twice l hl0 D y z _ i n hrow) (cwV 1 hts gL_twice_X6_twice rfl rfl rfl (by decide +kernel) ⟨Nat.le_of_ble_eq_true rfl, Nat.le_of_ble_eq_true rfl⟩) (cPreVX (k := 6) (q := (RX6, TX6, 7)) hW hK hZ hS hA (by first | assumption | omega | exact Nat.zero_lt_one | decide) rfl rfl [.int i]) rfl rfl hl.1 rfl (lv_room (Nat.le_of_ble_eq_true rfl)) dL_twice_4 ⟨Nat.le_of_ble_eq_true rfl, Nat.le_of_ble_eq_true rfl⟩) hW hS hA (fun E9 ce9 q9 H locs hpx hW hS h1 h2 h3 => ?_) (fun v9 u9 H locs hu9 hW hS => ?_)
  · have hO := hO.kept (hS.2.1 qo hqs hqo)
    obtain ⟨rfl, hpx⟩ := hpx
    refine vx_catch (own := RL) (name := cI_) hown [] ⟨0, 9, 12, 13⟩ [] (by rw [htb]; rfl) (fun z9 hz9 => by cases hz9) (by decide) (by decide) (hts (.classLink RL 13 "java/lang/IndexOutOfBoundsException") (by decide +kernel)) (va_Nw.use rfl (hZ.1 (.castable cI_ cI_) (by decide +kernel))) h1 h2 h3 ?_
    refine lv_astore_n (lv' := [(3, _), (0, _), (1, _), (2, _)]) hx hb dL_twice_12 rfl hl (by decide) rfl (fun ls hl => ?_)
    refine lv_iconst (v := 1) hx hb dL_twice_13 (by decide) ?_
    have hS := lS (qo := qo) hS
    refine W.widen (k := 1) (n := 6) (Nat.le_of_ble_eq_true rfl) (Nat.le_of_ble_eq_true rfl) ?_
    refine W.iret hx hb hr ?_ hS.2.2 dL_twice_14
    refine lq ?_ hW hO hS
    exact Or.inr ⟨rfl, rfl, hpx⟩
  · have hO := hO.kept (hS.2.1 qo hqs hqo)
    have hv9 : ∃ x9, v9 = .int x9 := by rcases hu9 with ⟨j, h1, h2, ⟨h3, hv, h4⟩ | ⟨h3, hv, h4⟩⟩ <;> exact ⟨_, hv⟩
    obtain ⟨x9, rfl⟩ := hv9
    refine lv_i2l hx hb dL_twice_7 rfl ?_
    refine out_st hx hb hK.1 hW hO hqo hS dL_twice_8 (fun H locs hW hO hS => ?_)
    refine lv_goto (tgt := 15) hx hb dL_twice_9 (by decide) ?_
    refine lv_iconst (v := 0) hx hb dL_twice_15 (by decide) ?_
    refine W.widen (k := 1) (n := 6) (Nat.le_of_ble_eq_true rfl) (Nat.le_of_ble_eq_true rfl) ?_
    refine W.iret hx hb hr ?_ hS.2.2 dL_twice_16
    refine lq ?_ hW hO hS
    exact Or.inl ⟨rfl, x9, hu9, rfl⟩
set_option maxHeartbeats 4000000 in
set_option maxRecDepth 100000 in
theorem l_down (l : Launch) (hl0 : l.stackTraces = false) (D : va_G) (y : Nat → ClassId) (z : CS) (qo sz : Nat) (i b : Int32) (hb9 : b = 0 ∨ b = 1) (hd9 : ∀ k, k < 9 → cI z 29 k = 0 ∨ cI z 29 k = 1) : Met l yL_down wsL_down ({ frames := 8, cells := 1, slots := 6, locals := 135 }) (va_Pc [.ref (cA z 6 0), .int i, .int b, .ref qo] (lPre D y z qo sz)) (lQ D y z qo sz (fun w u o => (w = 0 ∧ ∃ x : Int32, (fun (v : Value) (u : CS) => ∃ k, k < 9 ∧ i = nI k ∧ v = .int (cI z 29 k) ∧ u = sI z 29 k b) (.int x) u ∧ o = if x = 0 then 0 else 1) ∨ (w = 1 ∧ u = z ∧ ¬ inR i 9))) 1 6 (lF z qo sz) := by
  refine lh_ofWH (cc := cL_down) (maxL := 5) (ret := (some .int)) (by decide) rfl ?_
  intro p e s m args below meth c s₁ B hml hv
  obtain ⟨rfl, hsz, hW0, ⟨f0, hO⟩, hqo, hK, hZ0, hN⟩ := hv
  have hx := B.exec
  have hb := B.bytes
  have hr := B.returns
  have hts := atoms_spec (ws := wsL_down) B.pre
  have hown : s.vm.findClass RL = some m.cls := findClass_of_methodNamed B.named
  have htb : c.exceptionTable.toList = tableOf [(0, 17, 20, 13)] := vx_table (x := yL_down) B (hts _ List.mem_cons_self)
  subst hsz
  have hW := hW0.self (sz := s.heap.size)
  have hA : ∀ q, s.heap.size ≤ q → cF z s.heap.size q := fun q h => Or.inr h
  have hS : va_S (cF z s.heap.size) s.heap s.heap [] := va_S.rf
  have hZ : zS (cF z s.heap.size) s := hZ0.narrow (fun q h => Or.inl h)
  have hqs : qo < s.heap.size := hO.lt
  have hl := lv_entry ([.ref (cA z 6 0), .int i, .int b, .ref qo]) (n := 5) (Nat.le_of_ble_eq_true rfl)
  rw [lg_entry_eq]
  generalize (lg_sl ([.ref (cA z 6 0), .int i, .int b, .ref qo]) ++ List.replicate (5 - (lg_sl ([.ref (cA z 6 0), .int i, .int b, .ref qo])).length) Slot.unset).toArray = ls at hl ⊢
  have hl : lv_has ls 5 [(0, .ref (cA z 6 0)), (1, .int i), (2, .int b), (3, .ref qo)] := hl
  refine lv_aload_n hx hb dL_down_0 rfl (lv_at hl 3 rfl) ?_
  refine lv_iconst (v := 0) hx hb dL_down_1 (by decide) ?_
  refine lv_aload_n hx hb dL_down_2 rfl (lv_at hl 0 rfl) ?_
  refine lv_iload_n hx hb dL_down_3 rfl (lv_at hl 1 rfl) ?_
  refine lv_iload_n hx hb dL_down_4 rfl (lv_at hl 2 rfl) ?_
  refine cx1 (vx_runV (As := [.int i, .int b]) (rest := [.int 0, .ref qo]) ⟨hx, hb, hml, hown, hts⟩ (m_down l hl0 D y z _ i b hb9 hd9) (cwV 2 hts gL_down_X6_down rfl rfl rfl (by decide +kernel) ⟨Nat.le_of_ble_eq_true rfl, Nat.le_of_ble_eq_true rfl⟩) (cPreVX (k := 6) (q := (RX6, TX6, 7)) hW hK hZ hS hA (by first | assumption | omega | exact Nat.zero_lt_one | decide) rfl rfl [.int i, .int b]) rfl rfl hl.1 rfl (lv_room (Nat.le_of_ble_eq_true rfl)) dL_down_5 ⟨Nat.le_of_ble_eq_true rfl, Nat.le_of_ble_eq_true rfl⟩) hW hS hA (fun E9 ce9 q9 H locs hpx hW hS h1 h2 h3 => ?_) (fun v9 u9 H locs hu9 hW hS => ?_)
  · have hO := hO.kept (hS.2.1 qo hqs hqo)
    obtain ⟨rfl, hpx⟩ := hpx
    refine vx_catch (own := RL) (name := cI_) hown [] ⟨0, 17, 20, 13⟩ [] (by rw [htb]; rfl) (fun z9 hz9 => by cases hz9) (by decide) (by decide) (hts (.classLink RL 13 "java/lang/IndexOutOfBoundsException") (by decide +kernel)) (va_Nw.use rfl (hZ.1 (.castable cI_ cI_) (by decide +kernel))) h1 h2 h3 ?_
    refine lv_astore (lv' := [(4, _), (0, _), (1, _), (2, _), (3, _)]) hx hb dL_down_20 hl (by decide) rfl (fun ls hl => ?_)
    refine lv_iconst (v := 1) hx hb dL_down_22 (by decide) ?_
    have hS := lS (qo := qo) hS
    refine W.widen (k := 1) (n := 6) (Nat.le_of_ble_eq_true rfl) (Nat.le_of_ble_eq_true rfl) ?_
    refine W.iret hx hb hr ?_ hS.2.2 dL_down_23
    refine lq ?_ hW hO hS
    exact Or.inr ⟨rfl, rfl, hpx⟩
  · have hO := hO.kept (hS.2.1 qo hqs hqo)
    have hv9 : ∃ x9, v9 = .int x9 := by rcases hu9 with ⟨k, h1, h2, hv, h3⟩ <;> exact ⟨_, hv⟩
    obtain ⟨x9, rfl⟩ := hv9
    refine lv_if_eq (tgt := 15) hx hb dL_down_8 (by decide) (fun c_8 => ?_) (fun c_8 => ?_)
    · refine lv_lconst (v := 0) hx hb dL_down_15 (by decide) ?_
      refine out_st hx hb hK.1 hW hO hqo hS dL_down_16 (fun H locs hW hO hS => ?_)
      refine lv_goto (tgt := 24) hx hb dL_down_17 (by decide) ?_
      refine lv_iconst (v := 0) hx hb dL_down_24 (by decide) ?_
      refine W.widen (k := 1) (n := 6) (Nat.le_of_ble_eq_true rfl) (Nat.le_of_ble_eq_true rfl) ?_
      refine W.iret hx hb hr ?_ hS.2.2 dL_down_25
      refine lq ?_ hW hO hS
      exact Or.inl ⟨rfl, x9, hu9, by rw [if_pos c_8]; rfl⟩
    · refine lv_lconst (v := 1) hx hb dL_down_11 (by decide) ?_
      refine lv_goto (tgt := 16) hx hb dL_down_12 (by decide) ?_
      refine out_st hx hb hK.1 hW hO hqo hS dL_down_16 (fun H locs hW hO hS => ?_)
      refine lv_goto (tgt := 24) hx hb dL_down_17 (by decide) ?_
      refine lv_iconst (v := 0) hx hb dL_down_24 (by decide) ?_
      refine W.widen (k := 1) (n := 6) (Nat.le_of_ble_eq_true rfl) (Nat.le_of_ble_eq_true rfl) ?_
      refine W.iret hx hb hr ?_ hS.2.2 dL_down_25
      refine lq ?_ hW hO hS
      exact Or.inl ⟨rfl, x9, hu9, by rw [if_neg c_8]; rfl⟩
set_option maxHeartbeats 4000000 in
set_option maxRecDepth 100000 in
theorem l_copy (l : Launch) (hl0 : l.stackTraces = false) (D : va_G) (y : Nat → ClassId) (z : CS) (qo sz : Nat) (i j : Int32) : Met l yL_copy wsL_copy ({ frames := 8, cells := 2, slots := 12, locals := 140 }) (va_Pc [.ref (cA z 6 0), .int i, .int j, .ref qo] (lPre D y z qo sz)) (lQ D y z qo sz (fun w u o => (w = 0 ∧ ∃ x : Int32, (fun (v : Value) (u : CS) => ∃ t1 f1, t1 < 9 ∧ f1 < 9 ∧ i = nI t1 ∧ j = nI f1 ∧ v = .int (fCnt 4 z t1 f1 0) ∧ u = fCopy 4 z t1 f1 0) (.int x) u ∧ o = x.toInt64) ∨ (w = 1 ∧ u = z ∧ ¬ (inR i 9 ∧ inR j 9)))) 2 12 (lF z qo sz) := by
  refine lh_ofWH (cc := cL_copy) (maxL := 5) (ret := (some .int)) (by decide) rfl ?_
  intro p e s m args below meth c s₁ B hml hv
  obtain ⟨rfl, hsz, hW0, ⟨f0, hO⟩, hqo, hK, hZ0, hN⟩ := hv
  have hx := B.exec
  have hb := B.bytes
  have hr := B.returns
  have hts := atoms_spec (ws := wsL_copy) B.pre
  have hown : s.vm.findClass RL = some m.cls := findClass_of_methodNamed B.named
  have htb : c.exceptionTable.toList = tableOf [(0, 10, 13, 13)] := vx_table (x := yL_copy) B (hts _ List.mem_cons_self)
  subst hsz
  have hW := hW0.self (sz := s.heap.size)
  have hA : ∀ q, s.heap.size ≤ q → cF z s.heap.size q := fun q h => Or.inr h
  have hS : va_S (cF z s.heap.size) s.heap s.heap [] := va_S.rf
  have hZ : zS (cF z s.heap.size) s := hZ0.narrow (fun q h => Or.inl h)
  have hqs : qo < s.heap.size := hO.lt
  have hl := lv_entry ([.ref (cA z 6 0), .int i, .int j, .ref qo]) (n := 5) (Nat.le_of_ble_eq_true rfl)
  rw [lg_entry_eq]
  generalize (lg_sl ([.ref (cA z 6 0), .int i, .int j, .ref qo]) ++ List.replicate (5 - (lg_sl ([.ref (cA z 6 0), .int i, .int j, .ref qo])).length) Slot.unset).toArray = ls at hl ⊢
  have hl : lv_has ls 5 [(0, .ref (cA z 6 0)), (1, .int i), (2, .int j), (3, .ref qo)] := hl
  refine lv_aload_n hx hb dL_copy_0 rfl (lv_at hl 3 rfl) ?_
  refine lv_iconst (v := 0) hx hb dL_copy_1 (by decide) ?_
  refine lv_aload_n hx hb dL_copy_2 rfl (lv_at hl 0 rfl) ?_
  refine lv_iload_n hx hb dL_copy_3 rfl (lv_at hl 1 rfl) ?_
  refine lv_iload_n hx hb dL_copy_4 rfl (lv_at hl 2 rfl) ?_
  refine cx1 (vx_runV (As := [.int i, .int j]) (rest := [.int 0, .ref qo]) ⟨hx, hb, hml, hown, hts⟩ (m_copy l hl0 D y z _ i j) (cwV 2 hts gL_copy_X6_copy rfl rfl rfl (by decide +kernel) ⟨Nat.le_of_ble_eq_true rfl, Nat.le_of_ble_eq_true rfl⟩) (cPreVX (k := 6) (q := (RX6, TX6, 7)) hW hK hZ hS hA (by first | assumption | omega | exact Nat.zero_lt_one | decide) rfl rfl [.int i, .int j]) rfl rfl hl.1 rfl (lv_room (Nat.le_of_ble_eq_true rfl)) dL_copy_5 ⟨Nat.le_of_ble_eq_true rfl, Nat.le_of_ble_eq_true rfl⟩) hW hS hA (fun E9 ce9 q9 H locs hpx hW hS h1 h2 h3 => ?_) (fun v9 u9 H locs hu9 hW hS => ?_)
  · have hO := hO.kept (hS.2.1 qo hqs hqo)
    obtain ⟨rfl, hpx⟩ := hpx
    refine vx_catch (own := RL) (name := cI_) hown [] ⟨0, 10, 13, 13⟩ [] (by rw [htb]; rfl) (fun z9 hz9 => by cases hz9) (by decide) (by decide) (hts (.classLink RL 13 "java/lang/IndexOutOfBoundsException") (by decide +kernel)) (va_Nw.use rfl (hZ.1 (.castable cI_ cI_) (by decide +kernel))) h1 h2 h3 ?_
    refine lv_astore (lv' := [(4, _), (0, _), (1, _), (2, _), (3, _)]) hx hb dL_copy_13 hl (by decide) rfl (fun ls hl => ?_)
    refine lv_iconst (v := 1) hx hb dL_copy_15 (by decide) ?_
    have hS := lS (qo := qo) hS
    refine W.widen (k := 2) (n := 12) (Nat.le_of_ble_eq_true rfl) (Nat.le_of_ble_eq_true rfl) ?_
    refine W.iret hx hb hr ?_ hS.2.2 dL_copy_16
    refine lq ?_ hW hO hS
    exact Or.inr ⟨rfl, rfl, hpx⟩
  · have hO := hO.kept (hS.2.1 qo hqs hqo)
    have hv9 : ∃ x9, v9 = .int x9 := by rcases hu9 with ⟨t1, f1, h1, h2, h3, h4, hv, h5⟩ <;> exact ⟨_, hv⟩
    obtain ⟨x9, rfl⟩ := hv9
    refine lv_i2l hx hb dL_copy_8 rfl ?_
    refine out_st hx hb hK.1 hW hO hqo hS dL_copy_9 (fun H locs hW hO hS => ?_)
    refine lv_goto (tgt := 17) hx hb dL_copy_10 (by decide) ?_
    refine lv_iconst (v := 0) hx hb dL_copy_17 (by decide) ?_
    refine W.widen (k := 2) (n := 12) (Nat.le_of_ble_eq_true rfl) (Nat.le_of_ble_eq_true rfl) ?_
    refine W.iret hx hb hr ?_ hS.2.2 dL_copy_18
    refine lq ?_ hW hO hS
    exact Or.inl ⟨rfl, x9, hu9, rfl⟩
set_option maxHeartbeats 4000000 in
set_option maxRecDepth 100000 in
theorem l_message (l : Launch) (hl0 : l.stackTraces = false) (D : va_G) (y : Nat → ClassId) (z : CS) (qo sz : Nat) (i wh : Int32) (n : Nat) (hrow : RowOk z n) (hV : cV z) : Met l yL_message wsL_message ({ frames := 8, cells := 2, slots := 12, locals := 135 }) (va_Pc [.ref (cA z 6 0), .int i, .int wh, .ref qo] (lPre D y z qo sz)) (lQ D y z qo sz (fun w u o => (w = 0 ∧ ∃ x : Int32, (fun (v : Value) (u : CS) => ∃ j w, j < n ∧ w < 6 ∧ i = nI j ∧ wh = nI w ∧ v = .int (msgVal z (cS z 3 j) w) ∧ u = z) (.int x) u ∧ o = x.toInt64) ∨ (w = 1 ∧ u = z ∧ ¬ (inR i (nI n) ∧ inR wh 6)))) 2 12 (lF z qo sz) := by
  refine lh_ofWH (cc := cL_message) (maxL := 5) (ret := (some .int)) (by decide) rfl ?_
  intro p e s m args below meth c s₁ B hml hv
  obtain ⟨rfl, hsz, hW0, ⟨f0, hO⟩, hqo, hK, hZ0, hN⟩ := hv
  have hx := B.exec
  have hb := B.bytes
  have hr := B.returns
  have hts := atoms_spec (ws := wsL_message) B.pre
  have hown : s.vm.findClass RL = some m.cls := findClass_of_methodNamed B.named
  have htb : c.exceptionTable.toList = tableOf [(0, 10, 13, 13)] := vx_table (x := yL_message) B (hts _ List.mem_cons_self)
  subst hsz
  have hW := hW0.self (sz := s.heap.size)
  have hA : ∀ q, s.heap.size ≤ q → cF z s.heap.size q := fun q h => Or.inr h
  have hS : va_S (cF z s.heap.size) s.heap s.heap [] := va_S.rf
  have hZ : zS (cF z s.heap.size) s := hZ0.narrow (fun q h => Or.inl h)
  have hqs : qo < s.heap.size := hO.lt
  have hl := lv_entry ([.ref (cA z 6 0), .int i, .int wh, .ref qo]) (n := 5) (Nat.le_of_ble_eq_true rfl)
  rw [lg_entry_eq]
  generalize (lg_sl ([.ref (cA z 6 0), .int i, .int wh, .ref qo]) ++ List.replicate (5 - (lg_sl ([.ref (cA z 6 0), .int i, .int wh, .ref qo])).length) Slot.unset).toArray = ls at hl ⊢
  have hl : lv_has ls 5 [(0, .ref (cA z 6 0)), (1, .int i), (2, .int wh), (3, .ref qo)] := hl
  refine lv_aload_n hx hb dL_message_0 rfl (lv_at hl 3 rfl) ?_
  refine lv_iconst (v := 0) hx hb dL_message_1 (by decide) ?_
  refine lv_aload_n hx hb dL_message_2 rfl (lv_at hl 0 rfl) ?_
  refine lv_iload_n hx hb dL_message_3 rfl (lv_at hl 1 rfl) ?_
  refine lv_iload_n hx hb dL_message_4 rfl (lv_at hl 2 rfl) ?_
  refine cx1 (vx_runV (As := [.int i, .int wh]) (rest := [.int 0, .ref qo]) ⟨hx, hb, hml, hown, hts⟩ (m_message l hl0 D y z _ i wh n hrow hV) (cwV 2 hts gL_message_X6_message rfl rfl rfl (by decide +kernel) ⟨Nat.le_of_ble_eq_true rfl, Nat.le_of_ble_eq_true rfl⟩) (cPreVX (k := 6) (q := (RX6, TX6, 7)) hW hK hZ hS hA (by first | assumption | omega | exact Nat.zero_lt_one | decide) rfl rfl [.int i, .int wh]) rfl rfl hl.1 rfl (lv_room (Nat.le_of_ble_eq_true rfl)) dL_message_5 ⟨Nat.le_of_ble_eq_true rfl, Nat.le_of_ble_eq_true rfl⟩) hW hS hA (fun E9 ce9 q9 H locs hpx hW hS h1 h2 h3 => ?_) (fun v9 u9 H locs hu9 hW hS => ?_)
  · have hO := hO.kept (hS.2.1 qo hqs hqo)
    obtain ⟨rfl, hpx⟩ := hpx
    refine vx_catch (own := RL) (name := cI_) hown [] ⟨0, 10, 13, 13⟩ [] (by rw [htb]; rfl) (fun z9 hz9 => by cases hz9) (by decide) (by decide) (hts (.classLink RL 13 "java/lang/IndexOutOfBoundsException") (by decide +kernel)) (va_Nw.use rfl (hZ.1 (.castable cI_ cI_) (by decide +kernel))) h1 h2 h3 ?_
    refine lv_astore (lv' := [(4, _), (0, _), (1, _), (2, _), (3, _)]) hx hb dL_message_13 hl (by decide) rfl (fun ls hl => ?_)
    refine lv_iconst (v := 1) hx hb dL_message_15 (by decide) ?_
    have hS := lS (qo := qo) hS
    refine W.widen (k := 2) (n := 12) (Nat.le_of_ble_eq_true rfl) (Nat.le_of_ble_eq_true rfl) ?_
    refine W.iret hx hb hr ?_ hS.2.2 dL_message_16
    refine lq ?_ hW hO hS
    exact Or.inr ⟨rfl, rfl, hpx⟩
  · have hO := hO.kept (hS.2.1 qo hqs hqo)
    have hv9 : ∃ x9, v9 = .int x9 := by rcases hu9 with ⟨j, w, h1, h2, h3, h4, hv, h5⟩ <;> exact ⟨_, hv⟩
    obtain ⟨x9, rfl⟩ := hv9
    refine lv_i2l hx hb dL_message_8 rfl ?_
    refine out_st hx hb hK.1 hW hO hqo hS dL_message_9 (fun H locs hW hO hS => ?_)
    refine lv_goto (tgt := 17) hx hb dL_message_10 (by decide) ?_
    refine lv_iconst (v := 0) hx hb dL_message_17 (by decide) ?_
    refine W.widen (k := 2) (n := 12) (Nat.le_of_ble_eq_true rfl) (Nat.le_of_ble_eq_true rfl) ?_
    refine W.iret hx hb hr ?_ hS.2.2 dL_message_18
    refine lq ?_ hW hO hS
    exact Or.inl ⟨rfl, x9, hu9, rfl⟩
set_option maxHeartbeats 4000000 in
set_option maxRecDepth 100000 in
theorem l_keeper (l : Launch) (hl0 : l.stackTraces = false) (D : va_G) (y : Nat → ClassId) (z : CS) (qo sz : Nat) (i j wh : Int32) (hV : cV z) : Met l yL_keeper wsL_keeper ({ frames := 8, cells := 3, slots := 18, locals := 135 }) (va_Pc [.ref (cA z 6 0), .int i, .int j, .int wh, .ref qo] (lPre D y z qo sz)) (lQ D y z qo sz (fun w u o => (w = 0 ∧ ∃ x : Int32, (fun (v : Value) (u : CS) => ∃ k q w, k < 9 ∧ q < 4 ∧ w < 3 ∧ i = nI k ∧ j = nI q ∧ wh = nI w ∧ v = .int (regVal z (4 * k + q) w) ∧ u = z) (.int x) u ∧ o = x.toInt64) ∨ (w = 1 ∧ u = z ∧ ¬ (inR i 9 ∧ inR j 4 ∧ inR wh 3)))) 3 18 (lF z qo sz) := by
  refine lh_ofWH (cc := cL_keeper) (maxL := 6) (ret := (some .int)) (by decide) rfl ?_
  intro p e s m args below meth c s₁ B hml hv
  obtain ⟨rfl, hsz, hW0, ⟨f0, hO⟩, hqo, hK, hZ0, hN⟩ := hv
  have hx := B.exec
  have hb := B.bytes
  have hr := B.returns
  have hts := atoms_spec (ws := wsL_keeper) B.pre
  have hown : s.vm.findClass RL = some m.cls := findClass_of_methodNamed B.named
  have htb : c.exceptionTable.toList = tableOf [(0, 12, 15, 13)] := vx_table (x := yL_keeper) B (hts _ List.mem_cons_self)
  subst hsz
  have hW := hW0.self (sz := s.heap.size)
  have hA : ∀ q, s.heap.size ≤ q → cF z s.heap.size q := fun q h => Or.inr h
  have hS : va_S (cF z s.heap.size) s.heap s.heap [] := va_S.rf
  have hZ : zS (cF z s.heap.size) s := hZ0.narrow (fun q h => Or.inl h)
  have hqs : qo < s.heap.size := hO.lt
  have hl := lv_entry ([.ref (cA z 6 0), .int i, .int j, .int wh, .ref qo]) (n := 6) (Nat.le_of_ble_eq_true rfl)
  rw [lg_entry_eq]
  generalize (lg_sl ([.ref (cA z 6 0), .int i, .int j, .int wh, .ref qo]) ++ List.replicate (6 - (lg_sl ([.ref (cA z 6 0), .int i, .int j, .int wh, .ref qo])).length) Slot.unset).toArray = ls at hl ⊢
  have hl : lv_has ls 6 [(0, .ref (cA z 6 0)), (1, .int i), (2, .int j), (3, .int wh), (4, .ref qo)] := hl
  refine lv_aload hx hb dL_keeper_0 (lv_at hl 4 rfl) ?_
  refine lv_iconst (v := 0) hx hb dL_keeper_2 (by decide) ?_
  refine lv_aload_n hx hb dL_keeper_3 rfl (lv_at hl 0 rfl) ?_
  refine lv_iload_n hx hb dL_keeper_4 rfl (lv_at hl 1 rfl) ?_
  refine lv_iload_n hx hb dL_keeper_5 rfl (lv_at hl 2 rfl) ?_
  refine lv_iload_n hx hb dL_keeper_6 rfl (lv_at hl 3 rfl) ?_
  refine cx1 (vx_runV (As := [.int i, .int j, .int wh]) (rest := [.int 0, .ref qo]) ⟨hx, hb, hml, hown, hts⟩ (m_keeper l hl0 D y z _ i j wh hV) (cwV 3 hts gL_keeper_X6_keeper rfl rfl rfl (by decide +kernel) ⟨Nat.le_of_ble_eq_true rfl, Nat.le_of_ble_eq_true rfl⟩) (cPreVX (k := 6) (q := (RX6, TX6, 7)) hW hK hZ hS hA (by first | assumption | omega | exact Nat.zero_lt_one | decide) rfl rfl [.int i, .int j, .int wh]) rfl rfl hl.1 rfl (lv_room (Nat.le_of_ble_eq_true rfl)) dL_keeper_7 ⟨Nat.le_of_ble_eq_true rfl, Nat.le_of_ble_eq_true rfl⟩) hW hS hA (fun E9 ce9 q9 H locs hpx hW hS h1 h2 h3 => ?_) (fun v9 u9 H locs hu9 hW hS => ?_)
  · have hO := hO.kept (hS.2.1 qo hqs hqo)
    obtain ⟨rfl, hpx⟩ := hpx
    refine vx_catch (own := RL) (name := cI_) hown [] ⟨0, 12, 15, 13⟩ [] (by rw [htb]; rfl) (fun z9 hz9 => by cases hz9) (by decide) (by decide) (hts (.classLink RL 13 "java/lang/IndexOutOfBoundsException") (by decide +kernel)) (va_Nw.use rfl (hZ.1 (.castable cI_ cI_) (by decide +kernel))) h1 h2 h3 ?_
    refine lv_astore (lv' := [(5, _), (0, _), (1, _), (2, _), (3, _), (4, _)]) hx hb dL_keeper_15 hl (by decide) rfl (fun ls hl => ?_)
    refine lv_iconst (v := 1) hx hb dL_keeper_17 (by decide) ?_
    have hS := lS (qo := qo) hS
    refine W.widen (k := 3) (n := 18) (Nat.le_of_ble_eq_true rfl) (Nat.le_of_ble_eq_true rfl) ?_
    refine W.iret hx hb hr ?_ hS.2.2 dL_keeper_18
    refine lq ?_ hW hO hS
    exact Or.inr ⟨rfl, rfl, hpx⟩
  · have hO := hO.kept (hS.2.1 qo hqs hqo)
    have hv9 : ∃ x9, v9 = .int x9 := by rcases hu9 with ⟨k, q, w, h1, h2, h3, h4, h5, h6, hv, h7⟩ <;> exact ⟨_, hv⟩
    obtain ⟨x9, rfl⟩ := hv9
    refine lv_i2l hx hb dL_keeper_10 rfl ?_
    refine out_st hx hb hK.1 hW hO hqo hS dL_keeper_11 (fun H locs hW hO hS => ?_)
    refine lv_goto (tgt := 19) hx hb dL_keeper_12 (by decide) ?_
    refine lv_iconst (v := 0) hx hb dL_keeper_19 (by decide) ?_
    refine W.widen (k := 3) (n := 18) (Nat.le_of_ble_eq_true rfl) (Nat.le_of_ble_eq_true rfl) ?_
    refine W.iret hx hb hr ?_ hS.2.2 dL_keeper_20
    refine lq ?_ hW hO hS
    exact Or.inl ⟨rfl, x9, hu9, rfl⟩
set_option maxHeartbeats 4000000 in
set_option maxRecDepth 100000 in
theorem l_kept (l : Launch) (hl0 : l.stackTraces = false) (D : va_G) (y : Nat → ClassId) (z : CS) (qo sz : Nat) (i j : Int32) (hV : cV z) : Met l yL_kept wsL_kept ({ frames := 8, cells := 2, slots := 12, locals := 135 }) (va_Pc [.ref (cA z 6 0), .int i, .int j, .ref qo] (lPre D y z qo sz)) (lQ D y z qo sz (fun w u o => (w = 0 ∧ ∃ x : Int64, (fun (v : Value) (u : CS) => ∃ k q, k < 9 ∧ q < 4 ∧ i = nI k ∧ j = nI q ∧ v = .long (cJ z 1 (cS z 0 (4 * k + q))) ∧ u = z) (.long x) u ∧ o = x) ∨ (w = 1 ∧ u = z ∧ ¬ (inR i 9 ∧ inR j 4)))) 2 12 (lF z qo sz) := by
  refine lh_ofWH (cc := cL_kept) (maxL := 5) (ret := (some .int)) (by decide) rfl ?_
  intro p e s m args below meth c s₁ B hml hv
  obtain ⟨rfl, hsz, hW0, ⟨f0, hO⟩, hqo, hK, hZ0, hN⟩ := hv
  have hx := B.exec
  have hb := B.bytes
  have hr := B.returns
  have hts := atoms_spec (ws := wsL_kept) B.pre
  have hown : s.vm.findClass RL = some m.cls := findClass_of_methodNamed B.named
  have htb : c.exceptionTable.toList = tableOf [(0, 9, 12, 13)] := vx_table (x := yL_kept) B (hts _ List.mem_cons_self)
  subst hsz
  have hW := hW0.self (sz := s.heap.size)
  have hA : ∀ q, s.heap.size ≤ q → cF z s.heap.size q := fun q h => Or.inr h
  have hS : va_S (cF z s.heap.size) s.heap s.heap [] := va_S.rf
  have hZ : zS (cF z s.heap.size) s := hZ0.narrow (fun q h => Or.inl h)
  have hqs : qo < s.heap.size := hO.lt
  have hl := lv_entry ([.ref (cA z 6 0), .int i, .int j, .ref qo]) (n := 5) (Nat.le_of_ble_eq_true rfl)
  rw [lg_entry_eq]
  generalize (lg_sl ([.ref (cA z 6 0), .int i, .int j, .ref qo]) ++ List.replicate (5 - (lg_sl ([.ref (cA z 6 0), .int i, .int j, .ref qo])).length) Slot.unset).toArray = ls at hl ⊢
  have hl : lv_has ls 5 [(0, .ref (cA z 6 0)), (1, .int i), (2, .int j), (3, .ref qo)] := hl
  refine lv_aload_n hx hb dL_kept_0 rfl (lv_at hl 3 rfl) ?_
  refine lv_iconst (v := 0) hx hb dL_kept_1 (by decide) ?_
  refine lv_aload_n hx hb dL_kept_2 rfl (lv_at hl 0 rfl) ?_
  refine lv_iload_n hx hb dL_kept_3 rfl (lv_at hl 1 rfl) ?_
  refine lv_iload_n hx hb dL_kept_4 rfl (lv_at hl 2 rfl) ?_
  refine cx1 (vx_runV (As := [.int i, .int j]) (rest := [.int 0, .ref qo]) ⟨hx, hb, hml, hown, hts⟩ (m_kept l hl0 D y z _ i j hV) (cwV 2 hts gL_kept_X6_kept rfl rfl rfl (by decide +kernel) ⟨Nat.le_of_ble_eq_true rfl, Nat.le_of_ble_eq_true rfl⟩) (cPreVX (k := 6) (q := (RX6, TX6, 7)) hW hK hZ hS hA (by first | assumption | omega | exact Nat.zero_lt_one | decide) rfl rfl [.int i, .int j]) rfl rfl hl.1 rfl (lv_room (Nat.le_of_ble_eq_true rfl)) dL_kept_5 ⟨Nat.le_of_ble_eq_true rfl, Nat.le_of_ble_eq_true rfl⟩) hW hS hA (fun E9 ce9 q9 H locs hpx hW hS h1 h2 h3 => ?_) (fun v9 u9 H locs hu9 hW hS => ?_)
  · have hO := hO.kept (hS.2.1 qo hqs hqo)
    obtain ⟨rfl, hpx⟩ := hpx
    refine vx_catch (own := RL) (name := cI_) hown [] ⟨0, 9, 12, 13⟩ [] (by rw [htb]; rfl) (fun z9 hz9 => by cases hz9) (by decide) (by decide) (hts (.classLink RL 13 "java/lang/IndexOutOfBoundsException") (by decide +kernel)) (va_Nw.use rfl (hZ.1 (.castable cI_ cI_) (by decide +kernel))) h1 h2 h3 ?_
    refine lv_astore (lv' := [(4, _), (0, _), (1, _), (2, _), (3, _)]) hx hb dL_kept_12 hl (by decide) rfl (fun ls hl => ?_)
    refine lv_iconst (v := 1) hx hb dL_kept_14 (by decide) ?_
    have hS := lS (qo := qo) hS
    refine W.widen (k := 2) (n := 12) (Nat.le_of_ble_eq_true rfl) (Nat.le_of_ble_eq_true rfl) ?_
    refine W.iret hx hb hr ?_ hS.2.2 dL_kept_15
    refine lq ?_ hW hO hS
    exact Or.inr ⟨rfl, rfl, hpx⟩
  · have hO := hO.kept (hS.2.1 qo hqs hqo)
    have hv9 : ∃ x9, v9 = .long x9 := by rcases hu9 with ⟨k, q, h1, h2, h3, h4, hv, h5⟩ <;> exact ⟨_, hv⟩
    obtain ⟨x9, rfl⟩ := hv9
    refine out_st hx hb hK.1 hW hO hqo hS dL_kept_8 (fun H locs hW hO hS => ?_)
    refine lv_goto (tgt := 16) hx hb dL_kept_9 (by decide) ?_
    refine lv_iconst (v := 0) hx hb dL_kept_16 (by decide) ?_
    refine W.widen (k := 2) (n := 12) (Nat.le_of_ble_eq_true rfl) (Nat.le_of_ble_eq_true rfl) ?_
    refine W.iret hx hb hr ?_ hS.2.2 dL_kept_17
    refine lq ?_ hW hO hS
    exact Or.inl ⟨rfl, x9, hu9, rfl⟩
set_option maxHeartbeats 4000000 in
set_option maxRecDepth 100000 in
theorem l_asker (l : Launch) (hl0 : l.stackTraces = false) (D : va_G) (y : Nat → ClassId) (z : CS) (qo sz : Nat) (i wh : Int32) (hcr : ∀ a r, cR z 1 a = some r → r < cNr z) : Met l yL_asker wsL_asker ({ frames := 8, cells := 2, slots := 12, locals := 135 }) (va_Pc [.ref (cA z 6 0), .int i, .int wh, .ref qo] (lPre D y z qo sz)) (lQ D y z qo sz (fun w u o => (w = 0 ∧ ∃ x : Int32, (fun (v : Value) (u : CS) => ∃ a w, a < 4 ∧ w < 4 ∧ i = nI a ∧ wh = nI w ∧ v = .int (askVal z a w) ∧ u = z) (.int x) u ∧ o = x.toInt64) ∨ (w = 1 ∧ u = z ∧ ¬ (inR i 4 ∧ inR wh 4)))) 2 12 (lF z qo sz) := by
  refine lh_ofWH (cc := cL_asker) (maxL := 5) (ret := (some .int)) (by decide) rfl ?_
  intro p e s m args below meth c s₁ B hml hv
  obtain ⟨rfl, hsz, hW0, ⟨f0, hO⟩, hqo, hK, hZ0, hN⟩ := hv
  have hx := B.exec
  have hb := B.bytes
  have hr := B.returns
  have hts := atoms_spec (ws := wsL_asker) B.pre
  have hown : s.vm.findClass RL = some m.cls := findClass_of_methodNamed B.named
  have htb : c.exceptionTable.toList = tableOf [(0, 10, 13, 13)] := vx_table (x := yL_asker) B (hts _ List.mem_cons_self)
  subst hsz
  have hW := hW0.self (sz := s.heap.size)
  have hA : ∀ q, s.heap.size ≤ q → cF z s.heap.size q := fun q h => Or.inr h
  have hS : va_S (cF z s.heap.size) s.heap s.heap [] := va_S.rf
  have hZ : zS (cF z s.heap.size) s := hZ0.narrow (fun q h => Or.inl h)
  have hqs : qo < s.heap.size := hO.lt
  have hl := lv_entry ([.ref (cA z 6 0), .int i, .int wh, .ref qo]) (n := 5) (Nat.le_of_ble_eq_true rfl)
  rw [lg_entry_eq]
  generalize (lg_sl ([.ref (cA z 6 0), .int i, .int wh, .ref qo]) ++ List.replicate (5 - (lg_sl ([.ref (cA z 6 0), .int i, .int wh, .ref qo])).length) Slot.unset).toArray = ls at hl ⊢
  have hl : lv_has ls 5 [(0, .ref (cA z 6 0)), (1, .int i), (2, .int wh), (3, .ref qo)] := hl
  refine lv_aload_n hx hb dL_asker_0 rfl (lv_at hl 3 rfl) ?_
  refine lv_iconst (v := 0) hx hb dL_asker_1 (by decide) ?_
  refine lv_aload_n hx hb dL_asker_2 rfl (lv_at hl 0 rfl) ?_
  refine lv_iload_n hx hb dL_asker_3 rfl (lv_at hl 1 rfl) ?_
  refine lv_iload_n hx hb dL_asker_4 rfl (lv_at hl 2 rfl) ?_
  refine cx1 (vx_runV (As := [.int i, .int wh]) (rest := [.int 0, .ref qo]) ⟨hx, hb, hml, hown, hts⟩ (m_asker l hl0 D y z _ i wh hcr) (cwV 2 hts gL_asker_X6_asker rfl rfl rfl (by decide +kernel) ⟨Nat.le_of_ble_eq_true rfl, Nat.le_of_ble_eq_true rfl⟩) (cPreVX (k := 6) (q := (RX6, TX6, 7)) hW hK hZ hS hA (by first | assumption | omega | exact Nat.zero_lt_one | decide) rfl rfl [.int i, .int wh]) rfl rfl hl.1 rfl (lv_room (Nat.le_of_ble_eq_true rfl)) dL_asker_5 ⟨Nat.le_of_ble_eq_true rfl, Nat.le_of_ble_eq_true rfl⟩) hW hS hA (fun E9 ce9 q9 H locs hpx hW hS h1 h2 h3 => ?_) (fun v9 u9 H locs hu9 hW hS => ?_)
  · have hO := hO.kept (hS.2.1 qo hqs hqo)
    obtain ⟨rfl, hpx⟩ := hpx
    refine vx_catch (own := RL) (name := cI_) hown [] ⟨0, 10, 13, 13⟩ [] (by rw [htb]; rfl) (fun z9 hz9 => by cases hz9) (by decide) (by decide) (hts (.classLink RL 13 "java/lang/IndexOutOfBoundsException") (by decide +kernel)) (va_Nw.use rfl (hZ.1 (.castable cI_ cI_) (by decide +kernel))) h1 h2 h3 ?_
    refine lv_astore (lv' := [(4, _), (0, _), (1, _), (2, _), (3, _)]) hx hb dL_asker_13 hl (by decide) rfl (fun ls hl => ?_)
    refine lv_iconst (v := 1) hx hb dL_asker_15 (by decide) ?_
    have hS := lS (qo := qo) hS
    refine W.widen (k := 2) (n := 12) (Nat.le_of_ble_eq_true rfl) (Nat.le_of_ble_eq_true rfl) ?_
    refine W.iret hx hb hr ?_ hS.2.2 dL_asker_16
    refine lq ?_ hW hO hS
    exact Or.inr ⟨rfl, rfl, hpx⟩
  · have hO := hO.kept (hS.2.1 qo hqs hqo)
    have hv9 : ∃ x9, v9 = .int x9 := by rcases hu9 with ⟨a, w, h1, h2, h3, h4, hv, h5⟩ <;> exact ⟨_, hv⟩
    obtain ⟨x9, rfl⟩ := hv9
    refine lv_i2l hx hb dL_asker_8 rfl ?_
    refine out_st hx hb hK.1 hW hO hqo hS dL_asker_9 (fun H locs hW hO hS => ?_)
    refine lv_goto (tgt := 17) hx hb dL_asker_10 (by decide) ?_
    refine lv_iconst (v := 0) hx hb dL_asker_17 (by decide) ?_
    refine W.widen (k := 2) (n := 12) (Nat.le_of_ble_eq_true rfl) (Nat.le_of_ble_eq_true rfl) ?_
    refine W.iret hx hb hr ?_ hS.2.2 dL_asker_18
    refine lq ?_ hW hO hS
    exact Or.inl ⟨rfl, x9, hu9, rfl⟩
set_option maxHeartbeats 4000000 in
set_option maxRecDepth 100000 in
theorem l_request (l : Launch) (hl0 : l.stackTraces = false) (D : va_G) (y : Nat → ClassId) (z : CS) (qo sz : Nat) (i wh : Int32) (h28 : cI z 28 0 = nI (cNr z)) (h200 : cNr z ≤ 200) (h6 : ∀ r, r < cNr z → cR z 6 r = some r) (hI : cInv z) : Met l yL_request wsL_request ({ frames := 9, cells := 3, slots := 18, locals := 160 }) (va_Pc [.ref (cA z 6 0), .int i, .int wh, .ref qo] (lPre D y z qo sz)) (lQ D y z qo sz (fun w u o => (w = 0 ∧ ∃ x : Int32, (fun (v : Value) (u : CS) => ∃ r st w, r < cNr z ∧ w < 4 ∧ i = nI r ∧ wh = nI w ∧ cR z 3 r = some st ∧ v = .int (reqVal z r st w) ∧ u = z) (.int x) u ∧ o = x.toInt64) ∨ (w = 1 ∧ u = z ∧ ¬ (inR i (nI (cNr z)) ∧ inR wh 4)))) 3 18 (lF z qo sz) := by
  refine lh_ofWH (cc := cL_request) (maxL := 5) (ret := (some .int)) (by decide) rfl ?_
  intro p e s m args below meth c s₁ B hml hv
  obtain ⟨rfl, hsz, hW0, ⟨f0, hO⟩, hqo, hK, hZ0, hN⟩ := hv
  have hx := B.exec
  have hb := B.bytes
  have hr := B.returns
  have hts := atoms_spec (ws := wsL_request) B.pre
  have hown : s.vm.findClass RL = some m.cls := findClass_of_methodNamed B.named
  have htb : c.exceptionTable.toList = tableOf [(0, 10, 13, 13)] := vx_table (x := yL_request) B (hts _ List.mem_cons_self)
  subst hsz
  have hW := hW0.self (sz := s.heap.size)
  have hA : ∀ q, s.heap.size ≤ q → cF z s.heap.size q := fun q h => Or.inr h
  have hS : va_S (cF z s.heap.size) s.heap s.heap [] := va_S.rf
  have hZ : zS (cF z s.heap.size) s := hZ0.narrow (fun q h => Or.inl h)
  have hqs : qo < s.heap.size := hO.lt
  have hl := lv_entry ([.ref (cA z 6 0), .int i, .int wh, .ref qo]) (n := 5) (Nat.le_of_ble_eq_true rfl)
  rw [lg_entry_eq]
  generalize (lg_sl ([.ref (cA z 6 0), .int i, .int wh, .ref qo]) ++ List.replicate (5 - (lg_sl ([.ref (cA z 6 0), .int i, .int wh, .ref qo])).length) Slot.unset).toArray = ls at hl ⊢
  have hl : lv_has ls 5 [(0, .ref (cA z 6 0)), (1, .int i), (2, .int wh), (3, .ref qo)] := hl
  refine lv_aload_n hx hb dL_request_0 rfl (lv_at hl 3 rfl) ?_
  refine lv_iconst (v := 0) hx hb dL_request_1 (by decide) ?_
  refine lv_aload_n hx hb dL_request_2 rfl (lv_at hl 0 rfl) ?_
  refine lv_iload_n hx hb dL_request_3 rfl (lv_at hl 1 rfl) ?_
  refine lv_iload_n hx hb dL_request_4 rfl (lv_at hl 2 rfl) ?_
  refine cx1 (vx_runV (As := [.int i, .int wh]) (rest := [.int 0, .ref qo]) ⟨hx, hb, hml, hown, hts⟩ (m_request l hl0 D y z _ i wh h28 h200 h6 hI) (cwV 2 hts gL_request_X6_request rfl rfl rfl (by decide +kernel) ⟨Nat.le_of_ble_eq_true rfl, Nat.le_of_ble_eq_true rfl⟩) (cPreVX (k := 6) (q := (RX6, TX6, 7)) hW hK hZ hS hA (by first | assumption | omega | exact Nat.zero_lt_one | decide) rfl rfl [.int i, .int wh]) rfl rfl hl.1 rfl (lv_room (Nat.le_of_ble_eq_true rfl)) dL_request_5 ⟨Nat.le_of_ble_eq_true rfl, Nat.le_of_ble_eq_true rfl⟩) hW hS hA (fun E9 ce9 q9 H locs hpx hW hS h1 h2 h3 => ?_) (fun v9 u9 H locs hu9 hW hS => ?_)
  · have hO := hO.kept (hS.2.1 qo hqs hqo)
    obtain ⟨rfl, hpx⟩ := hpx
    refine vx_catch (own := RL) (name := cI_) hown [] ⟨0, 10, 13, 13⟩ [] (by rw [htb]; rfl) (fun z9 hz9 => by cases hz9) (by decide) (by decide) (hts (.classLink RL 13 "java/lang/IndexOutOfBoundsException") (by decide +kernel)) (va_Nw.use rfl (hZ.1 (.castable cI_ cI_) (by decide +kernel))) h1 h2 h3 ?_
    refine lv_astore (lv' := [(4, _), (0, _), (1, _), (2, _), (3, _)]) hx hb dL_request_13 hl (by decide) rfl (fun ls hl => ?_)
    refine lv_iconst (v := 1) hx hb dL_request_15 (by decide) ?_
    have hS := lS (qo := qo) hS
    refine W.widen (k := 3) (n := 18) (Nat.le_of_ble_eq_true rfl) (Nat.le_of_ble_eq_true rfl) ?_
    refine W.iret hx hb hr ?_ hS.2.2 dL_request_16
    refine lq ?_ hW hO hS
    exact Or.inr ⟨rfl, rfl, hpx⟩
  · have hO := hO.kept (hS.2.1 qo hqs hqo)
    have hv9 : ∃ x9, v9 = .int x9 := by rcases hu9 with ⟨r, st, w, h1, h2, h3, h4, h5, hv, h6⟩ <;> exact ⟨_, hv⟩
    obtain ⟨x9, rfl⟩ := hv9
    refine lv_i2l hx hb dL_request_8 rfl ?_
    refine out_st hx hb hK.1 hW hO hqo hS dL_request_9 (fun H locs hW hO hS => ?_)
    refine lv_goto (tgt := 17) hx hb dL_request_10 (by decide) ?_
    refine lv_iconst (v := 0) hx hb dL_request_17 (by decide) ?_
    refine W.widen (k := 3) (n := 18) (Nat.le_of_ble_eq_true rfl) (Nat.le_of_ble_eq_true rfl) ?_
    refine W.iret hx hb hr ?_ hS.2.2 dL_request_18
    refine lq ?_ hW hO hS
    exact Or.inl ⟨rfl, x9, hu9, rfl⟩
set_option maxHeartbeats 4000000 in
set_option maxRecDepth 100000 in
theorem l_result (l : Launch) (hl0 : l.stackTraces = false) (D : va_G) (y : Nat → ClassId) (z : CS) (qo sz : Nat) (i : Int32) (h28 : cI z 28 0 = nI (cNr z)) (h200 : cNr z ≤ 200) (h6 : ∀ r, r < cNr z → cR z 6 r = some r) (hI : cInv z) : Met l yL_result wsL_result ({ frames := 9, cells := 2, slots := 12, locals := 160 }) (va_Pc [.ref (cA z 6 0), .int i, .ref qo] (lPre D y z qo sz)) (lQ D y z qo sz (fun w u o => (w = 0 ∧ ∃ x : Int64, (fun (v : Value) (u : CS) => ∃ r st, r < cNr z ∧ i = nI r ∧ cR z 3 r = some st ∧ v = .long (if cI z 24 r = 1 then cJ z 1 st else 0) ∧ u = z) (.long x) u ∧ o = x) ∨ (w = 1 ∧ u = z ∧ ¬ inR i (nI (cNr z))))) 2 12 (lF z qo sz) := by
  refine lh_ofWH (cc := cL_result) (maxL := 4) (ret := (some .int)) (by decide) rfl ?_
  intro p e s m args below meth c s₁ B hml hv
  obtain ⟨rfl, hsz, hW0, ⟨f0, hO⟩, hqo, hK, hZ0, hN⟩ := hv
  have hx := B.exec
  have hb := B.bytes
  have hr := B.returns
  have hts := atoms_spec (ws := wsL_result) B.pre
  have hown : s.vm.findClass RL = some m.cls := findClass_of_methodNamed B.named
  have htb : c.exceptionTable.toList = tableOf [(0, 8, 11, 13)] := vx_table (x := yL_result) B (hts _ List.mem_cons_self)
  subst hsz
  have hW := hW0.self (sz := s.heap.size)
  have hA : ∀ q, s.heap.size ≤ q → cF z s.heap.size q := fun q h => Or.inr h
  have hS : va_S (cF z s.heap.size) s.heap s.heap [] := va_S.rf
  have hZ : zS (cF z s.heap.size) s := hZ0.narrow (fun q h => Or.inl h)
  have hqs : qo < s.heap.size := hO.lt
  have hl := lv_entry ([.ref (cA z 6 0), .int i, .ref qo]) (n := 4) (Nat.le_of_ble_eq_true rfl)
  rw [lg_entry_eq]
  generalize (lg_sl ([.ref (cA z 6 0), .int i, .ref qo]) ++ List.replicate (4 - (lg_sl ([.ref (cA z 6 0), .int i, .ref qo])).length) Slot.unset).toArray = ls at hl ⊢
  have hl : lv_has ls 4 [(0, .ref (cA z 6 0)), (1, .int i), (2, .ref qo)] := hl
  refine lv_aload_n hx hb dL_result_0 rfl (lv_at hl 2 rfl) ?_
  refine lv_iconst (v := 0) hx hb dL_result_1 (by decide) ?_
  refine lv_aload_n hx hb dL_result_2 rfl (lv_at hl 0 rfl) ?_
  refine lv_iload_n hx hb dL_result_3 rfl (lv_at hl 1 rfl) ?_
  refine cx1 (vx_runV (As := [.int i]) (rest := [.int 0, .ref qo]) ⟨hx, hb, hml, hown, hts⟩ (m_result l hl0 D y z _ i h28 h200 h6 hI) (cwV 1 hts gL_result_X6_result rfl rfl rfl (by decide +kernel) ⟨Nat.le_of_ble_eq_true rfl, Nat.le_of_ble_eq_true rfl⟩) (cPreVX (k := 6) (q := (RX6, TX6, 7)) hW hK hZ hS hA (by first | assumption | omega | exact Nat.zero_lt_one | decide) rfl rfl [.int i]) rfl rfl hl.1 rfl (lv_room (Nat.le_of_ble_eq_true rfl)) dL_result_4 ⟨Nat.le_of_ble_eq_true rfl, Nat.le_of_ble_eq_true rfl⟩) hW hS hA (fun E9 ce9 q9 H locs hpx hW hS h1 h2 h3 => ?_) (fun v9 u9 H locs hu9 hW hS => ?_)
  · have hO := hO.kept (hS.2.1 qo hqs hqo)
    obtain ⟨rfl, hpx⟩ := hpx
    refine vx_catch (own := RL) (name := cI_) hown [] ⟨0, 8, 11, 13⟩ [] (by rw [htb]; rfl) (fun z9 hz9 => by cases hz9) (by decide) (by decide) (hts (.classLink RL 13 "java/lang/IndexOutOfBoundsException") (by decide +kernel)) (va_Nw.use rfl (hZ.1 (.castable cI_ cI_) (by decide +kernel))) h1 h2 h3 ?_
    refine lv_astore_n (lv' := [(3, _), (0, _), (1, _), (2, _)]) hx hb dL_result_11 rfl hl (by decide) rfl (fun ls hl => ?_)
    refine lv_iconst (v := 1) hx hb dL_result_12 (by decide) ?_
    have hS := lS (qo := qo) hS
    refine W.widen (k := 2) (n := 12) (Nat.le_of_ble_eq_true rfl) (Nat.le_of_ble_eq_true rfl) ?_
    refine W.iret hx hb hr ?_ hS.2.2 dL_result_13
    refine lq ?_ hW hO hS
    exact Or.inr ⟨rfl, rfl, hpx⟩
  · have hO := hO.kept (hS.2.1 qo hqs hqo)
    have hv9 : ∃ x9, v9 = .long x9 := by rcases hu9 with ⟨r, st, h1, h2, h3, hv, h4⟩ <;> exact ⟨_, hv⟩
    obtain ⟨x9, rfl⟩ := hv9
    refine out_st hx hb hK.1 hW hO hqo hS dL_result_7 (fun H locs hW hO hS => ?_)
    refine lv_goto (tgt := 14) hx hb dL_result_8 (by decide) ?_
    refine lv_iconst (v := 0) hx hb dL_result_14 (by decide) ?_
    refine W.widen (k := 2) (n := 12) (Nat.le_of_ble_eq_true rfl) (Nat.le_of_ble_eq_true rfl) ?_
    refine W.iret hx hb hr ?_ hS.2.2 dL_result_15
    refine lq ?_ hW hO hS
    exact Or.inl ⟨rfl, x9, hu9, rfl⟩
