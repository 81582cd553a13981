theorem st_ao : ∀ C ∈ aoL, Cond.arrayOver (.object C) ∈ lw_tbl := by decide +kernel
set_option maxHeartbeats 4000000 in
set_option maxRecDepth 100000 in
/-- from the entry, for every script of at most 3072 ints, the law comes to its end with true -/
theorem whole_start {p : Program} {e : Env} {s : State} {m : MethodId} {below : List Frame} {meth : Method} {c : Code} (l : Launch) (hl0 : l.stackTraces = false) {b L : Nat} {xs : Nat → Int32} (hL : L ≤ 3072) (C0 : lw_At p s m meth c b L xs) : W p l e room_1 s m #[Value.ref b] below meth c s.heap [] 0 0 (lw_Z below #[Value.ref b] s) (entryFrame m ([Value.ref b] : List Value).toArray 8) := by
  obtain ⟨hx, hb0, hr, hml, hown0, hts0, hX, hbl, hlocks, hgv⟩ := id C0
  have hb : c.code = cL_law := hb0
  have hown : s.vm.findClass RL = some m.cls := hown0
  obtain ⟨D, y, hK⟩ := st_K hts0
  obtain ⟨hZ, hN⟩ := st_Z hts0 hgv
  have hts : ∀ w ∈ wsL_law, w.before #[Value.ref b] s = true := fun w hw => hts0 w (wsL_law_in w hw)
  have hO : aoK s := fun C hC => va_AO.of (hts0 _ (st_ao C hC))
  have C1 : LX p l s m c b L xs D y := ⟨hx, hb, hml, hown, hts, hX, hbl, hL, hK, hZ, hN, hl0⟩
  have hA : ∀ q, s.heap.size ≤ q → lA s q := fun _ h => h
  have hS : va_S (lA s) s.heap s.heap [] := va_S.rf
  have hl := lv_entry ([.ref b]) (n := 8) (Nat.le_of_ble_eq_true rfl)
  rw [lg_entry_eq]
  generalize (lg_sl ([.ref b]) ++ List.replicate (8 - (lg_sl ([.ref b])).length) Slot.unset).toArray = ls at hl ⊢
  have hl : lv_has ls 8 [(0, .ref b)] := hl
  refine gF_new 6 (ci := 6) (C := RX6) (T := TX6) (Nf := 7) (fs := [.null, .null, .null, .null, .null, .null, .int 0]) hx hb hts inlX6 tyX6 tyX6_ok hown (hts (.classLink RL 8 RX6) (by decide +kernel)) (hts (.instantiable RX6 7) (by decide +kernel)) (hts (.initialized RX6) (by decide +kernel)) hK.1 hS hA rfl (fun j hj => by rcases (show j = 0 ∨ j = 1 ∨ j = 2 ∨ j = 3 ∨ j = 4 ∨ j = 5 ∨ j = 6 by omega) with rfl | rfl | rfl | rfl | rfl | rfl | rfl <;> rfl) (Nat.le_of_ble_eq_true rfl) (Nat.le_of_ble_eq_true rfl) dL_law_0 (fun H1 k1 hW1 hS => ?_)
  refine lv_dup hx hb dL_law_3 rfl ?_
  have hm6 := g_Shared_init l D y (fun _ _ => s.heap.size) (fun k => if k = 6 then 1 else 0) (fun _ _ => .inr (6, [.null, .null, .null, .null, .null, .null, .int 0])) H1.size rfl rfl
  refine gc0F (va_runI (As := []) (rest := [.ref s.heap.size]) ⟨hx, hb, hml, hown, hts⟩ hm6 (cwI 0 hts gL_law_X6_init rfl rfl rfl (hts (.initialized RX6) (by decide +kernel)) (hts (.methodLink RL 66 yX6_init) (by decide +kernel)) (hts (.instanceMethod yX6_init) (by decide +kernel)) rfl (by decide +kernel) ⟨Nat.le_of_ble_eq_true rfl, Nat.le_of_ble_eq_true rfl⟩) (gPreS hW1 hK hO (.ref s.heap.size :: [])) rfl rfl hl.1 rfl (lv_room (Nat.le_of_ble_eq_true rfl)) dL_law_4 ⟨Nat.le_of_ble_eq_true rfl, Nat.le_of_ble_eq_true rfl⟩) hW1 hS hA (fun ad5 N5 cell5 H2 locs hu5 hW hin5 hkp5 hS => ?_)
  obtain ⟨h6, rfl, rfl⟩ := hu5
  have hW : cw D y (lA s) (z0 ad5) H2 := hW
  have hlt2 : ∀ k i, i < cN (z0 ad5) k → cA (z0 ad5) k i < H2.size := fun k i hi => (gw.at hW hi).lt
  refine lv_astore_n (lv' := [(1, _), (0, _)]) hx hb dL_law_7 rfl hl (by decide) rfl (fun ls hl => ?_)
  refine gF_new 0 (ci := 7) (C := RX7) (T := TX7) (Nf := 39) (fs := [.int 0, .null, .null, .null, .null, .null, .null, .null, .null, .null, .null, .null, .null, .null, .null, .null, .null, .null, .null, .null, .null, .null, .null, .null, .null, .null, .null, .null, .int 0, .null, .null, .null, .null, .null, .null, .null, .null, .null, .int 0]) hx hb hts inlX7 tyX7 tyX7_ok hown (hts (.classLink RL 67 RX7) (by decide +kernel)) (hts (.instantiable RX7 39) (by decide +kernel)) (hts (.initialized RX7) (by decide +kernel)) hK.1 hS hA rfl (fun j hj => by rcases (show j = 0 ∨ j = 1 ∨ j = 2 ∨ j = 3 ∨ j = 4 ∨ j = 5 ∨ j = 6 ∨ j = 7 ∨ j = 8 ∨ j = 9 ∨ j = 10 ∨ j = 11 ∨ j = 12 ∨ j = 13 ∨ j = 14 ∨ j = 15 ∨ j = 16 ∨ j = 17 ∨ j = 18 ∨ j = 19 ∨ j = 20 ∨ j = 21 ∨ j = 22 ∨ j = 23 ∨ j = 24 ∨ j = 25 ∨ j = 26 ∨ j = 27 ∨ j = 28 ∨ j = 29 ∨ j = 30 ∨ j = 31 ∨ j = 32 ∨ j = 33 ∨ j = 34 ∨ j = 35 ∨ j = 36 ∨ j = 37 ∨ j = 38 by omega) with rfl | rfl | rfl | rfl | rfl | rfl | rfl | rfl | rfl | rfl | rfl | rfl | rfl | rfl | rfl | rfl | rfl | rfl | rfl | rfl | rfl | rfl | rfl | rfl | rfl | rfl | rfl | rfl | rfl | rfl | rfl | rfl | rfl | rfl | rfl | rfl | rfl | rfl | rfl <;> rfl) (Nat.le_of_ble_eq_true rfl) (Nat.le_of_ble_eq_true rfl) dL_law_8 (fun H3 k3 hW3 hS => ?_)
  have hW : cw D y (lA s) (z0 ad5) H3 := gw.kept hW (fun k i hi => k3 _ (hlt2 k i hi))
  have hlt3 : ∀ k i, i < cN (z0 ad5) k → cA (z0 ad5) k i < H3.size := fun k i hi => (gw.at hW hi).lt
  refine lv_dup hx hb dL_law_11 rfl ?_
  have hm7 := g_Model_init l D y (fun _ _ => H2.size) (fun k => if k = 0 then 1 else 0) (fun _ _ => .inr (7, [.int 0, .null, .null, .null, .null, .null, .null, .null, .null, .null, .null, .null, .null, .null, .null, .null, .null, .null, .null, .null, .null, .null, .null, .null, .null, .null, .null, .null, .int 0, .null, .null, .null, .null, .null, .null, .null, .null, .null, .int 0])) H3.size rfl rfl
  refine gc0F (va_runI (As := []) (rest := [.ref H2.size]) ⟨hx, hb, hml, hown, hts⟩ hm7 (cwI 0 hts gL_law_X7_init rfl rfl rfl (hts (.initialized RX7) (by decide +kernel)) (hts (.methodLink RL 69 yX7_init) (by decide +kernel)) (hts (.instanceMethod yX7_init) (by decide +kernel)) rfl (by decide +kernel) ⟨Nat.le_of_ble_eq_true rfl, Nat.le_of_ble_eq_true rfl⟩) (gPreS hW3 hK hO (.ref H2.size :: [])) rfl rfl hl.1 rfl (lv_room (Nat.le_of_ble_eq_true rfl)) dL_law_12 ⟨Nat.le_of_ble_eq_true rfl, Nat.le_of_ble_eq_true rfl⟩) hW3 hS hA (fun ad7 N7 cell7 H4 locs hu7 hM hin7 hkp7 hS => ?_)
  obtain ⟨t, hst, ht0, rfl, rfl, rfl⟩ := hu7
  have hM : mw D y (lA s) t H4 := hM
  have hW : cw D y (lA s) (z0 ad5) H4 := gw.kept hW (fun k i hi => hkp7 _ (hlt3 k i hi) (by
    rintro (⟨k9, i9, hi9, e9⟩ | h9)
    · exact absurd (hlt2 k i hi) (Nat.not_lt.mpr (Nat.le_of_eq e9.symm))
    · exact absurd (hlt3 k i hi) (Nat.not_lt.mpr h9)))
  have d3 : ∀ k i k' i', i < cN (z0 ad5) k → i' < mN t k' → cA (z0 ad5) k i ≠ mA t k' i' := fun k i k' i' hi hi' e => by
    rcases hin7 k' i' hi' with ⟨k9, i9, hi9, e9⟩ | h9
    · exact absurd (hlt2 k i hi) (Nat.not_lt.mpr (Nat.le_of_eq (e.trans e9).symm))
    · exact absurd (hlt3 k i hi) (Nat.not_lt.mpr (by rw [e]; exact h9))
  have hlt4 : ∀ k i, i < cN (z0 ad5) k → cA (z0 ad5) k i < H4.size := fun k i hi => (gw.at hW hi).lt
  have hmt4 : ∀ k i, i < mN t k → mA t k i < H4.size := fun k i hi => (gw.at hM hi).lt
  have hq4 : lA s H4.size := hS.1
  refine lv_astore_n (lv' := [(2, _), (1, _), (0, _)]) hx hb dL_law_15 rfl hl (by decide) rfl (fun ls hl => ?_)
  refine lv_iconst (v := 1) hx hb dL_law_16 (by decide) ?_
  refine gF_newJ hx hb (hts (.arrayClass .long) (by decide +kernel)) hK.1 hS (Nat.le_of_ble_eq_true rfl) (Nat.le_of_ble_eq_true rfl) dL_law_17 (fun H5 k5 hO5 hS => ?_)
  have hW : cw D y (lA s) (z0 ad5) H5 := gw.kept hW (fun k i hi => k5 _ (hlt4 k i hi))
  have hM : mw D y (lA s) t H5 := gw.kept hM (fun k i hi => k5 _ (hmt4 k i hi))
  refine lv_astore_n (lv' := [(3, _), (2, _), (1, _), (0, _)]) hx hb dL_law_19 rfl hl (by decide) rfl (fun ls hl => ?_)
  refine lv_iconst (v := 0) hx hb dL_law_20 (by decide) ?_
  refine lv_istore (lv' := [(4, _), (3, _), (2, _), (1, _), (0, _)]) hx hb dL_law_21 hl (by decide) rfl (fun ls hl => ?_)
  exact lk_loop C1 hr hlocks 512 0 395 7318 (by omega) (by omega) rfl rfl (z0 ad5) t 0 _ H5 locs ls (RR_start hst) ⟨hW, hM, hO5, hq4, fun k i hi e => absurd (hlt4 k i hi) (Nat.not_lt.mpr (Nat.le_of_eq e.symm)), fun k i hi e => absurd (hmt4 k i hi) (Nat.not_lt.mpr (Nat.le_of_eq e.symm)), d3⟩ hS (by rw [show cA (z0 ad5) 6 0 = s.heap.size from h6, show mA t 0 0 = H2.size from ht0]; exact lv_sub hl [0, 4, 3, 2, 1] rfl)
