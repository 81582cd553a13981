theorem fCatch_cA (z : CS) (i j : Nat) : cA (fCatch z i j) = cA z := by unfold fCatch; split <;> rfl
/-- j keys, from k on, copied from the keeper f to the keeper t; and for how many it was -/
def fCopy : Nat → CS → Nat → Nat → Nat → CS
  | 0, z, _, _, _ => z
  | j + 1, z, t, f, k => fCopy j (fCatch z (4 * t + k) (4 * f + k)) t f (k + 1)
def fCnt : Nat → CS → Nat → Nat → Nat → Int32
  | 0, _, _, _, _ => 0
  | j + 1, z, t, f, k => (if cI z 1 (4 * t + k) < cI z 1 (4 * f + k) then 1 else 0) + fCnt j (fCatch z (4 * t + k) (4 * f + k)) t f (k + 1)
theorem i32_a0 (c : Int32) : c + 0 = c := by simp
theorem i32_as (a b c : Int32) : a + b + c = a + (b + c) := Int32.add_assoc a b c
set_option maxHeartbeats 4000000 in
set_option maxRecDepth 100000 in
theorem m_copy (l : Launch) (hl0 : l.stackTraces = false) (D : va_G) (y : Nat → ClassId) (z : CS) (sz : Nat) (i j : Int32) : vx_Met l yX6_copy wsX6_copy ({ frames := 7, cells := 2, slots := 12, locals := 110 }) (va_Pc [.ref (cA z 6 0), .int i, .int j] (cPreX D y z sz)) (cQ1 D y z sz (fun v u => ∃ t1 f1, t1 < 9 ∧ f1 < 9 ∧ i = nI t1 ∧ j = nI f1 ∧ v = .int (fCnt 4 z t1 f1 0) ∧ u = fCopy 4 z t1 f1 0)) (cX D y z sz (fun E => E = cI_ ∧ ¬ (inR i 9 ∧ inR j 9))) 2 12 (cF z sz) := by
  refine vx_ofW (cc := cX6_copy) (maxL := 5) (ret := (some .int)) (by decide) rfl ?_
  intro p e s m args below meth c s₁ B hml hnt hv
  obtain ⟨rfl, hsz, hW0, hK, hZ⟩ := hv
  have hx := B.exec
  have hb := B.bytes
  have hr := B.returns
  have hts := atoms_spec (ws := wsX6_copy) B.pre
  have hown : s.vm.findClass RX6 = some m.cls := findClass_of_methodNamed B.named
  have hlocks := B.notSynchronized
  subst hsz
  have hW := hW0.self (sz := s.heap.size)
  have hA : ∀ q, s.heap.size ≤ q → cF z s.heap.size q := fun q h => Or.inr h
  have hS : va_S (cF z s.heap.size) s.heap s.heap [] := va_S.rf
  have hl := lv_entry ([.ref (cA z 6 0), .int i, .int j]) (n := 5) (Nat.le_of_ble_eq_true rfl)
  rw [lg_entry_eq]
  generalize (lg_sl ([.ref (cA z 6 0), .int i, .int j]) ++ List.replicate (5 - (lg_sl ([.ref (cA z 6 0), .int i, .int j])).length) Slot.unset).toArray = ls at hl ⊢
  have hl : lv_has ls 5 [(0, .ref (cA z 6 0)), (1, .int i), (2, .int j)] := hl
  have hX6 : ∀ w ∈ wsX60, w ∈ wsX6_copy := by decide +kernel
  have hX2 : ∀ w ∈ wsX20, w ∈ wsX6_copy := by decide +kernel
  refine lv_iload_n hx hb dX6_copy_0 rfl (lv_at hl 1 rfl) ?_
  refine lv_bipush (v := 9) hx hb dX6_copy_1 (by decide) ?_
  refine cx0 (vx_runS (As := [.int (i), .int (9)]) (rest := []) ⟨hx, hb, hml, hown, hts⟩ (m_needIndex l hl0 D y z _ (i) (9)) (va_cwS 2 hts gX6_copy_X6_needIndex rfl rfl rfl (by decide +kernel) ⟨Nat.le_of_ble_eq_true rfl, Nat.le_of_ble_eq_true rfl⟩) (cPreSX hW hK hZ hS hA [.int (i), .int (9)]) rfl rfl hl.1 rfl (lv_room (Nat.le_of_ble_eq_true rfl)) dX6_copy_3 ⟨Nat.le_of_ble_eq_true rfl, Nat.le_of_ble_eq_true rfl⟩) hW hS hA (fun E ce q9 H locs hpx hW hS h1 h2 h3 => cxo hnt hlocks (⟨hpx.1, fun q => hpx.2 q.1⟩) hW hS h1 h2 h3 (Nat.le_of_ble_eq_true rfl) (Nat.le_of_ble_eq_true rfl)) (fun u3 H locs hu3 hW hS => ?_)
  obtain ⟨f3, hR3⟩ := hu3
  replace f3 := f3.symm
  subst f3
  obtain ⟨t, ht, rfl⟩ := inR_nat (n := 9) hR3 (by decide)
  refine lv_iload_n hx hb dX6_copy_6 rfl (lv_at hl 2 rfl) ?_
  refine lv_bipush (v := 9) hx hb dX6_copy_7 (by decide) ?_
  refine cx0 (vx_runS (As := [.int (j), .int (9)]) (rest := []) ⟨hx, hb, hml, hown, hts⟩ (m_needIndex l hl0 D y z _ (j) (9)) (va_cwS 2 hts gX6_copy_X6_needIndex rfl rfl rfl (by decide +kernel) ⟨Nat.le_of_ble_eq_true rfl, Nat.le_of_ble_eq_true rfl⟩) (cPreSX hW hK hZ hS hA [.int (j), .int (9)]) rfl rfl hl.1 rfl (lv_room (Nat.le_of_ble_eq_true rfl)) dX6_copy_9 ⟨Nat.le_of_ble_eq_true rfl, Nat.le_of_ble_eq_true rfl⟩) hW hS hA (fun E ce q9 H locs hpx hW hS h1 h2 h3 => cxo hnt hlocks (⟨hpx.1, fun q => hpx.2 q.2⟩) hW hS h1 h2 h3 (Nat.le_of_ble_eq_true rfl) (Nat.le_of_ble_eq_true rfl)) (fun u9 H locs hu9 hW hS => ?_)
  obtain ⟨f9, hR9⟩ := hu9
  replace f9 := f9.symm
  subst f9
  obtain ⟨f, hf, rfl⟩ := inR_nat (n := 9) hR9 (by decide)
  refine lv_iconst (v := 0) hx hb dX6_copy_12 (by decide) ?_
  refine lv_istore_n (lv' := [(3, _), (0, _), (1, _), (2, _)]) hx hb dX6_copy_13 rfl hl (by decide) rfl (fun ls hl => ?_)
  refine lv_iconst (v := 0) hx hb dX6_copy_14 (by decide) ?_
  refine lv_istore (lv' := [(4, _), (3, _), (0, _), (1, _), (2, _)]) hx hb dX6_copy_15 hl (by decide) rfl (fun ls hl => ?_)
  have loop : ∀ (n : Nat) (x : CS) (k : Nat) (c0 : Int32) (H : Heap) (locs : List Loc) (ls : Array Slot), k + n = 4 → fCopy n x t f k = fCopy 4 z t f 0 → c0 + fCnt n x t f k = fCnt 4 z t f 0 → cw D y (cF z s.heap.size) x H → va_S (cF z s.heap.size) s.heap H locs → lv_has ls 5 [(4, .int (nI k)), (3, .int c0), (0, .ref (cA x 6 0)), (1, .int (nI t)), (2, .int (nI f))] → W p l e (headSpec wsX6_copy { frames := 7, cells := 2, slots := 12, locals := 110 }).room s m #[.ref (cA z 6 0), .int (nI t), .int (nI f)] below meth c H locs 2 12 (vx_MQ below (cQ1 D y z s.heap.size (fun v u => ∃ t1 f1, t1 < 9 ∧ f1 < 9 ∧ nI t = nI t1 ∧ nI f = nI f1 ∧ v = .int (fCnt 4 z t1 f1 0) ∧ u = fCopy 4 z t1 f1 0)) (cX D y z s.heap.size (fun E => E = cI_ ∧ ¬ (inR (nI t) 9 ∧ inR (nI f) 9))) #[.ref (cA z 6 0), .int (nI t), .int (nI f)] s 2 12 (cF z s.heap.size)) (F0 m 17 ls []) := by
    intro n
    induction n with
    | zero =>
      intro x k c0 H locs ls hk hfx hcx hW hS hl
      refine lv_iload hx hb dX6_copy_17 (lv_at hl 0 rfl) ?_
      refine lv_iconst (v := 4) hx hb dX6_copy_19 (by decide) ?_
      refine lv_icmp_ge (tgt := 52) hx hb dX6_copy_20 (by decide) (fun _ => ?_) (fun c_20 => absurd (show (4 : Int32) ≤ nI k from nI_le (a := 4) (by omega) (by omega)) c_20)
      refine lv_iload_n hx hb dX6_copy_52 rfl (lv_at hl 1 rfl) ?_
      refine vx_ret ?_
      refine W.widen (k := 2) (n := 12) (Nat.le_of_ble_eq_true rfl) (Nat.le_of_ble_eq_true rfl) ?_
      refine W.iret hx hb hr ?_ hS.2.2 dX6_copy_53
      refine cq1 ?_ hW hS
      exact ⟨t, f, ht, hf, rfl, rfl, by rw [← hcx, fCnt, i32_a0], hfx⟩
    | succ n ih =>
      intro x k c0 H locs ls hk hfx hcx hW hS hl
      refine lv_iload hx hb dX6_copy_17 (lv_at hl 0 rfl) ?_
      refine lv_iconst (v := 4) hx hb dX6_copy_19 (by decide) ?_
      refine lv_icmp_ge (tgt := 52) hx hb dX6_copy_20 (by decide) (fun c_20 => absurd c_20 (show ¬ (4 : Int32) ≤ nI k from nI_ge (b := 4) (by omega) (by decide))) (fun _ => ?_)
      have hp1 : 4 * t + k < 36 := by omega
      have hp2 : 4 * f + k < 36 := by omega
      refine lv_aload_n hx hb dX6_copy_23 rfl (lv_at hl 2 rfl) ?_
      refine lv_iload_n hx hb dX6_copy_24 rfl (lv_at hl 3 rfl) ?_
      refine lv_iload hx hb dX6_copy_25 (lv_at hl 0 rfl) ?_
      refine cc1 (va_runV (As := [.int (nI t), .int (nI k)]) (rest := []) ⟨hx, hb, hml, hown, hts⟩ (m_registerOf l D y x _ t k ht (by omega)) (cwV 2 hts gX6_copy_X6_registerOf rfl rfl rfl (by decide +kernel) ⟨Nat.le_of_ble_eq_true rfl, Nat.le_of_ble_eq_true rfl⟩) (cPreV (k := 6) (q := (RX6, TX6, 7)) hW hK (show 0 < 1 from Nat.zero_lt_one) rfl rfl [.int (nI t), .int (nI k)]) rfl rfl hl.1 rfl (lv_room (Nat.le_of_ble_eq_true rfl)) dX6_copy_27 ⟨Nat.le_of_ble_eq_true rfl, Nat.le_of_ble_eq_true rfl⟩) hW hS hA (fun v27 u27 H locs hu27 hW hS => ?_)
      obtain ⟨rfl, f27⟩ := hu27
      replace f27 := f27.symm
      subst f27
      refine lv_aload_n hx hb dX6_copy_30 rfl (lv_at hl 2 rfl) ?_
      refine lv_iload_n hx hb dX6_copy_31 rfl (lv_at hl 4 rfl) ?_
      refine lv_iload hx hb dX6_copy_32 (lv_at hl 0 rfl) ?_
      refine cc1 (va_runV (As := [.int (nI f), .int (nI k)]) (rest := [.ref (cA x 2 (4 * t + k))]) ⟨hx, hb, hml, hown, hts⟩ (m_registerOf l D y x _ f k hf (by omega)) (cwV 2 hts gX6_copy_X6_registerOf rfl rfl rfl (by decide +kernel) ⟨Nat.le_of_ble_eq_true rfl, Nat.le_of_ble_eq_true rfl⟩) (cPreV (k := 6) (q := (RX6, TX6, 7)) hW hK (show 0 < 1 from Nat.zero_lt_one) rfl rfl [.int (nI f), .int (nI k)]) rfl rfl hl.1 rfl (lv_room (Nat.le_of_ble_eq_true rfl)) dX6_copy_34 ⟨Nat.le_of_ble_eq_true rfl, Nat.le_of_ble_eq_true rfl⟩) hW hS hA (fun v34 u34 H locs hu34 hW hS => ?_)
      obtain ⟨rfl, f34⟩ := hu34
      replace f34 := f34.symm
      subst f34
      refine cc1 (va_runVN (As := [.ref (cA x 2 (4 * f + k))]) (rest := []) ⟨hx, hb, hml, hown, hts⟩ (m_Register_catchUp l D y x _ (4 * t + k) (4 * f + k) hp1 hp2) ⟨(va_cnB 1 hts gX6_copy_X2_catchUp_n144 rfl rfl rfl (hK.2 _ (List.mem_of_getElem? (i := 56) rfl)) (hts (.initialized RX2) (by decide +kernel)) (by decide +kernel) ⟨Nat.le_of_ble_eq_true rfl, Nat.le_of_ble_eq_true rfl⟩), hts (.instanceMethod yX2_catchUp) (by decide +kernel), hts (.selects RX2 yX2_catchUp yX2_catchUp) (by decide +kernel)⟩ (cPreV (k := 2) (q := (RX2, TX2, 3)) hW hK hp1 rfl rfl [.ref (cA x 2 (4 * f + k))]) rfl rfl hl.1 rfl (lv_room (Nat.le_of_ble_eq_true rfl)) dX6_copy_37 ⟨Nat.le_of_ble_eq_true rfl, Nat.le_of_ble_eq_true rfl⟩) hW hS hA (fun v37 u37 H locs hu37 hW hS => ?_)
      obtain ⟨rfl, hu37⟩ := hu37
      have hA37 : cA u37 = cA x := by rw [hu37]; exact fCatch_cA _ _ _
      rw [← hA37] at hl
      refine lv_if_eq (tgt := 46) hx hb dX6_copy_40 (by decide) (fun c_40 => ?_) (fun c_40 => ?_)
      · have hlt : ¬ cI x 1 (4 * t + k) < cI x 1 (4 * f + k) := fun h9 => by rw [if_pos h9] at c_40; exact absurd c_40 (by decide)
        refine lv_iinc (v := nI (k + 1)) (lv' := [(4, _), (3, _), (0, _), (1, _), (2, _)]) hx hb dX6_copy_46 hl (k := 0) rfl (nI_1 k) (by decide) rfl (fun ls hl => ?_)
        refine lv_goto (tgt := 17) hx hb dX6_copy_49 (by decide) ?_
        exact ih u37 (k + 1) c0 _ _ ls (by omega) (by rw [hu37]; exact hfx) (by rw [hu37, ← hcx, fCnt, if_neg hlt]; simp) hW hS (lv_sub hl [0, 1, 2, 3, 4] rfl)
      · have hlt : cI x 1 (4 * t + k) < cI x 1 (4 * f + k) := by by_cases h9 : cI x 1 (4 * t + k) < cI x 1 (4 * f + k); exact h9; (rw [if_neg h9] at c_40; exact absurd rfl c_40)
        refine lv_iinc (lv' := [(3, _), (4, _), (0, _), (1, _), (2, _)]) hx hb dX6_copy_43 hl (k := 1) rfl rfl (by decide) rfl (fun ls hl => ?_)
        refine lv_iinc (v := nI (k + 1)) (lv' := [(4, _), (3, _), (0, _), (1, _), (2, _)]) hx hb dX6_copy_46 hl (k := 1) rfl (nI_1 k) (by decide) rfl (fun ls hl => ?_)
        refine lv_goto (tgt := 17) hx hb dX6_copy_49 (by decide) ?_
        exact ih u37 (k + 1) _ _ _ ls (by omega) (by rw [hu37]; exact hfx) (by rw [hu37, ← hcx, fCnt, if_pos hlt]; exact i32_as _ _ _) hW hS (lv_sub hl [0, 1, 2, 3, 4] rfl)
  exact loop 4 z 0 0 _ _ ls (by omega) rfl (by simp) hW hS (lv_sub hl [0, 1, 2, 3, 4] rfl)
