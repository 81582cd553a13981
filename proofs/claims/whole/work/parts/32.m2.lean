/-- the bits of x counted, k of them, from j on -/
def mBits : Nat → Int32 → Nat → Int32 → Int32
  | 0, _, _, acc => acc
  | k + 1, x, j, acc => mBits k x (j + 1) (acc + (x >>> (nI j &&& 31) &&& 1))
set_option maxHeartbeats 4000000 in
set_option maxRecDepth 100000 in
theorem m7_bits (l : Launch) (D : va_G) (y : Nat → ClassId) (z : MS) (sz : Nat) (x : Int32) : Met l yX7_bits wsX7_bits ({ frames := 0, cells := 0, slots := 0, locals := 0 }) (va_Pc [.int x] (mPre D y z sz)) (mQ1 D y z sz (fun v u => v = .int (mBits 9 x 0 0) ∧ u = z)) 0 0 (mF z sz) := by
  refine Met.ofW (cc := cX7_bits) (maxL := 3) (ret := (some .int)) (by decide) rfl ?_
  intro p e s m args below meth c s₁ B hml hv
  obtain ⟨rfl, hsz, hW0, hK⟩ := hv
  have hx := B.exec
  have hb := B.bytes
  have hr := B.returns
  have hts := atoms_spec (ws := wsX7_bits) B.pre
  have hown : s.vm.findClass RX7 = some m.cls := findClass_of_methodNamed B.named
  have hlocks := B.notSynchronized
  subst hsz
  have hW := hW0.self (sz := s.heap.size)
  have hA : ∀ q, s.heap.size ≤ q → mF z s.heap.size q := fun q h => Or.inr h
  have hS : va_S (mF z s.heap.size) s.heap s.heap [] := va_S.rf
  have hl := lv_entry ([.int x]) (n := 3) (Nat.le_of_ble_eq_true rfl)
  rw [lg_entry_eq]
  generalize (lg_sl ([.int x]) ++ List.replicate (3 - (lg_sl ([.int x])).length) Slot.unset).toArray = ls at hl ⊢
  have hl : lv_has ls 3 [(0, .int x)] := hl
  refine lv_iconst (v := 0) hx hb dX7_bits_0 (by decide) ?_
  refine lv_istore_n (lv' := [(1, _), (0, _)]) hx hb dX7_bits_1 rfl hl (by decide) rfl (fun ls hl => ?_)
  refine lv_iconst (v := 0) hx hb dX7_bits_2 (by decide) ?_
  refine lv_istore_n (lv' := [(2, _), (1, _), (0, _)]) hx hb dX7_bits_3 rfl hl (by decide) rfl (fun ls hl => ?_)
  have loop : ∀ (k j : Nat) (a0 : Int32) (ls : Array Slot), j + k = 9 → mBits k x j a0 = mBits 9 x 0 0 → lv_has ls 3 [(2, .int (nI j)), (1, .int a0), (0, .int x)] → W p l e (headSpec wsX7_bits { frames := 0, cells := 0, slots := 0, locals := 0 }).room s m #[.int x] below meth c s.heap [] 0 0 (MQ below (mQ1 D y z s.heap.size (fun v u => v = .int (mBits 9 x 0 0) ∧ u = z)) #[.int x] s 0 0 (mF z s.heap.size)) (F0 m 4 ls []) := by
    intro k
    induction k with
    | zero =>
      intro j a0 ls hj hf hl
      refine lv_iload_n hx hb dX7_bits_4 rfl (lv_at hl 0 rfl) ?_
      refine lv_bipush (v := 9) hx hb dX7_bits_5 (by decide) ?_
      refine lv_icmp_ge (tgt := 24) hx hb dX7_bits_7 (by decide) (fun _ => ?_) (fun c_7 => absurd (show (9 : Int32) ≤ nI j from nI_le (a := 9) (by omega) (by omega)) c_7)
      refine lv_iload_n hx hb dX7_bits_24 rfl (lv_at hl 1 rfl) ?_
      refine W.iret hx hb hr ?_ hS.2.2 dX7_bits_25
      refine mq1 ?_ hW hS
      exact ⟨by rw [← hf]; rfl, rfl⟩
    | succ k ih =>
      intro j a0 ls hj hf hl
      refine lv_iload_n hx hb dX7_bits_4 rfl (lv_at hl 0 rfl) ?_
      refine lv_bipush (v := 9) hx hb dX7_bits_5 (by decide) ?_
      refine lv_icmp_ge (tgt := 24) hx hb dX7_bits_7 (by decide) (fun c_7 => absurd c_7 (show ¬ (9 : Int32) ≤ nI j from nI_ge (b := 9) (by omega) (by decide))) (fun _ => ?_)
      refine lv_iload_n hx hb dX7_bits_10 rfl (lv_at hl 1 rfl) ?_
      refine lv_iload_n hx hb dX7_bits_11 rfl (lv_at hl 2 rfl) ?_
      refine lv_iload_n hx hb dX7_bits_12 rfl (lv_at hl 0 rfl) ?_
      refine lv_ishr hx hb dX7_bits_13 ?_
      refine lv_iconst (v := 1) hx hb dX7_bits_14 (by decide) ?_
      refine lv_iand hx hb dX7_bits_15 ?_
      refine lv_iadd hx hb dX7_bits_16 ?_
      refine lv_istore_n (lv' := [(1, _), (2, _), (0, _)]) hx hb dX7_bits_17 rfl hl (by decide) rfl (fun ls hl => ?_)
      refine lv_iinc (v := nI (j + 1)) (lv' := [(2, _), (1, _), (0, _)]) hx hb dX7_bits_18 hl (k := 1) rfl (nI_1 _) (by decide) rfl (fun ls hl => ?_)
      refine lv_goto (tgt := 4) hx hb dX7_bits_21 (by decide) ?_
      exact ih (j + 1) _ ls (by omega) hf (lv_sub hl [0, 1, 2] rfl)
  exact loop 9 0 0 ls (by omega) rfl (lv_sub hl [0, 1, 2] rfl)
def tDn (z : MS) (j : Nat) : MS := tJ (tI (tI (tI (tI (tI (tI (tI z 0 j (mI z 0 (j + 1))) 1 j (mI z 1 (j + 1))) 2 j (mI z 2 (j + 1))) 3 j (mI z 3 (j + 1))) 4 j (mI z 4 (j + 1))) 5 j (mI z 5 (j + 1))) 6 j (mI z 6 (j + 1))) 7 j (mJ z 7 (j + 1))
theorem tDn_mA (z : MS) (j : Nat) : mA (tDn z j) = mA z := rfl
theorem tDn_36 (z : MS) (j : Nat) : mI (tDn z j) 36 0 = mI z 36 0 := by simp [tDn, tI_mI, tJ_mI, up2]
theorem tDn_5 (z : MS) (j q : Nat) : mI (tDn z j) 5 q = if q = j then mI z 5 (j + 1) else mI z 5 q := by
  simp only [tDn, tI_mI, tJ_mI]
  rw [up2_k (by decide)]
  by_cases h : q = j
  · subst h; rw [up2_s, if_pos rfl]
  · rw [up2_i h, if_neg h, up2_k (by decide), up2_k (by decide), up2_k (by decide), up2_k (by decide), up2_k (by decide)]
def mShift : Nat → MS → Nat → MS
  | 0, z, _ => z
  | k + 1, z, j => mShift k (tDn z j) (j + 1)
def mDrop (z : MS) (i n : Nat) : MS := mShift (n - 1 - i) (tI z 36 0 (nI (n - 1))) i
set_option maxHeartbeats 4000000 in
set_option maxRecDepth 100000 in
theorem m7_drop (l : Launch) (D : va_G) (y : Nat → ClassId) (z : MS) (sz : Nat) (i n : Nat) (hn : mI z 36 0 = nI n) (hi : i < n) (hn0 : n ≤ 300) (h5 : ∀ q, mI z 5 q = 0 ∨ mI z 5 q = 1) : Met l yX7_drop wsX7_drop ({ frames := 0, cells := 0, slots := 0, locals := 0 }) (va_Pc [.ref (mA z 0 0), .int (nI i)] (mPre D y z sz)) (mQ0 D y z sz (fun u => u = mDrop z i n)) 0 0 (mF z sz) := by
  refine Met.ofW (cc := cX7_drop) (maxL := 3) (ret := none) (by decide) rfl ?_
  intro p e s m args below meth c s₁ B hml hv
  obtain ⟨rfl, hsz, hW0, hK⟩ := hv
  have hx := B.exec
  have hb := B.bytes
  have hr := B.returns
  have hts := atoms_spec (ws := wsX7_drop) B.pre
  have hown : s.vm.findClass RX7 = some m.cls := findClass_of_methodNamed B.named
  have hlocks := B.notSynchronized
  subst hsz
  have hW := hW0.self (sz := s.heap.size)
  have hA : ∀ q, s.heap.size ≤ q → mF z s.heap.size q := fun q h => Or.inr h
  have hS : va_S (mF z s.heap.size) s.heap s.heap [] := va_S.rf
  have hl := lv_entry ([.ref (mA z 0 0), .int (nI i)]) (n := 3) (Nat.le_of_ble_eq_true rfl)
  rw [lg_entry_eq]
  generalize (lg_sl ([.ref (mA z 0 0), .int (nI i)]) ++ List.replicate (3 - (lg_sl ([.ref (mA z 0 0), .int (nI i)])).length) Slot.unset).toArray = ls at hl ⊢
  have hl : lv_has ls 3 [(0, .ref (mA z 0 0)), (1, .int (nI i))] := hl
  have hX7 : ∀ w ∈ wsX70, w ∈ wsX7_drop := by decide +kernel
  refine lv_aload_n hx hb dX7_drop_0 rfl (lv_at hl 0 rfl) ?_
  refine lv_dup hx hb dX7_drop_1 rfl ?_
  refine gM 0 hx hb hts hX7 hown hK.1 hW rfl (by decide) rfl (hts (.fieldLink RX7 124 "SharedRegistersModel" "many" "I") (by decide +kernel)) rfl dX7_drop_2 ?_
  rw [show mI z 36 0 = nI n from hn]
  refine lv_iconst (v := 1) hx hb dX7_drop_5 (by decide) ?_
  refine lv_isub hx hb dX7_drop_6 ?_
  rw [show nI n - 1 = nI (n - 1) from pk_sub (a := n) (b := 1) (by omega)]
  refine pM_many hx hb hts hX7 hown hK.1 hW hS rfl (hts (.fieldLink RX7 124 "SharedRegistersModel" "many" "I") (by decide +kernel)) dX7_drop_7 (fun H locs hW hS => ?_)
  refine lv_iload_n hx hb dX7_drop_10 rfl (lv_at hl 1 rfl) ?_
  refine lv_istore_n (lv' := [(2, _), (0, _), (1, _)]) hx hb dX7_drop_11 rfl hl (by decide) rfl (fun ls hl => ?_)
  have loop : ∀ (k : Nat) (x : MS) (j : Nat) (H : Heap) (locs : List Loc) (ls : Array Slot), j + k = n - 1 → mI x 36 0 = nI (n - 1) → (∀ q, mI x 5 q = 0 ∨ mI x 5 q = 1) → mShift k x j = mDrop z i n → mw D y (mF z s.heap.size) x H → va_S (mF z s.heap.size) s.heap H locs → lv_has ls 3 [(2, .int (nI j)), (0, .ref (mA x 0 0)), (1, .int (nI i))] → W p l e (headSpec wsX7_drop { frames := 0, cells := 0, slots := 0, locals := 0 }).room s m #[.ref (mA z 0 0), .int (nI i)] below meth c H locs 0 0 (MQ below (mQ0 D y z s.heap.size (fun u => u = mDrop z i n)) #[.ref (mA z 0 0), .int (nI i)] s 0 0 (mF z s.heap.size)) (F0 m 12 ls []) := by
    intro k
    induction k with
    | zero =>
      intro x j H locs ls hj hx36 h5 hf hW hS hl
      refine lv_iload_n hx hb dX7_drop_12 rfl (lv_at hl 0 rfl) ?_
      refine lv_aload_n hx hb dX7_drop_13 rfl (lv_at hl 1 rfl) ?_
      refine gM 0 hx hb hts hX7 hown hK.1 hW rfl (by decide) rfl (hts (.fieldLink RX7 124 "SharedRegistersModel" "many" "I") (by decide +kernel)) rfl dX7_drop_14 ?_
      rw [show mI x 36 0 = nI (n - 1) from hx36]
      refine lv_icmp_ge (tgt := 138) hx hb dX7_drop_17 (by decide) (fun _ => ?_) (fun c_17 => absurd (nI_le (by omega) (by omega)) c_17)
      refine W.vret hx hb hr ?_ hS.2.2 dX7_drop_138
      refine mq0 ?_ hW hS
      exact hf
    | succ k ih =>
      intro x j H locs ls hj hx36 h5 hf hW hS hl
      have h5j := h5 (j + 1)
      refine lv_iload_n hx hb dX7_drop_12 rfl (lv_at hl 0 rfl) ?_
      refine lv_aload_n hx hb dX7_drop_13 rfl (lv_at hl 1 rfl) ?_
      refine gM 0 hx hb hts hX7 hown hK.1 hW rfl (by decide) rfl (hts (.fieldLink RX7 124 "SharedRegistersModel" "many" "I") (by decide +kernel)) rfl dX7_drop_14 ?_
      rw [show mI x 36 0 = nI (n - 1) from hx36]
      refine lv_icmp_ge (tgt := 138) hx hb dX7_drop_17 (by decide) (fun c_17 => absurd c_17 (nI_ge (by omega) (by omega))) (fun _ => ?_)
      refine lv_aload_n hx hb dX7_drop_20 rfl (lv_at hl 1 rfl) ?_
      refine gM 1 hx hb hts hX7 hown hK.1 hW rfl (by decide) rfl (hts (.fieldLink RX7 7 "SharedRegistersModel" "sort" "[I") (by decide +kernel)) rfl dX7_drop_21 ?_
      refine lv_iload_n hx hb dX7_drop_24 rfl (lv_at hl 0 rfl) ?_
      refine lv_aload_n hx hb dX7_drop_25 rfl (lv_at hl 1 rfl) ?_
      refine gM 1 hx hb hts hX7 hown hK.1 hW rfl (by decide) rfl (hts (.fieldLink RX7 7 "SharedRegistersModel" "sort" "[I") (by decide +kernel)) rfl dX7_drop_26 ?_
      refine lv_iload_n hx hb dX7_drop_29 rfl (lv_at hl 0 rfl) ?_
      refine lv_iconst (v := 1) hx hb dX7_drop_30 (by decide) ?_
      refine lv_iadd hx hb dX7_drop_31 ?_
      rw [show nI j + 1 = nI (j + 1) from nI_1 _]
      refine mil_n 0 hx hb hK.1 hW rfl (by decide) rfl (show _ < 301 by omega) (by decide) dX7_drop_32 ?_
      refine mis_n 0 hx hb hK.1 hW hS rfl (by decide) rfl (show _ < 301 by omega) (by decide) dX7_drop_33 (fun H locs hW hS => ?_)
      refine lv_aload_n hx hb dX7_drop_34 rfl (lv_at hl 1 rfl) ?_
      refine gM 2 hx hb hts hX7 hown hK.1 hW (by simp only [tI_mA, tJ_mA]) (by decide) rfl (hts (.fieldLink RX7 13 "SharedRegistersModel" "who" "[I") (by decide +kernel)) rfl dX7_drop_35 ?_
      refine lv_iload_n hx hb dX7_drop_38 rfl (lv_at hl 0 rfl) ?_
      refine lv_aload_n hx hb dX7_drop_39 rfl (lv_at hl 1 rfl) ?_
      refine gM 2 hx hb hts hX7 hown hK.1 hW (by simp only [tI_mA, tJ_mA]) (by decide) rfl (hts (.fieldLink RX7 13 "SharedRegistersModel" "who" "[I") (by decide +kernel)) rfl dX7_drop_40 ?_
      refine lv_iload_n hx hb dX7_drop_43 rfl (lv_at hl 0 rfl) ?_
      refine lv_iconst (v := 1) hx hb dX7_drop_44 (by decide) ?_
      refine lv_iadd hx hb dX7_drop_45 ?_
      rw [show nI j + 1 = nI (j + 1) from nI_1 _]
      refine mil_n 1 hx hb hK.1 hW (by simp only [tI_mA, tJ_mA]) (by decide) rfl (show _ < 301 by omega) (by decide) dX7_drop_46 ?_
      rw [show mI (tI x 0 j (mI x 0 (j + 1))) 1 (j + 1) = mI x 1 (j + 1) from by simp [tI_mI, tJ_mI, tI_mJ, tJ_mJ, up2]]
      refine mis_n 1 hx hb hK.1 hW hS (by simp only [tI_mA, tJ_mA]) (by decide) rfl (show _ < 301 by omega) (by decide) dX7_drop_47 (fun H locs hW hS => ?_)
      refine lv_aload_n hx hb dX7_drop_48 rfl (lv_at hl 1 rfl) ?_
      refine gM 3 hx hb hts hX7 hown hK.1 hW (by simp only [tI_mA, tJ_mA]) (by decide) rfl (hts (.fieldLink RX7 16 "SharedRegistersModel" "whom" "[I") (by decide +kernel)) rfl dX7_drop_49 ?_
      refine lv_iload_n hx hb dX7_drop_52 rfl (lv_at hl 0 rfl) ?_
      refine lv_aload_n hx hb dX7_drop_53 rfl (lv_at hl 1 rfl) ?_
      refine gM 3 hx hb hts hX7 hown hK.1 hW (by simp only [tI_mA, tJ_mA]) (by decide) rfl (hts (.fieldLink RX7 16 "SharedRegistersModel" "whom" "[I") (by decide +kernel)) rfl dX7_drop_54 ?_
      refine lv_iload_n hx hb dX7_drop_57 rfl (lv_at hl 0 rfl) ?_
      refine lv_iconst (v := 1) hx hb dX7_drop_58 (by decide) ?_
      refine lv_iadd hx hb dX7_drop_59 ?_
      rw [show nI j + 1 = nI (j + 1) from nI_1 _]
      refine mil_n 2 hx hb hK.1 hW (by simp only [tI_mA, tJ_mA]) (by decide) rfl (show _ < 301 by omega) (by decide) dX7_drop_60 ?_
      rw [show mI (tI (tI x 0 j (mI x 0 (j + 1))) 1 j (mI x 1 (j + 1))) 2 (j + 1) = mI x 2 (j + 1) from by simp [tI_mI, tJ_mI, tI_mJ, tJ_mJ, up2]]
      refine mis_n 2 hx hb hK.1 hW hS (by simp only [tI_mA, tJ_mA]) (by decide) rfl (show _ < 301 by omega) (by decide) dX7_drop_61 (fun H locs hW hS => ?_)
      refine lv_aload_n hx hb dX7_drop_62 rfl (lv_at hl 1 rfl) ?_
      refine gM 4 hx hb hts hX7 hown hK.1 hW (by simp only [tI_mA, tJ_mA]) (by decide) rfl (hts (.fieldLink RX7 19 "SharedRegistersModel" "about" "[I") (by decide +kernel)) rfl dX7_drop_63 ?_
      refine lv_iload_n hx hb dX7_drop_66 rfl (lv_at hl 0 rfl) ?_
      refine lv_aload_n hx hb dX7_drop_67 rfl (lv_at hl 1 rfl) ?_
      refine gM 4 hx hb hts hX7 hown hK.1 hW (by simp only [tI_mA, tJ_mA]) (by decide) rfl (hts (.fieldLink RX7 19 "SharedRegistersModel" "about" "[I") (by decide +kernel)) rfl dX7_drop_68 ?_
      refine lv_iload_n hx hb dX7_drop_71 rfl (lv_at hl 0 rfl) ?_
      refine lv_iconst (v := 1) hx hb dX7_drop_72 (by decide) ?_
      refine lv_iadd hx hb dX7_drop_73 ?_
      rw [show nI j + 1 = nI (j + 1) from nI_1 _]
      refine mil_n 3 hx hb hK.1 hW (by simp only [tI_mA, tJ_mA]) (by decide) rfl (show _ < 301 by omega) (by decide) dX7_drop_74 ?_
      rw [show mI (tI (tI (tI x 0 j (mI x 0 (j + 1))) 1 j (mI x 1 (j + 1))) 2 j (mI x 2 (j + 1))) 3 (j + 1) = mI x 3 (j + 1) from by simp [tI_mI, tJ_mI, tI_mJ, tJ_mJ, up2]]
      refine mis_n 3 hx hb hK.1 hW hS (by simp only [tI_mA, tJ_mA]) (by decide) rfl (show _ < 301 by omega) (by decide) dX7_drop_75 (fun H locs hW hS => ?_)
      refine lv_aload_n hx hb dX7_drop_76 rfl (lv_at hl 1 rfl) ?_
      refine gM 5 hx hb hts hX7 hown hK.1 hW (by simp only [tI_mA, tJ_mA]) (by decide) rfl (hts (.fieldLink RX7 22 "SharedRegistersModel" "ballot" "[I") (by decide +kernel)) rfl dX7_drop_77 ?_
      refine lv_iload_n hx hb dX7_drop_80 rfl (lv_at hl 0 rfl) ?_
      refine lv_aload_n hx hb dX7_drop_81 rfl (lv_at hl 1 rfl) ?_
      refine gM 5 hx hb hts hX7 hown hK.1 hW (by simp only [tI_mA, tJ_mA]) (by decide) rfl (hts (.fieldLink RX7 22 "SharedRegistersModel" "ballot" "[I") (by decide +kernel)) rfl dX7_drop_82 ?_
      refine lv_iload_n hx hb dX7_drop_85 rfl (lv_at hl 0 rfl) ?_
      refine lv_iconst (v := 1) hx hb dX7_drop_86 (by decide) ?_
      refine lv_iadd hx hb dX7_drop_87 ?_
      rw [show nI j + 1 = nI (j + 1) from nI_1 _]
      refine mil_n 4 hx hb hK.1 hW (by simp only [tI_mA, tJ_mA]) (by decide) rfl (show _ < 301 by omega) (by decide) dX7_drop_88 ?_
      rw [show mI (tI (tI (tI (tI x 0 j (mI x 0 (j + 1))) 1 j (mI x 1 (j + 1))) 2 j (mI x 2 (j + 1))) 3 j (mI x 3 (j + 1))) 4 (j + 1) = mI x 4 (j + 1) from by simp [tI_mI, tJ_mI, tI_mJ, tJ_mJ, up2]]
      refine mis_n 4 hx hb hK.1 hW hS (by simp only [tI_mA, tJ_mA]) (by decide) rfl (show _ < 301 by omega) (by decide) dX7_drop_89 (fun H locs hW hS => ?_)
      refine lv_aload_n hx hb dX7_drop_90 rfl (lv_at hl 1 rfl) ?_
      refine gM 6 hx hb hts hX7 hown hK.1 hW (by simp only [tI_mA, tJ_mA]) (by decide) rfl (hts (.fieldLink RX7 25 "SharedRegistersModel" "tells" "[Z") (by decide +kernel)) rfl dX7_drop_91 ?_
      refine lv_iload_n hx hb dX7_drop_94 rfl (lv_at hl 0 rfl) ?_
      refine lv_aload_n hx hb dX7_drop_95 rfl (lv_at hl 1 rfl) ?_
      refine gM 6 hx hb hts hX7 hown hK.1 hW (by simp only [tI_mA, tJ_mA]) (by decide) rfl (hts (.fieldLink RX7 25 "SharedRegistersModel" "tells" "[Z") (by decide +kernel)) rfl dX7_drop_96 ?_
      refine lv_iload_n hx hb dX7_drop_99 rfl (lv_at hl 0 rfl) ?_
      refine lv_iconst (v := 1) hx hb dX7_drop_100 (by decide) ?_
      refine lv_iadd hx hb dX7_drop_101 ?_
      rw [show nI j + 1 = nI (j + 1) from nI_1 _]
      refine mzl_n 5 hx hb hK.1 hW (by simp only [tI_mA, tJ_mA]) (by decide) rfl (show _ < 301 by omega) (by decide) dX7_drop_102 ?_
      rw [show mI (tI (tI (tI (tI (tI x 0 j (mI x 0 (j + 1))) 1 j (mI x 1 (j + 1))) 2 j (mI x 2 (j + 1))) 3 j (mI x 3 (j + 1))) 4 j (mI x 4 (j + 1))) 5 (j + 1) = mI x 5 (j + 1) from by simp [tI_mI, tJ_mI, tI_mJ, tJ_mJ, up2]]
      refine mzs_n 5 hx hb hK.1 hW hS (by simp only [tI_mA, tJ_mA]) (by decide) rfl (show _ < 301 by omega) (by decide) (by first | exact Or.inl rfl | exact Or.inr rfl | assumption) dX7_drop_103 (fun H locs hW hS => ?_)
      refine lv_aload_n hx hb dX7_drop_104 rfl (lv_at hl 1 rfl) ?_
      refine gM 7 hx hb hts hX7 hown hK.1 hW (by simp only [tI_mA, tJ_mA]) (by decide) rfl (hts (.fieldLink RX7 29 "SharedRegistersModel" "version" "[I") (by decide +kernel)) rfl dX7_drop_105 ?_
      refine lv_iload_n hx hb dX7_drop_108 rfl (lv_at hl 0 rfl) ?_
      refine lv_aload_n hx hb dX7_drop_109 rfl (lv_at hl 1 rfl) ?_
      refine gM 7 hx hb hts hX7 hown hK.1 hW (by simp only [tI_mA, tJ_mA]) (by decide) rfl (hts (.fieldLink RX7 29 "SharedRegistersModel" "version" "[I") (by decide +kernel)) rfl dX7_drop_110 ?_
      refine lv_iload_n hx hb dX7_drop_113 rfl (lv_at hl 0 rfl) ?_
      refine lv_iconst (v := 1) hx hb dX7_drop_114 (by decide) ?_
      refine lv_iadd hx hb dX7_drop_115 ?_
      rw [show nI j + 1 = nI (j + 1) from nI_1 _]
      refine mil_n 6 hx hb hK.1 hW (by simp only [tI_mA, tJ_mA]) (by decide) rfl (show _ < 301 by omega) (by decide) dX7_drop_116 ?_
      rw [show mI (tI (tI (tI (tI (tI (tI x 0 j (mI x 0 (j + 1))) 1 j (mI x 1 (j + 1))) 2 j (mI x 2 (j + 1))) 3 j (mI x 3 (j + 1))) 4 j (mI x 4 (j + 1))) 5 j (mI x 5 (j + 1))) 6 (j + 1) = mI x 6 (j + 1) from by simp [tI_mI, tJ_mI, tI_mJ, tJ_mJ, up2]]
      refine mis_n 6 hx hb hK.1 hW hS (by simp only [tI_mA, tJ_mA]) (by decide) rfl (show _ < 301 by omega) (by decide) dX7_drop_117 (fun H locs hW hS => ?_)
      refine lv_aload_n hx hb dX7_drop_118 rfl (lv_at hl 1 rfl) ?_
      refine gM 8 hx hb hts hX7 hown hK.1 hW (by simp only [tI_mA, tJ_mA]) (by decide) rfl (hts (.fieldLink RX7 32 "SharedRegistersModel" "value" "[J") (by decide +kernel)) rfl dX7_drop_119 ?_
      refine lv_iload_n hx hb dX7_drop_122 rfl (lv_at hl 0 rfl) ?_
      refine lv_aload_n hx hb dX7_drop_123 rfl (lv_at hl 1 rfl) ?_
      refine gM 8 hx hb hts hX7 hown hK.1 hW (by simp only [tI_mA, tJ_mA]) (by decide) rfl (hts (.fieldLink RX7 32 "SharedRegistersModel" "value" "[J") (by decide +kernel)) rfl dX7_drop_124 ?_
      refine lv_iload_n hx hb dX7_drop_127 rfl (lv_at hl 0 rfl) ?_
      refine lv_iconst (v := 1) hx hb dX7_drop_128 (by decide) ?_
      refine lv_iadd hx hb dX7_drop_129 ?_
      rw [show nI j + 1 = nI (j + 1) from nI_1 _]
      refine mll_n 7 hx hb hK.1 hW (by simp only [tI_mA, tJ_mA]) (by decide) rfl (show _ < 301 by omega) (by decide) dX7_drop_130 ?_
      rw [show mJ (tI (tI (tI (tI (tI (tI (tI x 0 j (mI x 0 (j + 1))) 1 j (mI x 1 (j + 1))) 2 j (mI x 2 (j + 1))) 3 j (mI x 3 (j + 1))) 4 j (mI x 4 (j + 1))) 5 j (mI x 5 (j + 1))) 6 j (mI x 6 (j + 1))) 7 (j + 1) = mJ x 7 (j + 1) from by simp [tI_mI, tJ_mI, tI_mJ, tJ_mJ, up2]]
      refine mls_n 7 hx hb hK.1 hW hS (by simp only [tI_mA, tJ_mA]) (by decide) rfl (show _ < 301 by omega) (by decide) dX7_drop_131 (fun H locs hW hS => ?_)
      refine lv_iinc (v := nI (j + 1)) (lv' := [(2, _), (0, _), (1, _)]) hx hb dX7_drop_132 hl (k := 0) rfl (nI_1 _) (by decide) rfl (fun ls hl => ?_)
      refine lv_goto (tgt := 12) hx hb dX7_drop_135 (by decide) ?_
      exact ih (tDn x j) (j + 1) _ _ ls (by omega) (by rw [tDn_36]; exact hx36) (fun q => by rw [tDn_5]; split; exact h5 _; exact h5 q) hf hW hS hl
  exact loop (n - 1 - i) (tI z 36 0 (nI (n - 1))) i _ _ ls (by omega) (by rw [tI_mI, up2_s]) (fun q => by rw [tI_mI, up2_k (by decide)]; exact h5 q) rfl hW hS hl
def mRefuse (z : MS) (n : Nat) (a k r : Int32) (p : Nat) : MS := mSend z n 4 a k r (if mI z 10 p < mI z 9 p then mI z 9 p else mI z 10 p) 0 0 0
set_option maxHeartbeats 4000000 in
set_option maxRecDepth 100000 in
theorem m7_refuse (l : Launch) (D : va_G) (y : Nat → ClassId) (z : MS) (sz : Nat) (n : Nat) (a k r : Int32) (p0 : Nat) (hp : p0 < 36) (hn : mI z 36 0 = nI n) (hn0 : n ≤ 300) : Met l yX7_refuse wsX7_refuse ({ frames := 1, cells := 0, slots := 0, locals := 29 }) (va_Pc [.ref (mA z 0 0), .int a, .int k, .int r, .int (nI p0)] (mPre D y z sz)) (mQ0 D y z sz (fun u => u = mRefuse z n a k r p0)) 0 0 (mF z sz) := by
  refine Met.ofW (cc := cX7_refuse) (maxL := 5) (ret := none) (by decide) rfl ?_
  intro p e s m args below meth c s₁ B hml hv
  obtain ⟨rfl, hsz, hW0, hK⟩ := hv
  have hx := B.exec
  have hb := B.bytes
  have hr := B.returns
  have hts := atoms_spec (ws := wsX7_refuse) B.pre
  have hown : s.vm.findClass RX7 = some m.cls := findClass_of_methodNamed B.named
  have hlocks := B.notSynchronized
  subst hsz
  have hW := hW0.self (sz := s.heap.size)
  have hA : ∀ q, s.heap.size ≤ q → mF z s.heap.size q := fun q h => Or.inr h
  have hS : va_S (mF z s.heap.size) s.heap s.heap [] := va_S.rf
  have hl := lv_entry ([.ref (mA z 0 0), .int a, .int k, .int r, .int (nI p0)]) (n := 5) (Nat.le_of_ble_eq_true rfl)
  rw [lg_entry_eq]
  generalize (lg_sl ([.ref (mA z 0 0), .int a, .int k, .int r, .int (nI p0)]) ++ List.replicate (5 - (lg_sl ([.ref (mA z 0 0), .int a, .int k, .int r, .int (nI p0)])).length) Slot.unset).toArray = ls at hl ⊢
  have hl : lv_has ls 5 [(0, .ref (mA z 0 0)), (1, .int a), (2, .int k), (3, .int r), (4, .int (nI p0))] := hl
  have hX7 : ∀ w ∈ wsX70, w ∈ wsX7_refuse := by decide +kernel
  refine lv_aload_n hx hb dX7_refuse_0 rfl (lv_at hl 0 rfl) ?_
  refine lv_iconst (v := 4) hx hb dX7_refuse_1 (by decide) ?_
  refine lv_iload_n hx hb dX7_refuse_2 rfl (lv_at hl 1 rfl) ?_
  refine lv_iload_n hx hb dX7_refuse_3 rfl (lv_at hl 2 rfl) ?_
  refine lv_iload_n hx hb dX7_refuse_4 rfl (lv_at hl 3 rfl) ?_
  refine lv_aload_n hx hb dX7_refuse_5 rfl (lv_at hl 0 rfl) ?_
  refine gM 10 hx hb hts hX7 hown hK.1 hW rfl (by decide) rfl (hts (.fieldLink RX7 39 "SharedRegistersModel" "promise" "[I") (by decide +kernel)) rfl dX7_refuse_6 ?_
  refine lv_iload hx hb dX7_refuse_9 (lv_at hl 4 rfl) ?_
  refine mil_n 9 hx hb hK.1 hW rfl (by decide) rfl (show _ < 36 by omega) (by decide) dX7_refuse_11 ?_
  refine lv_aload_n hx hb dX7_refuse_12 rfl (lv_at hl 0 rfl) ?_
  refine gM 11 hx hb hts hX7 hown hK.1 hW rfl (by decide) rfl (hts (.fieldLink RX7 42 "SharedRegistersModel" "accepted" "[I") (by decide +kernel)) rfl dX7_refuse_13 ?_
  refine lv_iload hx hb dX7_refuse_16 (lv_at hl 4 rfl) ?_
  refine mil_n 10 hx hb hK.1 hW rfl (by decide) rfl (show _ < 36 by omega) (by decide) dX7_refuse_18 ?_
  refine lv_icmp_le (tgt := 32) hx hb dX7_refuse_19 (by decide) (fun c_19 => ?_) (fun c_19 => ?_)
  · refine lv_aload_n hx hb dX7_refuse_32 rfl (lv_at hl 0 rfl) ?_
    refine gM 11 hx hb hts hX7 hown hK.1 hW rfl (by decide) rfl (hts (.fieldLink RX7 42 "SharedRegistersModel" "accepted" "[I") (by decide +kernel)) rfl dX7_refuse_33 ?_
    refine lv_iload hx hb dX7_refuse_36 (lv_at hl 4 rfl) ?_
    refine mil_n 10 hx hb hK.1 hW rfl (by decide) rfl (show _ < 36 by omega) (by decide) dX7_refuse_38 ?_
    refine lv_iconst (v := 0) hx hb dX7_refuse_39 (by decide) ?_
    refine lv_iconst (v := 0) hx hb dX7_refuse_40 (by decide) ?_
    refine lv_lconst (v := 0) hx hb dX7_refuse_41 (by decide) ?_
    refine mc0 (va_runV (As := [.int 4, .int a, .int k, .int r, .int (mI z 10 p0), .int 0, .int 0, .long 0]) (rest := []) ⟨hx, hb, hml, hown, hts⟩ (m7_send l D y z _ n 4 a k r (mI z 10 p0) 0 0 0 hn hn0 (Or.inl rfl)) (cwV 8 hts gX7_refuse_X7_send rfl rfl rfl (by decide +kernel) ⟨Nat.le_of_ble_eq_true rfl, Nat.le_of_ble_eq_true rfl⟩) (mPreV (k := 0) (q := (RX7, TX7, 39)) hW hK (show 0 < 1 from Nat.zero_lt_one) rfl rfl [.int 4, .int a, .int k, .int r, .int (mI z 10 p0), .int 0, .int 0, .long 0]) rfl rfl hl.1 rfl (lv_room (Nat.le_of_ble_eq_true rfl)) dX7_refuse_42 ⟨Nat.le_of_ble_eq_true rfl, Nat.le_of_ble_eq_true rfl⟩) hW hS hA (fun u42 H locs hu42 hW hS => ?_)
    subst hu42
    refine W.vret hx hb hr ?_ hS.2.2 dX7_refuse_45
    refine mq0 ?_ hW hS
    exact (by unfold mRefuse; rw [if_neg (fun h9 => absurd c_19 (Int32.not_le.mpr h9))])
  · refine lv_aload_n hx hb dX7_refuse_22 rfl (lv_at hl 0 rfl) ?_
    refine gM 10 hx hb hts hX7 hown hK.1 hW rfl (by decide) rfl (hts (.fieldLink RX7 39 "SharedRegistersModel" "promise" "[I") (by decide +kernel)) rfl dX7_refuse_23 ?_
    refine lv_iload hx hb dX7_refuse_26 (lv_at hl 4 rfl) ?_
    refine mil_n 9 hx hb hK.1 hW rfl (by decide) rfl (show _ < 36 by omega) (by decide) dX7_refuse_28 ?_
    refine lv_goto (tgt := 39) hx hb dX7_refuse_29 (by decide) ?_
    refine lv_iconst (v := 0) hx hb dX7_refuse_39 (by decide) ?_
    refine lv_iconst (v := 0) hx hb dX7_refuse_40 (by decide) ?_
    refine lv_lconst (v := 0) hx hb dX7_refuse_41 (by decide) ?_
    refine mc0 (va_runV (As := [.int 4, .int a, .int k, .int r, .int (mI z 9 p0), .int 0, .int 0, .long 0]) (rest := []) ⟨hx, hb, hml, hown, hts⟩ (m7_send l D y z _ n 4 a k r (mI z 9 p0) 0 0 0 hn hn0 (Or.inl rfl)) (cwV 8 hts gX7_refuse_X7_send rfl rfl rfl (by decide +kernel) ⟨Nat.le_of_ble_eq_true rfl, Nat.le_of_ble_eq_true rfl⟩) (mPreV (k := 0) (q := (RX7, TX7, 39)) hW hK (show 0 < 1 from Nat.zero_lt_one) rfl rfl [.int 4, .int a, .int k, .int r, .int (mI z 9 p0), .int 0, .int 0, .long 0]) rfl rfl hl.1 rfl (lv_room (Nat.le_of_ble_eq_true rfl)) dX7_refuse_42 ⟨Nat.le_of_ble_eq_true rfl, Nat.le_of_ble_eq_true rfl⟩) hW hS hA (fun u42 H locs hu42 hW hS => ?_)
    subst hu42
    refine W.vret hx hb hr ?_ hS.2.2 dX7_refuse_45
    refine mq0 ?_ hW hS
    exact (by unfold mRefuse; rw [if_pos (Int32.not_le.mp c_19)])
def mPrep (z : MS) (n : Nat) (a : Int32) (k r q : Nat) (b : Int32) : MS := if ¬ b ≤ mI z 9 (4 * k + q) ∧ ¬ b ≤ mI z 10 (4 * k + q) then mSend (tI z 9 (4 * k + q) b) n 1 a (nI k) (nI r) (mI z 10 (4 * k + q)) (mI z 11 (4 * k + q)) (mI z 12 (4 * k + q)) (mJ z 13 (4 * k + q)) else mRefuse z n a (nI k) (nI r) (4 * k + q)
def tAcc (z : MS) (p : Nat) (b te ve : Int32) (va : Int64) : MS := tI (tJ (tI (tI (tI z 10 p b) 11 p te) 12 p ve) 13 p va) 9 p 0
def mAcc (z : MS) (n : Nat) (a : Int32) (k r q : Nat) (b te ve : Int32) (va : Int64) : MS := if ¬ b < mI z 9 (4 * k + q) ∧ ¬ b < mI z 10 (4 * k + q) then mSend (tAcc z (4 * k + q) b te ve va) n 3 a (nI k) (nI r) b 0 0 0 else mRefuse z n a (nI k) (nI r) (4 * k + q)
set_option maxHeartbeats 4000000 in
set_option maxRecDepth 100000 in
theorem m7_prepared (l : Launch) (D : va_G) (y : Nat → ClassId) (z : MS) (sz : Nat) (n : Nat) (a : Int32) (k r q : Nat) (b : Int32) (hk : k < 9) (hr0 : r < 200) (hq : q < 4) (hq27 : mI z 27 r = nI q) (hn : mI z 36 0 = nI n) (hn0 : n ≤ 300) (hth : ∀ p, p < 36 → mI z 11 p = 0 ∨ mI z 11 p = 1) : Met l yX7_prepared wsX7_prepared ({ frames := 2, cells := 0, slots := 0, locals := 60 }) (va_Pc [.ref (mA z 0 0), .int a, .int (nI k), .int (nI r), .int b] (mPre D y z sz)) (mQ0 D y z sz (fun u => u = mPrep z n a k r q b)) 0 0 (mF z sz) := by
  refine Met.ofW (cc := cX7_prepared) (maxL := 6) (ret := none) (by decide) rfl ?_
  intro p e s m args below meth c s₁ B hml hv
  obtain ⟨rfl, hsz, hW0, hK⟩ := hv
  have hx := B.exec
  have hb := B.bytes
  have hr := B.returns
  have hts := atoms_spec (ws := wsX7_prepared) B.pre
  have hown : s.vm.findClass RX7 = some m.cls := findClass_of_methodNamed B.named
  have hlocks := B.notSynchronized
  subst hsz
  have hW := hW0.self (sz := s.heap.size)
  have hA : ∀ q, s.heap.size ≤ q → mF z s.heap.size q := fun q h => Or.inr h
  have hS : va_S (mF z s.heap.size) s.heap s.heap [] := va_S.rf
  have hl := lv_entry ([.ref (mA z 0 0), .int a, .int (nI k), .int (nI r), .int b]) (n := 6) (Nat.le_of_ble_eq_true rfl)
  rw [lg_entry_eq]
  generalize (lg_sl ([.ref (mA z 0 0), .int a, .int (nI k), .int (nI r), .int b]) ++ List.replicate (6 - (lg_sl ([.ref (mA z 0 0), .int a, .int (nI k), .int (nI r), .int b])).length) Slot.unset).toArray = ls at hl ⊢
  have hl : lv_has ls 6 [(0, .ref (mA z 0 0)), (1, .int a), (2, .int (nI k)), (3, .int (nI r)), (4, .int b)] := hl
  have hX7 : ∀ w ∈ wsX70, w ∈ wsX7_prepared := by decide +kernel
  refine lv_iconst (v := 4) hx hb dX7_prepared_0 (by decide) ?_
  refine lv_iload_n hx hb dX7_prepared_1 rfl (lv_at hl 2 rfl) ?_
  refine lv_imul hx hb dX7_prepared_2 ?_
  rw [show (4 : Int32) * nI k = nI (4 * k) from pk_mul 4 _]
  refine lv_aload_n hx hb dX7_prepared_3 rfl (lv_at hl 0 rfl) ?_
  refine gM 29 hx hb hts hX7 hown hK.1 hW rfl (by decide) rfl (hts (.fieldLink RX7 93 "SharedRegistersModel" "key" "[I") (by decide +kernel)) rfl dX7_prepared_4 ?_
  refine lv_iload_n hx hb dX7_prepared_7 rfl (lv_at hl 3 rfl) ?_
  refine mil_n 27 hx hb hK.1 hW rfl (by decide) rfl (show _ < 200 by omega) (by decide) dX7_prepared_8 ?_
  rw [show mI z 27 r = nI q from hq27]
  refine lv_iadd hx hb dX7_prepared_9 ?_
  rw [show nI (4 * k) + nI q = nI (4 * k + q) from nI_add _ _]
  refine lv_istore (lv' := [(5, _), (0, _), (1, _), (2, _), (3, _), (4, _)]) hx hb dX7_prepared_10 hl (by decide) rfl (fun ls hl => ?_)
  refine lv_iload hx hb dX7_prepared_12 (lv_at hl 5 rfl) ?_
  refine lv_aload_n hx hb dX7_prepared_14 rfl (lv_at hl 1 rfl) ?_
  refine gM 10 hx hb hts hX7 hown hK.1 hW rfl (by decide) rfl (hts (.fieldLink RX7 39 "SharedRegistersModel" "promise" "[I") (by decide +kernel)) rfl dX7_prepared_15 ?_
  refine lv_iload hx hb dX7_prepared_18 (lv_at hl 0 rfl) ?_
  refine mil_n 9 hx hb hK.1 hW rfl (by decide) rfl (show _ < 36 by omega) (by decide) dX7_prepared_20 ?_
  refine lv_icmp_le (tgt := 84) hx hb dX7_prepared_21 (by decide) (fun c_21 => ?_) (fun c_21 => ?_)
  · refine lv_aload_n hx hb dX7_prepared_84 rfl (lv_at hl 1 rfl) ?_
    refine lv_iload_n hx hb dX7_prepared_85 rfl (lv_at hl 2 rfl) ?_
    refine lv_iload_n hx hb dX7_prepared_86 rfl (lv_at hl 3 rfl) ?_
    refine lv_iload_n hx hb dX7_prepared_87 rfl (lv_at hl 4 rfl) ?_
    refine lv_iload hx hb dX7_prepared_88 (lv_at hl 0 rfl) ?_
    refine mc0 (va_runV (As := [.int a, .int (nI k), .int (nI r), .int (nI (4 * k + q))]) (rest := []) ⟨hx, hb, hml, hown, hts⟩ (m7_refuse l D y z _ n a (nI k) (nI r) (4 * k + q) (by omega) hn hn0) (cwV 4 hts gX7_prepared_X7_refuse rfl rfl rfl (by decide +kernel) ⟨Nat.le_of_ble_eq_true rfl, Nat.le_of_ble_eq_true rfl⟩) (mPreV (k := 0) (q := (RX7, TX7, 39)) hW hK (show 0 < 1 from Nat.zero_lt_one) rfl rfl [.int a, .int (nI k), .int (nI r), .int (nI (4 * k + q))]) rfl rfl hl.1 rfl (lv_room (Nat.le_of_ble_eq_true rfl)) dX7_prepared_90 ⟨Nat.le_of_ble_eq_true rfl, Nat.le_of_ble_eq_true rfl⟩) hW hS hA (fun u90 H locs hu90 hW hS => ?_)
    subst hu90
    refine W.vret hx hb hr ?_ hS.2.2 dX7_prepared_93
    refine mq0 ?_ hW hS
    exact (by unfold mPrep; rw [if_neg (fun h9 => h9.1 c_21)])
  · refine lv_iload hx hb dX7_prepared_24 (lv_at hl 5 rfl) ?_
    refine lv_aload_n hx hb dX7_prepared_26 rfl (lv_at hl 1 rfl) ?_
    refine gM 11 hx hb hts hX7 hown hK.1 hW rfl (by decide) rfl (hts (.fieldLink RX7 42 "SharedRegistersModel" "accepted" "[I") (by decide +kernel)) rfl dX7_prepared_27 ?_
    refine lv_iload hx hb dX7_prepared_30 (lv_at hl 0 rfl) ?_
    refine mil_n 10 hx hb hK.1 hW rfl (by decide) rfl (show _ < 36 by omega) (by decide) dX7_prepared_32 ?_
    refine lv_icmp_le (tgt := 84) hx hb dX7_prepared_33 (by decide) (fun c_33 => ?_) (fun c_33 => ?_)
    · refine lv_aload_n hx hb dX7_prepared_84 rfl (lv_at hl 1 rfl) ?_
      refine lv_iload_n hx hb dX7_prepared_85 rfl (lv_at hl 2 rfl) ?_
      refine lv_iload_n hx hb dX7_prepared_86 rfl (lv_at hl 3 rfl) ?_
      refine lv_iload_n hx hb dX7_prepared_87 rfl (lv_at hl 4 rfl) ?_
      refine lv_iload hx hb dX7_prepared_88 (lv_at hl 0 rfl) ?_
      refine mc0 (va_runV (As := [.int a, .int (nI k), .int (nI r), .int (nI (4 * k + q))]) (rest := []) ⟨hx, hb, hml, hown, hts⟩ (m7_refuse l D y z _ n a (nI k) (nI r) (4 * k + q) (by omega) hn hn0) (cwV 4 hts gX7_prepared_X7_refuse rfl rfl rfl (by decide +kernel) ⟨Nat.le_of_ble_eq_true rfl, Nat.le_of_ble_eq_true rfl⟩) (mPreV (k := 0) (q := (RX7, TX7, 39)) hW hK (show 0 < 1 from Nat.zero_lt_one) rfl rfl [.int a, .int (nI k), .int (nI r), .int (nI (4 * k + q))]) rfl rfl hl.1 rfl (lv_room (Nat.le_of_ble_eq_true rfl)) dX7_prepared_90 ⟨Nat.le_of_ble_eq_true rfl, Nat.le_of_ble_eq_true rfl⟩) hW hS hA (fun u90 H locs hu90 hW hS => ?_)
      subst hu90
      refine W.vret hx hb hr ?_ hS.2.2 dX7_prepared_93
      refine mq0 ?_ hW hS
      exact (by unfold mPrep; rw [if_neg (fun h9 => h9.2 c_33)])
    · refine lv_aload_n hx hb dX7_prepared_36 rfl (lv_at hl 1 rfl) ?_
      refine gM 10 hx hb hts hX7 hown hK.1 hW rfl (by decide) rfl (hts (.fieldLink RX7 39 "SharedRegistersModel" "promise" "[I") (by decide +kernel)) rfl dX7_prepared_37 ?_
      refine lv_iload hx hb dX7_prepared_40 (lv_at hl 0 rfl) ?_
      refine lv_iload hx hb dX7_prepared_42 (lv_at hl 5 rfl) ?_
      refine mis_n 9 hx hb hK.1 hW hS rfl (by decide) rfl (show _ < 36 by omega) (by decide) dX7_prepared_44 (fun H locs hW hS => ?_)
      refine lv_aload_n hx hb dX7_prepared_45 rfl (lv_at hl 1 rfl) ?_
      refine lv_iconst (v := 1) hx hb dX7_prepared_46 (by decide) ?_
      refine lv_iload_n hx hb dX7_prepared_47 rfl (lv_at hl 2 rfl) ?_
      refine lv_iload_n hx hb dX7_prepared_48 rfl (lv_at hl 3 rfl) ?_
      refine lv_iload_n hx hb dX7_prepared_49 rfl (lv_at hl 4 rfl) ?_
      refine lv_aload_n hx hb dX7_prepared_50 rfl (lv_at hl 1 rfl) ?_
      refine gM 11 hx hb hts hX7 hown hK.1 hW (by simp only [tI_mA, tJ_mA]) (by decide) rfl (hts (.fieldLink RX7 42 "SharedRegistersModel" "accepted" "[I") (by decide +kernel)) rfl dX7_prepared_51 ?_
      refine lv_iload hx hb dX7_prepared_54 (lv_at hl 0 rfl) ?_
      refine mil_n 10 hx hb hK.1 hW (by simp only [tI_mA, tJ_mA]) (by decide) rfl (show _ < 36 by omega) (by decide) dX7_prepared_56 ?_
      rw [show mI (tI z 9 (4 * k + q) b) 10 (4 * k + q) = mI z 10 (4 * k + q) from by simp [tI_mI, tJ_mI, tI_mJ, tJ_mJ, up2]]
      refine lv_aload_n hx hb dX7_prepared_57 rfl (lv_at hl 1 rfl) ?_
      refine gM 12 hx hb hts hX7 hown hK.1 hW (by simp only [tI_mA, tJ_mA]) (by decide) rfl (hts (.fieldLink RX7 45 "SharedRegistersModel" "there" "[Z") (by decide +kernel)) rfl dX7_prepared_58 ?_
      refine lv_iload hx hb dX7_prepared_61 (lv_at hl 0 rfl) ?_
      refine mzl_n 11 hx hb hK.1 hW (by simp only [tI_mA, tJ_mA]) (by decide) rfl (show _ < 36 by omega) (by decide) dX7_prepared_63 ?_
      rw [show mI (tI z 9 (4 * k + q) b) 11 (4 * k + q) = mI z 11 (4 * k + q) from by simp [tI_mI, tJ_mI, tI_mJ, tJ_mJ, up2]]
      refine lv_aload_n hx hb dX7_prepared_64 rfl (lv_at hl 1 rfl) ?_
      refine gM 13 hx hb hts hX7 hown hK.1 hW (by simp only [tI_mA, tJ_mA]) (by decide) rfl (hts (.fieldLink RX7 48 "SharedRegistersModel" "keptVersion" "[I") (by decide +kernel)) rfl dX7_prepared_65 ?_
      refine lv_iload hx hb dX7_prepared_68 (lv_at hl 0 rfl) ?_
      refine mil_n 12 hx hb hK.1 hW (by simp only [tI_mA, tJ_mA]) (by decide) rfl (show _ < 36 by omega) (by decide) dX7_prepared_70 ?_
      rw [show mI (tI z 9 (4 * k + q) b) 12 (4 * k + q) = mI z 12 (4 * k + q) from by simp [tI_mI, tJ_mI, tI_mJ, tJ_mJ, up2]]
      refine lv_aload_n hx hb dX7_prepared_71 rfl (lv_at hl 1 rfl) ?_
      refine gM 14 hx hb hts hX7 hown hK.1 hW (by simp only [tI_mA, tJ_mA]) (by decide) rfl (hts (.fieldLink RX7 51 "SharedRegistersModel" "keptValue" "[J") (by decide +kernel)) rfl dX7_prepared_72 ?_
      refine lv_iload hx hb dX7_prepared_75 (lv_at hl 0 rfl) ?_
      refine mll_n 13 hx hb hK.1 hW (by simp only [tI_mA, tJ_mA]) (by decide) rfl (show _ < 36 by omega) (by decide) dX7_prepared_77 ?_
      rw [show mJ (tI z 9 (4 * k + q) b) 13 (4 * k + q) = mJ z 13 (4 * k + q) from by simp [tI_mI, tJ_mI, tI_mJ, tJ_mJ, up2]]
      refine mc0 (va_runV (As := [.int 1, .int a, .int (nI k), .int (nI r), .int (mI z 10 (4 * k + q)), .int (mI z 11 (4 * k + q)), .int (mI z 12 (4 * k + q)), .long (mJ z 13 (4 * k + q))]) (rest := []) ⟨hx, hb, hml, hown, hts⟩ (m7_send l D y (tI z 9 (4 * k + q) b) _ n 1 a (nI k) (nI r) (mI z 10 (4 * k + q)) (mI z 11 (4 * k + q)) (mI z 12 (4 * k + q)) (mJ z 13 (4 * k + q)) (show mI (tI z 9 (4 * k + q) b) 36 0 = nI n from hn) hn0 (hth _ (by omega))) (cwV 8 hts gX7_prepared_X7_send rfl rfl rfl (by decide +kernel) ⟨Nat.le_of_ble_eq_true rfl, Nat.le_of_ble_eq_true rfl⟩) (mPreV (k := 0) (q := (RX7, TX7, 39)) hW hK (show 0 < 1 from Nat.zero_lt_one) rfl rfl [.int 1, .int a, .int (nI k), .int (nI r), .int (mI z 10 (4 * k + q)), .int (mI z 11 (4 * k + q)), .int (mI z 12 (4 * k + q)), .long (mJ z 13 (4 * k + q))]) rfl rfl hl.1 rfl (lv_room (Nat.le_of_ble_eq_true rfl)) dX7_prepared_78 ⟨Nat.le_of_ble_eq_true rfl, Nat.le_of_ble_eq_true rfl⟩) hW hS hA (fun u78 H locs hu78 hW hS => ?_)
      subst hu78
      refine lv_goto (tgt := 93) hx hb dX7_prepared_81 (by decide) ?_
      refine W.vret hx hb hr ?_ hS.2.2 dX7_prepared_93
      refine mq0 ?_ hW hS
      exact (by unfold mPrep; rw [if_pos ⟨c_21, c_33⟩])
set_option maxHeartbeats 4000000 in
set_option maxRecDepth 100000 in
theorem m7_accept (l : Launch) (D : va_G) (y : Nat → ClassId) (z : MS) (sz : Nat) (n : Nat) (a : Int32) (k r q : Nat) (b te ve : Int32) (va : Int64) (hk : k < 9) (hr0 : r < 200) (hq : q < 4) (hq27 : mI z 27 r = nI q) (hn : mI z 36 0 = nI n) (hn0 : n ≤ 300) (hte : te = 0 ∨ te = 1) : Met l yX7_accept wsX7_accept ({ frames := 2, cells := 0, slots := 0, locals := 60 }) (va_Pc [.ref (mA z 0 0), .int a, .int (nI k), .int (nI r), .int b, .int te, .int ve, .long va] (mPre D y z sz)) (mQ0 D y z sz (fun u => u = mAcc z n a k r q b te ve va)) 0 0 (mF z sz) := by
  refine Met.ofW (cc := cX7_accept) (maxL := 10) (ret := none) (by decide) rfl ?_
  intro p e s m args below meth c s₁ B hml hv
  obtain ⟨rfl, hsz, hW0, hK⟩ := hv
  have hx := B.exec
  have hb := B.bytes
  have hr := B.returns
  have hts := atoms_spec (ws := wsX7_accept) B.pre
  have hown : s.vm.findClass RX7 = some m.cls := findClass_of_methodNamed B.named
  have hlocks := B.notSynchronized
  subst hsz
  have hW := hW0.self (sz := s.heap.size)
  have hA : ∀ q, s.heap.size ≤ q → mF z s.heap.size q := fun q h => Or.inr h
  have hS : va_S (mF z s.heap.size) s.heap s.heap [] := va_S.rf
  have hl := lv_entry ([.ref (mA z 0 0), .int a, .int (nI k), .int (nI r), .int b, .int te, .int ve, .long va]) (n := 10) (Nat.le_of_ble_eq_true rfl)
  rw [lg_entry_eq]
  generalize (lg_sl ([.ref (mA z 0 0), .int a, .int (nI k), .int (nI r), .int b, .int te, .int ve, .long va]) ++ List.replicate (10 - (lg_sl ([.ref (mA z 0 0), .int a, .int (nI k), .int (nI r), .int b, .int te, .int ve, .long va])).length) Slot.unset).toArray = ls at hl ⊢
  have hl : lv_has ls 10 [(0, .ref (mA z 0 0)), (1, .int a), (2, .int (nI k)), (3, .int (nI r)), (4, .int b), (5, .int te), (6, .int ve), (7, .long va)] := hl
  have hX7 : ∀ w ∈ wsX70, w ∈ wsX7_accept := by decide +kernel
  refine lv_iconst (v := 4) hx hb dX7_accept_0 (by decide) ?_
  refine lv_iload_n hx hb dX7_accept_1 rfl (lv_at hl 2 rfl) ?_
  refine lv_imul hx hb dX7_accept_2 ?_
  rw [show (4 : Int32) * nI k = nI (4 * k) from pk_mul 4 _]
  refine lv_aload_n hx hb dX7_accept_3 rfl (lv_at hl 0 rfl) ?_
  refine gM 29 hx hb hts hX7 hown hK.1 hW rfl (by decide) rfl (hts (.fieldLink RX7 93 "SharedRegistersModel" "key" "[I") (by decide +kernel)) rfl dX7_accept_4 ?_
  refine lv_iload_n hx hb dX7_accept_7 rfl (lv_at hl 3 rfl) ?_
  refine mil_n 27 hx hb hK.1 hW rfl (by decide) rfl (show _ < 200 by omega) (by decide) dX7_accept_8 ?_
  rw [show mI z 27 r = nI q from hq27]
  refine lv_iadd hx hb dX7_accept_9 ?_
  rw [show nI (4 * k) + nI q = nI (4 * k + q) from nI_add _ _]
  refine lv_istore (lv' := [(9, _), (0, _), (1, _), (2, _), (3, _), (4, _), (5, _), (6, _), (7, _)]) hx hb dX7_accept_10 hl (by decide) rfl (fun ls hl => ?_)
  refine lv_iload hx hb dX7_accept_12 (lv_at hl 5 rfl) ?_
  refine lv_aload_n hx hb dX7_accept_14 rfl (lv_at hl 1 rfl) ?_
  refine gM 10 hx hb hts hX7 hown hK.1 hW rfl (by decide) rfl (hts (.fieldLink RX7 39 "SharedRegistersModel" "promise" "[I") (by decide +kernel)) rfl dX7_accept_15 ?_
  refine lv_iload hx hb dX7_accept_18 (lv_at hl 0 rfl) ?_
  refine mil_n 9 hx hb hK.1 hW rfl (by decide) rfl (show _ < 36 by omega) (by decide) dX7_accept_20 ?_
  refine lv_icmp_lt (tgt := 96) hx hb dX7_accept_21 (by decide) (fun c_21 => ?_) (fun c_21 => ?_)
  · refine lv_aload_n hx hb dX7_accept_96 rfl (lv_at hl 1 rfl) ?_
    refine lv_iload_n hx hb dX7_accept_97 rfl (lv_at hl 2 rfl) ?_
    refine lv_iload_n hx hb dX7_accept_98 rfl (lv_at hl 3 rfl) ?_
    refine lv_iload_n hx hb dX7_accept_99 rfl (lv_at hl 4 rfl) ?_
    refine lv_iload hx hb dX7_accept_100 (lv_at hl 0 rfl) ?_
    refine mc0 (va_runV (As := [.int a, .int (nI k), .int (nI r), .int (nI (4 * k + q))]) (rest := []) ⟨hx, hb, hml, hown, hts⟩ (m7_refuse l D y z _ n a (nI k) (nI r) (4 * k + q) (by omega) hn hn0) (cwV 4 hts gX7_accept_X7_refuse rfl rfl rfl (by decide +kernel) ⟨Nat.le_of_ble_eq_true rfl, Nat.le_of_ble_eq_true rfl⟩) (mPreV (k := 0) (q := (RX7, TX7, 39)) hW hK (show 0 < 1 from Nat.zero_lt_one) rfl rfl [.int a, .int (nI k), .int (nI r), .int (nI (4 * k + q))]) rfl rfl hl.1 rfl (lv_room (Nat.le_of_ble_eq_true rfl)) dX7_accept_102 ⟨Nat.le_of_ble_eq_true rfl, Nat.le_of_ble_eq_true rfl⟩) hW hS hA (fun u102 H locs hu102 hW hS => ?_)
    subst hu102
    refine W.vret hx hb hr ?_ hS.2.2 dX7_accept_105
    refine mq0 ?_ hW hS
    exact (by unfold mAcc; rw [if_neg (fun h9 => h9.1 c_21)])
  · refine lv_iload hx hb dX7_accept_24 (lv_at hl 5 rfl) ?_
    refine lv_aload_n hx hb dX7_accept_26 rfl (lv_at hl 1 rfl) ?_
    refine gM 11 hx hb hts hX7 hown hK.1 hW rfl (by decide) rfl (hts (.fieldLink RX7 42 "SharedRegistersModel" "accepted" "[I") (by decide +kernel)) rfl dX7_accept_27 ?_
    refine lv_iload hx hb dX7_accept_30 (lv_at hl 0 rfl) ?_
    refine mil_n 10 hx hb hK.1 hW rfl (by decide) rfl (show _ < 36 by omega) (by decide) dX7_accept_32 ?_
    refine lv_icmp_lt (tgt := 96) hx hb dX7_accept_33 (by decide) (fun c_33 => ?_) (fun c_33 => ?_)
    · refine lv_aload_n hx hb dX7_accept_96 rfl (lv_at hl 1 rfl) ?_
      refine lv_iload_n hx hb dX7_accept_97 rfl (lv_at hl 2 rfl) ?_
      refine lv_iload_n hx hb dX7_accept_98 rfl (lv_at hl 3 rfl) ?_
      refine lv_iload_n hx hb dX7_accept_99 rfl (lv_at hl 4 rfl) ?_
      refine lv_iload hx hb dX7_accept_100 (lv_at hl 0 rfl) ?_
      refine mc0 (va_runV (As := [.int a, .int (nI k), .int (nI r), .int (nI (4 * k + q))]) (rest := []) ⟨hx, hb, hml, hown, hts⟩ (m7_refuse l D y z _ n a (nI k) (nI r) (4 * k + q) (by omega) hn hn0) (cwV 4 hts gX7_accept_X7_refuse rfl rfl rfl (by decide +kernel) ⟨Nat.le_of_ble_eq_true rfl, Nat.le_of_ble_eq_true rfl⟩) (mPreV (k := 0) (q := (RX7, TX7, 39)) hW hK (show 0 < 1 from Nat.zero_lt_one) rfl rfl [.int a, .int (nI k), .int (nI r), .int (nI (4 * k + q))]) rfl rfl hl.1 rfl (lv_room (Nat.le_of_ble_eq_true rfl)) dX7_accept_102 ⟨Nat.le_of_ble_eq_true rfl, Nat.le_of_ble_eq_true rfl⟩) hW hS hA (fun u102 H locs hu102 hW hS => ?_)
      subst hu102
      refine W.vret hx hb hr ?_ hS.2.2 dX7_accept_105
      refine mq0 ?_ hW hS
      exact (by unfold mAcc; rw [if_neg (fun h9 => h9.2 c_33)])
    · refine lv_aload_n hx hb dX7_accept_36 rfl (lv_at hl 1 rfl) ?_
      refine gM 11 hx hb hts hX7 hown hK.1 hW rfl (by decide) rfl (hts (.fieldLink RX7 42 "SharedRegistersModel" "accepted" "[I") (by decide +kernel)) rfl dX7_accept_37 ?_
      refine lv_iload hx hb dX7_accept_40 (lv_at hl 0 rfl) ?_
      refine lv_iload hx hb dX7_accept_42 (lv_at hl 5 rfl) ?_
      refine mis_n 10 hx hb hK.1 hW hS rfl (by decide) rfl (show _ < 36 by omega) (by decide) dX7_accept_44 (fun H locs hW hS => ?_)
      refine lv_aload_n hx hb dX7_accept_45 rfl (lv_at hl 1 rfl) ?_
      refine gM 12 hx hb hts hX7 hown hK.1 hW (by simp only [tI_mA, tJ_mA]) (by decide) rfl (hts (.fieldLink RX7 45 "SharedRegistersModel" "there" "[Z") (by decide +kernel)) rfl dX7_accept_46 ?_
      refine lv_iload hx hb dX7_accept_49 (lv_at hl 0 rfl) ?_
      refine lv_iload hx hb dX7_accept_51 (lv_at hl 6 rfl) ?_
      refine mzs_n 11 hx hb hK.1 hW hS (by simp only [tI_mA, tJ_mA]) (by decide) rfl (show _ < 36 by omega) (by decide) (by first | exact Or.inl rfl | exact Or.inr rfl | assumption) dX7_accept_53 (fun H locs hW hS => ?_)
      refine lv_aload_n hx hb dX7_accept_54 rfl (lv_at hl 1 rfl) ?_
      refine gM 13 hx hb hts hX7 hown hK.1 hW (by simp only [tI_mA, tJ_mA]) (by decide) rfl (hts (.fieldLink RX7 48 "SharedRegistersModel" "keptVersion" "[I") (by decide +kernel)) rfl dX7_accept_55 ?_
      refine lv_iload hx hb dX7_accept_58 (lv_at hl 0 rfl) ?_
      refine lv_iload hx hb dX7_accept_60 (lv_at hl 7 rfl) ?_
      refine mis_n 12 hx hb hK.1 hW hS (by simp only [tI_mA, tJ_mA]) (by decide) rfl (show _ < 36 by omega) (by decide) dX7_accept_62 (fun H locs hW hS => ?_)
      refine lv_aload_n hx hb dX7_accept_63 rfl (lv_at hl 1 rfl) ?_
      refine gM 14 hx hb hts hX7 hown hK.1 hW (by simp only [tI_mA, tJ_mA]) (by decide) rfl (hts (.fieldLink RX7 51 "SharedRegistersModel" "keptValue" "[J") (by decide +kernel)) rfl dX7_accept_64 ?_
      refine lv_iload hx hb dX7_accept_67 (lv_at hl 0 rfl) ?_
      refine lv_lload hx hb dX7_accept_69 (lv_at hl 8 rfl) ?_
      refine mls_n 13 hx hb hK.1 hW hS (by simp only [tI_mA, tJ_mA]) (by decide) rfl (show _ < 36 by omega) (by decide) dX7_accept_71 (fun H locs hW hS => ?_)
      refine lv_aload_n hx hb dX7_accept_72 rfl (lv_at hl 1 rfl) ?_
      refine gM 10 hx hb hts hX7 hown hK.1 hW (by simp only [tI_mA, tJ_mA]) (by decide) rfl (hts (.fieldLink RX7 39 "SharedRegistersModel" "promise" "[I") (by decide +kernel)) rfl dX7_accept_73 ?_
      refine lv_iload hx hb dX7_accept_76 (lv_at hl 0 rfl) ?_
      refine lv_iconst (v := 0) hx hb dX7_accept_78 (by decide) ?_
      refine mis_n 9 hx hb hK.1 hW hS (by simp only [tI_mA, tJ_mA]) (by decide) rfl (show _ < 36 by omega) (by decide) dX7_accept_79 (fun H locs hW hS => ?_)
      refine lv_aload_n hx hb dX7_accept_80 rfl (lv_at hl 1 rfl) ?_
      refine lv_iconst (v := 3) hx hb dX7_accept_81 (by decide) ?_
      refine lv_iload_n hx hb dX7_accept_82 rfl (lv_at hl 2 rfl) ?_
      refine lv_iload_n hx hb dX7_accept_83 rfl (lv_at hl 3 rfl) ?_
      refine lv_iload_n hx hb dX7_accept_84 rfl (lv_at hl 4 rfl) ?_
      refine lv_iload hx hb dX7_accept_85 (lv_at hl 5 rfl) ?_
      refine lv_iconst (v := 0) hx hb dX7_accept_87 (by decide) ?_
      refine lv_iconst (v := 0) hx hb dX7_accept_88 (by decide) ?_
      refine lv_lconst (v := 0) hx hb dX7_accept_89 (by decide) ?_
      refine mc0 (va_runV (As := [.int 3, .int a, .int (nI k), .int (nI r), .int b, .int 0, .int 0, .long 0]) (rest := []) ⟨hx, hb, hml, hown, hts⟩ (m7_send l D y (tI (tJ (tI (tI (tI z 10 (4 * k + q) b) 11 (4 * k + q) te) 12 (4 * k + q) ve) 13 (4 * k + q) va) 9 (4 * k + q) 0) _ n 3 a (nI k) (nI r) b 0 0 0 (show mI (tAcc z (4 * k + q) b te ve va) 36 0 = nI n from by simp [tAcc, tI_mI, tJ_mI, up2, hn]) hn0 (Or.inl rfl)) (cwV 8 hts gX7_accept_X7_send rfl rfl rfl (by decide +kernel) ⟨Nat.le_of_ble_eq_true rfl, Nat.le_of_ble_eq_true rfl⟩) (mPreV (k := 0) (q := (RX7, TX7, 39)) hW hK (show 0 < 1 from Nat.zero_lt_one) rfl rfl [.int 3, .int a, .int (nI k), .int (nI r), .int b, .int 0, .int 0, .long 0]) rfl rfl hl.1 rfl (lv_room (Nat.le_of_ble_eq_true rfl)) dX7_accept_90 ⟨Nat.le_of_ble_eq_true rfl, Nat.le_of_ble_eq_true rfl⟩) hW hS hA (fun u90 H locs hu90 hW hS => ?_)
      subst hu90
      refine lv_goto (tgt := 105) hx hb dX7_accept_93 (by decide) ?_
      refine W.vret hx hb hr ?_ hS.2.2 dX7_accept_105
      refine mq0 ?_ hW hS
      exact (by unfold mAcc; rw [if_pos ⟨c_21, c_33⟩]; rfl)
def tEnd (z : MS) (a r : Nat) : MS := tI (tJ (tI (tI (tI (tI z 31 r 1) 32 r (mI z 26 a)) 33 r (mI z 23 a)) 34 r (mI z 24 a)) 35 r (mJ z 25 a)) 19 a (-1)
def mAns (z : MS) (a k : Nat) : Int32 := mI z 21 a ||| ((1 : Int32) <<< (nI k &&& 31))
def mTaken (z : MS) (a k r : Nat) : MS := if mI z 19 a = nI r ∧ ¬ mI z 20 a = 0 ∧ ¬ (mI z 21 a >>> (nI k &&& 31) &&& 1) = 1 then (if mBits 9 (mAns z a k) 0 0 < mI z 18 (2 * a + 1) then tI z 21 a (mAns z a k) else tEnd (tI z 21 a (mAns z a k)) a r) else z
set_option maxHeartbeats 4000000 in
set_option maxRecDepth 100000 in
theorem m7_taken (l : Launch) (D : va_G) (y : Nat → ClassId) (z : MS) (sz : Nat) (a k r : Nat) (ha : a < 4) (hk : k < 9) (hr0 : r < 200) (h26 : mI z 26 a = 0 ∨ mI z 26 a = 1) (h23 : mI z 23 a = 0 ∨ mI z 23 a = 1) : Met l yX7_taken wsX7_taken ({ frames := 1, cells := 0, slots := 0, locals := 22 }) (va_Pc [.ref (mA z 0 0), .int (nI a), .int (nI k), .int (nI r)] (mPre D y z sz)) (mQ0 D y z sz (fun u => u = mTaken z a k r)) 0 0 (mF z sz) := by
  refine Met.ofW (cc := cX7_taken) (maxL := 4) (ret := none) (by decide) rfl ?_
  intro p e s m args below meth c s₁ B hml hv
  obtain ⟨rfl, hsz, hW0, hK⟩ := hv
  have hx := B.exec
  have hb := B.bytes
  have hr := B.returns
  have hts := atoms_spec (ws := wsX7_taken) B.pre
  have hown : s.vm.findClass RX7 = some m.cls := findClass_of_methodNamed B.named
  have hlocks := B.notSynchronized
  subst hsz
  have hW := hW0.self (sz := s.heap.size)
  have hA : ∀ q, s.heap.size ≤ q → mF z s.heap.size q := fun q h => Or.inr h
  have hS : va_S (mF z s.heap.size) s.heap s.heap [] := va_S.rf
  have hl := lv_entry ([.ref (mA z 0 0), .int (nI a), .int (nI k), .int (nI r)]) (n := 4) (Nat.le_of_ble_eq_true rfl)
  rw [lg_entry_eq]
  generalize (lg_sl ([.ref (mA z 0 0), .int (nI a), .int (nI k), .int (nI r)]) ++ List.replicate (4 - (lg_sl ([.ref (mA z 0 0), .int (nI a), .int (nI k), .int (nI r)])).length) Slot.unset).toArray = ls at hl ⊢
  have hl : lv_has ls 4 [(0, .ref (mA z 0 0)), (1, .int (nI a)), (2, .int (nI k)), (3, .int (nI r))] := hl
  have hX7 : ∀ w ∈ wsX70, w ∈ wsX7_taken := by decide +kernel
  refine lv_aload_n hx hb dX7_taken_0 rfl (lv_at hl 0 rfl) ?_
  refine gM 20 hx hb hts hX7 hown hK.1 hW rfl (by decide) rfl (hts (.fieldLink RX7 69 "SharedRegistersModel" "now" "[I") (by decide +kernel)) rfl dX7_taken_1 ?_
  refine lv_iload_n hx hb dX7_taken_4 rfl (lv_at hl 1 rfl) ?_
  refine mil_n 19 hx hb hK.1 hW rfl (by decide) rfl (show _ < 4 by omega) (by decide) dX7_taken_5 ?_
  refine lv_iload_n hx hb dX7_taken_6 rfl (lv_at hl 3 rfl) ?_
  refine lv_icmp_ne (tgt := 33) hx hb dX7_taken_7 (by decide) (fun c_7 => ?_) (fun c_7 => ?_)
  · refine W.vret hx hb hr ?_ hS.2.2 dX7_taken_33
    refine mq0 ?_ hW hS
    exact (by unfold mTaken; rw [if_neg (fun h9 => c_7 h9.1)])
  · refine lv_aload_n hx hb dX7_taken_10 rfl (lv_at hl 0 rfl) ?_
    refine gM 21 hx hb hts hX7 hown hK.1 hW rfl (by decide) rfl (hts (.fieldLink RX7 72 "SharedRegistersModel" "accepting" "[Z") (by decide +kernel)) rfl dX7_taken_11 ?_
    refine lv_iload_n hx hb dX7_taken_14 rfl (lv_at hl 1 rfl) ?_
    refine mzl_n 20 hx hb hK.1 hW rfl (by decide) rfl (show _ < 4 by omega) (by decide) dX7_taken_15 ?_
    refine lv_if_eq (tgt := 33) hx hb dX7_taken_16 (by decide) (fun c_16 => ?_) (fun c_16 => ?_)
    · refine W.vret hx hb hr ?_ hS.2.2 dX7_taken_33
      refine mq0 ?_ hW hS
      exact (by unfold mTaken; rw [if_neg (fun h9 => h9.2.1 c_16)])
    · refine lv_aload_n hx hb dX7_taken_19 rfl (lv_at hl 0 rfl) ?_
      refine gM 22 hx hb hts hX7 hown hK.1 hW rfl (by decide) rfl (hts (.fieldLink RX7 75 "SharedRegistersModel" "answered" "[I") (by decide +kernel)) rfl dX7_taken_20 ?_
      refine lv_iload_n hx hb dX7_taken_23 rfl (lv_at hl 1 rfl) ?_
      refine mil_n 21 hx hb hK.1 hW rfl (by decide) rfl (show _ < 4 by omega) (by decide) dX7_taken_24 ?_
      refine lv_iload_n hx hb dX7_taken_25 rfl (lv_at hl 2 rfl) ?_
      refine lv_ishr hx hb dX7_taken_26 ?_
      refine lv_iconst (v := 1) hx hb dX7_taken_27 (by decide) ?_
      refine lv_iand hx hb dX7_taken_28 ?_
      refine lv_iconst (v := 1) hx hb dX7_taken_29 (by decide) ?_
      refine lv_icmp_ne (tgt := 34) hx hb dX7_taken_30 (by decide) (fun c_30 => ?_) (fun c_30 => ?_)
      · refine lv_aload_n hx hb dX7_taken_34 rfl (lv_at hl 0 rfl) ?_
        refine gM 22 hx hb hts hX7 hown hK.1 hW rfl (by decide) rfl (hts (.fieldLink RX7 75 "SharedRegistersModel" "answered" "[I") (by decide +kernel)) rfl dX7_taken_35 ?_
        refine lv_iload_n hx hb dX7_taken_38 rfl (lv_at hl 1 rfl) ?_
        refine lv_dup2_11 hx hb dX7_taken_39 rfl rfl ?_
        refine mil_n 21 hx hb hK.1 hW rfl (by decide) rfl (show _ < 4 by omega) (by decide) dX7_taken_40 ?_
        refine lv_iconst (v := 1) hx hb dX7_taken_41 (by decide) ?_
        refine lv_iload_n hx hb dX7_taken_42 rfl (lv_at hl 2 rfl) ?_
        refine lv_ishl hx hb dX7_taken_43 ?_
        refine lv_ior hx hb dX7_taken_44 ?_
        rw [show (mI z 21 a ||| (1 <<< (nI k &&& 31))) = mAns z a k from rfl]
        refine mis_n 21 hx hb hK.1 hW hS rfl (by decide) rfl (show _ < 4 by omega) (by decide) dX7_taken_45 (fun H locs hW hS => ?_)
        refine lv_aload_n hx hb dX7_taken_46 rfl (lv_at hl 0 rfl) ?_
        refine gM 22 hx hb hts hX7 hown hK.1 hW (by simp only [tI_mA, tJ_mA]) (by decide) rfl (hts (.fieldLink RX7 75 "SharedRegistersModel" "answered" "[I") (by decide +kernel)) rfl dX7_taken_47 ?_
        refine lv_iload_n hx hb dX7_taken_50 rfl (lv_at hl 1 rfl) ?_
        refine mil_n 21 hx hb hK.1 hW (by simp only [tI_mA, tJ_mA]) (by decide) rfl (show _ < 4 by omega) (by decide) dX7_taken_51 ?_
        rw [show mI (tI z 21 a (mAns z a k)) 21 a = mAns z a k from by simp [tI_mI, tJ_mI, tI_mJ, tJ_mJ, up2]]
        rw [show mAns z a k = mAns z a k from rfl]
        refine mc1 (va_runS (As := [.int (mAns z a k)]) (rest := []) ⟨hx, hb, hml, hown, hts⟩ (m7_bits l D y (tI z 21 a (mAns z a k)) _ (mAns z a k)) (va_cwS 1 hts gX7_taken_X7_bits rfl rfl rfl (by decide +kernel) ⟨Nat.le_of_ble_eq_true rfl, Nat.le_of_ble_eq_true rfl⟩) (mPreS hW hK [.int (mAns z a k)]) rfl rfl hl.1 rfl (lv_room (Nat.le_of_ble_eq_true rfl)) dX7_taken_52 ⟨Nat.le_of_ble_eq_true rfl, Nat.le_of_ble_eq_true rfl⟩) hW hS hA (fun v52 u52 H locs hu52 hW hS => ?_)
        obtain ⟨rfl, f52⟩ := hu52
        subst f52
        refine lv_aload_n hx hb dX7_taken_55 rfl (lv_at hl 0 rfl) ?_
        refine gM 19 hx hb hts hX7 hown hK.1 hW (by simp only [tI_mA, tJ_mA]) (by decide) rfl (hts (.fieldLink RX7 66 "SharedRegistersModel" "nowEnough" "[I") (by decide +kernel)) rfl dX7_taken_56 ?_
        refine lv_iconst (v := 2) hx hb dX7_taken_59 (by decide) ?_
        refine lv_iload_n hx hb dX7_taken_60 rfl (lv_at hl 1 rfl) ?_
        refine lv_imul hx hb dX7_taken_61 ?_
        rw [show (2 : Int32) * nI a = nI (2 * a) from pk_mul 2 _]
        refine lv_iconst (v := 1) hx hb dX7_taken_62 (by decide) ?_
        refine lv_iadd hx hb dX7_taken_63 ?_
        rw [show nI (2 * a) + 1 = nI (2 * a + 1) from nI_1 _]
        refine mil_n 18 hx hb hK.1 hW (by simp only [tI_mA, tJ_mA]) (by decide) rfl (show _ < 8 by omega) (by decide) dX7_taken_64 ?_
        rw [show mI (tI z 21 a (mAns z a k)) 18 (2 * a + 1) = mI z 18 (2 * a + 1) from by simp [tI_mI, tJ_mI, tI_mJ, tJ_mJ, up2]]
        refine lv_icmp_lt (tgt := 130) hx hb dX7_taken_65 (by decide) (fun c_65 => ?_) (fun c_65 => ?_)
        · refine W.vret hx hb hr ?_ hS.2.2 dX7_taken_130
          refine mq0 ?_ hW hS
          exact (by unfold mTaken; rw [if_pos ⟨c_7, c_16, c_30⟩, if_pos c_65])
        · refine lv_aload_n hx hb dX7_taken_68 rfl (lv_at hl 0 rfl) ?_
          refine gM 33 hx hb hts hX7 hown hK.1 hW (by simp only [tI_mA, tJ_mA]) (by decide) rfl (hts (.fieldLink RX7 105 "SharedRegistersModel" "ended" "[I") (by decide +kernel)) rfl dX7_taken_69 ?_
          refine lv_iload_n hx hb dX7_taken_72 rfl (lv_at hl 3 rfl) ?_
          refine lv_iconst (v := 1) hx hb dX7_taken_73 (by decide) ?_
          refine mis_n 31 hx hb hK.1 hW hS (by simp only [tI_mA, tJ_mA]) (by decide) rfl (show _ < 200 by omega) (by decide) dX7_taken_74 (fun H locs hW hS => ?_)
          refine lv_aload_n hx hb dX7_taken_75 rfl (lv_at hl 0 rfl) ?_
          refine gM 34 hx hb hts hX7 hown hK.1 hW (by simp only [tI_mA, tJ_mA]) (by decide) rfl (hts (.fieldLink RX7 108 "SharedRegistersModel" "failed" "[Z") (by decide +kernel)) rfl dX7_taken_76 ?_
          refine lv_iload_n hx hb dX7_taken_79 rfl (lv_at hl 3 rfl) ?_
          refine lv_aload_n hx hb dX7_taken_80 rfl (lv_at hl 0 rfl) ?_
          refine gM 27 hx hb hts hX7 hown hK.1 hW (by simp only [tI_mA, tJ_mA]) (by decide) rfl (hts (.fieldLink RX7 90 "SharedRegistersModel" "failing" "[Z") (by decide +kernel)) rfl dX7_taken_81 ?_
          refine lv_iload_n hx hb dX7_taken_84 rfl (lv_at hl 1 rfl) ?_
          refine mzl_n 26 hx hb hK.1 hW (by simp only [tI_mA, tJ_mA]) (by decide) rfl (show _ < 4 by omega) (by decide) dX7_taken_85 ?_
          rw [show mI (tI (tI z 21 a (mAns z a k)) 31 r 1) 26 a = mI z 26 a from by simp [tI_mI, tJ_mI, tI_mJ, tJ_mJ, up2]]
          refine mzs_n 32 hx hb hK.1 hW hS (by simp only [tI_mA, tJ_mA]) (by decide) rfl (show _ < 200 by omega) (by decide) (by first | exact Or.inl rfl | exact Or.inr rfl | assumption) dX7_taken_86 (fun H locs hW hS => ?_)
          refine lv_aload_n hx hb dX7_taken_87 rfl (lv_at hl 0 rfl) ?_
          refine gM 35 hx hb hts hX7 hown hK.1 hW (by simp only [tI_mA, tJ_mA]) (by decide) rfl (hts (.fieldLink RX7 111 "SharedRegistersModel" "isThere" "[Z") (by decide +kernel)) rfl dX7_taken_88 ?_
          refine lv_iload_n hx hb dX7_taken_91 rfl (lv_at hl 3 rfl) ?_
          refine lv_aload_n hx hb dX7_taken_92 rfl (lv_at hl 0 rfl) ?_
          refine gM 24 hx hb hts hX7 hown hK.1 hW (by simp only [tI_mA, tJ_mA]) (by decide) rfl (hts (.fieldLink RX7 81 "SharedRegistersModel" "has" "[Z") (by decide +kernel)) rfl dX7_taken_93 ?_
          refine lv_iload_n hx hb dX7_taken_96 rfl (lv_at hl 1 rfl) ?_
          refine mzl_n 23 hx hb hK.1 hW (by simp only [tI_mA, tJ_mA]) (by decide) rfl (show _ < 4 by omega) (by decide) dX7_taken_97 ?_
          rw [show mI (tI (tI (tI z 21 a (mAns z a k)) 31 r 1) 32 r (mI z 26 a)) 23 a = mI z 23 a from by simp [tI_mI, tJ_mI, tI_mJ, tJ_mJ, up2]]
          refine mzs_n 33 hx hb hK.1 hW hS (by simp only [tI_mA, tJ_mA]) (by decide) rfl (show _ < 200 by omega) (by decide) (by first | exact Or.inl rfl | exact Or.inr rfl | assumption) dX7_taken_98 (fun H locs hW hS => ?_)
          refine lv_aload_n hx hb dX7_taken_99 rfl (lv_at hl 0 rfl) ?_
          refine gM 36 hx hb hts hX7 hown hK.1 hW (by simp only [tI_mA, tJ_mA]) (by decide) rfl (hts (.fieldLink RX7 114 "SharedRegistersModel" "endVersion" "[I") (by decide +kernel)) rfl dX7_taken_100 ?_
          refine lv_iload_n hx hb dX7_taken_103 rfl (lv_at hl 3 rfl) ?_
          refine lv_aload_n hx hb dX7_taken_104 rfl (lv_at hl 0 rfl) ?_
          refine gM 25 hx hb hts hX7 hown hK.1 hW (by simp only [tI_mA, tJ_mA]) (by decide) rfl (hts (.fieldLink RX7 84 "SharedRegistersModel" "hasVersion" "[I") (by decide +kernel)) rfl dX7_taken_105 ?_
          refine lv_iload_n hx hb dX7_taken_108 rfl (lv_at hl 1 rfl) ?_
          refine mil_n 24 hx hb hK.1 hW (by simp only [tI_mA, tJ_mA]) (by decide) rfl (show _ < 4 by omega) (by decide) dX7_taken_109 ?_
          rw [show mI (tI (tI (tI (tI z 21 a (mAns z a k)) 31 r 1) 32 r (mI z 26 a)) 33 r (mI z 23 a)) 24 a = mI z 24 a from by simp [tI_mI, tJ_mI, tI_mJ, tJ_mJ, up2]]
          refine mis_n 34 hx hb hK.1 hW hS (by simp only [tI_mA, tJ_mA]) (by decide) rfl (show _ < 200 by omega) (by decide) dX7_taken_110 (fun H locs hW hS => ?_)
          refine lv_aload_n hx hb dX7_taken_111 rfl (lv_at hl 0 rfl) ?_
          refine gM 37 hx hb hts hX7 hown hK.1 hW (by simp only [tI_mA, tJ_mA]) (by decide) rfl (hts (.fieldLink RX7 117 "SharedRegistersModel" "endValue" "[J") (by decide +kernel)) rfl dX7_taken_112 ?_
          refine lv_iload_n hx hb dX7_taken_115 rfl (lv_at hl 3 rfl) ?_
          refine lv_aload_n hx hb dX7_taken_116 rfl (lv_at hl 0 rfl) ?_
          refine gM 26 hx hb hts hX7 hown hK.1 hW (by simp only [tI_mA, tJ_mA]) (by decide) rfl (hts (.fieldLink RX7 87 "SharedRegistersModel" "hasValue" "[J") (by decide +kernel)) rfl dX7_taken_117 ?_
          refine lv_iload_n hx hb dX7_taken_120 rfl (lv_at hl 1 rfl) ?_
          refine mll_n 25 hx hb hK.1 hW (by simp only [tI_mA, tJ_mA]) (by decide) rfl (show _ < 4 by omega) (by decide) dX7_taken_121 ?_
          rw [show mJ (tI (tI (tI (tI (tI z 21 a (mAns z a k)) 31 r 1) 32 r (mI z 26 a)) 33 r (mI z 23 a)) 34 r (mI z 24 a)) 25 a = mJ z 25 a from by simp [tI_mI, tJ_mI, tI_mJ, tJ_mJ, up2]]
          refine mls_n 35 hx hb hK.1 hW hS (by simp only [tI_mA, tJ_mA]) (by decide) rfl (show _ < 200 by omega) (by decide) dX7_taken_122 (fun H locs hW hS => ?_)
          refine lv_aload_n hx hb dX7_taken_123 rfl (lv_at hl 0 rfl) ?_
          refine gM 20 hx hb hts hX7 hown hK.1 hW (by simp only [tI_mA, tJ_mA]) (by decide) rfl (hts (.fieldLink RX7 69 "SharedRegistersModel" "now" "[I") (by decide +kernel)) rfl dX7_taken_124 ?_
          refine lv_iload_n hx hb dX7_taken_127 rfl (lv_at hl 1 rfl) ?_
          refine lv_iconst (v := (-1)) hx hb dX7_taken_128 (by decide) ?_
          refine mis_n 19 hx hb hK.1 hW hS (by simp only [tI_mA, tJ_mA]) (by decide) rfl (show _ < 4 by omega) (by decide) dX7_taken_129 (fun H locs hW hS => ?_)
          refine W.vret hx hb hr ?_ hS.2.2 dX7_taken_130
          refine mq0 ?_ hW hS
          exact (by unfold mTaken; rw [if_pos ⟨c_7, c_16, c_30⟩, if_neg c_65]; simp [tEnd, tI_mI, tI_mJ, up2])
      · refine W.vret hx hb hr ?_ hS.2.2 dX7_taken_33
        refine mq0 ?_ hW hS
        exact (by unfold mTaken; rw [if_neg (fun h9 => h9.2.2 c_30)])
def mCnt (z : MS) (a : Nat) (b : Int32) : Int32 := if b / 4 ≤ mI z 14 a then mI z 14 a else b / 4
def mRefd (z : MS) (a r : Nat) (b : Int32) : MS := if mI z 19 a = nI r then tI (tI (tI z 14 a (mCnt z a b)) 31 r 2) 19 a (-1) else tI z 14 a (mCnt z a b)
set_option maxHeartbeats 4000000 in
set_option maxRecDepth 100000 in
theorem m7_refused (l : Launch) (D : va_G) (y : Nat → ClassId) (z : MS) (sz : Nat) (a r : Nat) (b : Int32) (ha : a < 4) (hr0 : r < 200) : Met l yX7_refused wsX7_refused ({ frames := 1, cells := 0, slots := 0, locals := 21 }) (va_Pc [.ref (mA z 0 0), .int (nI a), .int (nI r), .int b] (mPre D y z sz)) (mQ0 D y z sz (fun u => u = mRefd z a r b)) 0 0 (mF z sz) := by
  refine Met.ofW (cc := cX7_refused) (maxL := 4) (ret := none) (by decide) rfl ?_
  intro p e s m args below meth c s₁ B hml hv
  obtain ⟨rfl, hsz, hW0, hK⟩ := hv
  have hx := B.exec
  have hb := B.bytes
  have hr := B.returns
  have hts := atoms_spec (ws := wsX7_refused) B.pre
  have hown : s.vm.findClass RX7 = some m.cls := findClass_of_methodNamed B.named
  have hlocks := B.notSynchronized
  subst hsz
  have hW := hW0.self (sz := s.heap.size)
  have hA : ∀ q, s.heap.size ≤ q → mF z s.heap.size q := fun q h => Or.inr h
  have hS : va_S (mF z s.heap.size) s.heap s.heap [] := va_S.rf
  have hl := lv_entry ([.ref (mA z 0 0), .int (nI a), .int (nI r), .int b]) (n := 4) (Nat.le_of_ble_eq_true rfl)
  rw [lg_entry_eq]
  generalize (lg_sl ([.ref (mA z 0 0), .int (nI a), .int (nI r), .int b]) ++ List.replicate (4 - (lg_sl ([.ref (mA z 0 0), .int (nI a), .int (nI r), .int b])).length) Slot.unset).toArray = ls at hl ⊢
  have hl : lv_has ls 4 [(0, .ref (mA z 0 0)), (1, .int (nI a)), (2, .int (nI r)), (3, .int b)] := hl
  have hX7 : ∀ w ∈ wsX70, w ∈ wsX7_refused := by decide +kernel
  refine lv_aload_n hx hb dX7_refused_0 rfl (lv_at hl 0 rfl) ?_
  refine gM 15 hx hb hts hX7 hown hK.1 hW rfl (by decide) rfl (hts (.fieldLink RX7 54 "SharedRegistersModel" "count" "[I") (by decide +kernel)) rfl dX7_refused_1 ?_
  refine lv_iload_n hx hb dX7_refused_4 rfl (lv_at hl 1 rfl) ?_
  refine lv_iload_n hx hb dX7_refused_5 rfl (lv_at hl 3 rfl) ?_
  refine lv_iconst (v := 4) hx hb dX7_refused_6 (by decide) ?_
  refine lv_idiv hx hb dX7_refused_7 (by decide) ?_
  refine lv_aload_n hx hb dX7_refused_8 rfl (lv_at hl 0 rfl) ?_
  refine gM 15 hx hb hts hX7 hown hK.1 hW rfl (by decide) rfl (hts (.fieldLink RX7 54 "SharedRegistersModel" "count" "[I") (by decide +kernel)) rfl dX7_refused_9 ?_
  refine lv_iload_n hx hb dX7_refused_12 rfl (lv_at hl 1 rfl) ?_
  refine mil_n 14 hx hb hK.1 hW rfl (by decide) rfl (show _ < 4 by omega) (by decide) dX7_refused_13 ?_
  refine lv_icmp_le (tgt := 23) hx hb dX7_refused_14 (by decide) (fun c_14 => ?_) (fun c_14 => ?_)
  · refine lv_aload_n hx hb dX7_refused_23 rfl (lv_at hl 0 rfl) ?_
    refine gM 15 hx hb hts hX7 hown hK.1 hW rfl (by decide) rfl (hts (.fieldLink RX7 54 "SharedRegistersModel" "count" "[I") (by decide +kernel)) rfl dX7_refused_24 ?_
    refine lv_iload_n hx hb dX7_refused_27 rfl (lv_at hl 1 rfl) ?_
    refine mil_n 14 hx hb hK.1 hW rfl (by decide) rfl (show _ < 4 by omega) (by decide) dX7_refused_28 ?_
    rw [show mI z 14 a = mCnt z a b from by unfold mCnt; rw [if_pos c_14]]
    refine mis_n 14 hx hb hK.1 hW hS rfl (by decide) rfl (show _ < 4 by omega) (by decide) dX7_refused_29 (fun H locs hW hS => ?_)
    refine lv_aload_n hx hb dX7_refused_30 rfl (lv_at hl 0 rfl) ?_
    refine gM 20 hx hb hts hX7 hown hK.1 hW (by simp only [tI_mA, tJ_mA]) (by decide) rfl (hts (.fieldLink RX7 69 "SharedRegistersModel" "now" "[I") (by decide +kernel)) rfl dX7_refused_31 ?_
    refine lv_iload_n hx hb dX7_refused_34 rfl (lv_at hl 1 rfl) ?_
    refine mil_n 19 hx hb hK.1 hW (by simp only [tI_mA, tJ_mA]) (by decide) rfl (show _ < 4 by omega) (by decide) dX7_refused_35 ?_
    rw [show mI (tI z 14 a (mCnt z a b)) 19 a = mI z 19 a from by simp [tI_mI, tJ_mI, tI_mJ, tJ_mJ, up2]]
    refine lv_iload_n hx hb dX7_refused_36 rfl (lv_at hl 2 rfl) ?_
    refine lv_icmp_ne (tgt := 45) hx hb dX7_refused_37 (by decide) (fun c_37 => ?_) (fun c_37 => ?_)
    · refine W.vret hx hb hr ?_ hS.2.2 dX7_refused_45
      refine mq0 ?_ hW hS
      exact (by unfold mRefd; rw [if_neg c_37])
    · refine lv_aload_n hx hb dX7_refused_40 rfl (lv_at hl 0 rfl) ?_
      refine lv_iload_n hx hb dX7_refused_41 rfl (lv_at hl 1 rfl) ?_
      refine mc0 (va_runV (As := [.int (nI a)]) (rest := []) ⟨hx, hb, hml, hown, hts⟩ (m7_lose0 l D y (tI z 14 a (mCnt z a b)) _ a r ha (show mI (tI z 14 a (mCnt z a b)) 19 a = nI r from by simp [tI_mI, up2, c_37]) hr0) (cwV 1 hts gX7_refused_X7_lose0 rfl rfl rfl (by decide +kernel) ⟨Nat.le_of_ble_eq_true rfl, Nat.le_of_ble_eq_true rfl⟩) (mPreV (k := 0) (q := (RX7, TX7, 39)) hW hK (show 0 < 1 from Nat.zero_lt_one) rfl rfl [.int (nI a)]) rfl rfl hl.1 rfl (lv_room (Nat.le_of_ble_eq_true rfl)) dX7_refused_42 ⟨Nat.le_of_ble_eq_true rfl, Nat.le_of_ble_eq_true rfl⟩) hW hS hA (fun u42 H locs hu42 hW hS => ?_)
      subst hu42
      refine W.vret hx hb hr ?_ hS.2.2 dX7_refused_45
      refine mq0 ?_ hW hS
      exact (by unfold mRefd; rw [if_pos c_37])
  · refine lv_iload_n hx hb dX7_refused_17 rfl (lv_at hl 3 rfl) ?_
    refine lv_iconst (v := 4) hx hb dX7_refused_18 (by decide) ?_
    refine lv_idiv hx hb dX7_refused_19 (by decide) ?_
    refine lv_goto (tgt := 29) hx hb dX7_refused_20 (by decide) ?_
    rw [show (b / 4) = mCnt z a b from by unfold mCnt; rw [if_neg c_14]]
    refine mis_n 14 hx hb hK.1 hW hS rfl (by decide) rfl (show _ < 4 by omega) (by decide) dX7_refused_29 (fun H locs hW hS => ?_)
    refine lv_aload_n hx hb dX7_refused_30 rfl (lv_at hl 0 rfl) ?_
    refine gM 20 hx hb hts hX7 hown hK.1 hW (by simp only [tI_mA, tJ_mA]) (by decide) rfl (hts (.fieldLink RX7 69 "SharedRegistersModel" "now" "[I") (by decide +kernel)) rfl dX7_refused_31 ?_
    refine lv_iload_n hx hb dX7_refused_34 rfl (lv_at hl 1 rfl) ?_
    refine mil_n 19 hx hb hK.1 hW (by simp only [tI_mA, tJ_mA]) (by decide) rfl (show _ < 4 by omega) (by decide) dX7_refused_35 ?_
    rw [show mI (tI z 14 a (mCnt z a b)) 19 a = mI z 19 a from by simp [tI_mI, tJ_mI, tI_mJ, tJ_mJ, up2]]
    refine lv_iload_n hx hb dX7_refused_36 rfl (lv_at hl 2 rfl) ?_
    refine lv_icmp_ne (tgt := 45) hx hb dX7_refused_37 (by decide) (fun c_37 => ?_) (fun c_37 => ?_)
    · refine W.vret hx hb hr ?_ hS.2.2 dX7_refused_45
      refine mq0 ?_ hW hS
      exact (by unfold mRefd; rw [if_neg c_37])
    · refine lv_aload_n hx hb dX7_refused_40 rfl (lv_at hl 0 rfl) ?_
      refine lv_iload_n hx hb dX7_refused_41 rfl (lv_at hl 1 rfl) ?_
      refine mc0 (va_runV (As := [.int (nI a)]) (rest := []) ⟨hx, hb, hml, hown, hts⟩ (m7_lose0 l D y (tI z 14 a (mCnt z a b)) _ a r ha (show mI (tI z 14 a (mCnt z a b)) 19 a = nI r from by simp [tI_mI, up2, c_37]) hr0) (cwV 1 hts gX7_refused_X7_lose0 rfl rfl rfl (by decide +kernel) ⟨Nat.le_of_ble_eq_true rfl, Nat.le_of_ble_eq_true rfl⟩) (mPreV (k := 0) (q := (RX7, TX7, 39)) hW hK (show 0 < 1 from Nat.zero_lt_one) rfl rfl [.int (nI a)]) rfl rfl hl.1 rfl (lv_room (Nat.le_of_ble_eq_true rfl)) dX7_refused_42 ⟨Nat.le_of_ble_eq_true rfl, Nat.le_of_ble_eq_true rfl⟩) hW hS hA (fun u42 H locs hu42 hW hS => ?_)
      subst hu42
      refine W.vret hx hb hr ?_ hS.2.2 dX7_refused_45
      refine mq0 ?_ hW hS
      exact (by unfold mRefd; rw [if_pos c_37])
