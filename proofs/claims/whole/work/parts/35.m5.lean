theorem mShift_mA (k : Nat) : ∀ (z : MS) (j : Nat), mA (mShift k z j) = mA z := by
  induction k with
  | zero => intro z j; rfl
  | succ k ih => intro z j; rw [mShift, ih]; rfl
theorem tDn_mI {z : MS} {j f i : Nat} (h : 7 < f) : mI (tDn z j) f i = mI z f i := by
  simp only [tDn, tI_mI, tJ_mI]
  rw [up2_k (by omega), up2_k (by omega), up2_k (by omega), up2_k (by omega), up2_k (by omega), up2_k (by omega), up2_k (by omega)]
theorem tDn_mJ {z : MS} {j f i : Nat} (h : 7 < f) : mJ (tDn z j) f i = mJ z f i := by
  simp only [tDn, tI_mJ, tJ_mJ]
  rw [up2_k (by omega)]
theorem mShift_mI (k : Nat) : ∀ (z : MS) (j : Nat) {f i : Nat}, 7 < f → mI (mShift k z j) f i = mI z f i := by
  induction k with
  | zero => intro z j f i h; rfl
  | succ k ih => intro z j f i h; rw [mShift, ih _ _ h, tDn_mI h]
theorem mShift_mJ (k : Nat) : ∀ (z : MS) (j : Nat) {f i : Nat}, 7 < f → mJ (mShift k z j) f i = mJ z f i := by
  induction k with
  | zero => intro z j f i h; rfl
  | succ k ih => intro z j f i h; rw [mShift, ih _ _ h, tDn_mJ h]
theorem mDrop_mA (z : MS) (i n : Nat) : mA (mDrop z i n) = mA z := by rw [mDrop, mShift_mA]; rfl
theorem mDrop_mI {z : MS} {i n f j : Nat} (h : 7 < f) (h36 : f ≠ 36) : mI (mDrop z i n) f j = mI z f j := by rw [mDrop, mShift_mI _ _ _ h, tI_mI, up2_k h36]
theorem mDrop_mJ {z : MS} {i n f j : Nat} (h : 7 < f) : mJ (mDrop z i n) f j = mJ z f j := by rw [mDrop, mShift_mJ _ _ _ h]; rfl
theorem mDrop_36 (z : MS) (i n : Nat) : mI (mDrop z i n) 36 0 = nI (n - 1) := by rw [mDrop, mShift_mI _ _ _ (by decide), tI_mI, up2_s]
def iN (v : Int32) : Nat := v.toNatClampNeg
theorem iN_nI {n : Nat} (h : n < 2 ^ 31) : iN (nI n) = n := nI_clamp h
def mMsg (z : MS) (j so a k r q ch : Nat) : Prop := mI z 0 j = nI so ∧ mI z 1 j = nI a ∧ mI z 2 j = nI k ∧ mI z 3 j = nI r ∧ mI z 27 r = nI q ∧ mI z 28 r = nI ch ∧ so < 5 ∧ a < 4 ∧ k < 9 ∧ r < 200 ∧ q < 4 ∧ ch < 7
def MB (z : MS) : Prop := (∀ q, mI z 5 q = 0 ∨ mI z 5 q = 1) ∧ (∀ q, mI z 11 q = 0 ∨ mI z 11 q = 1) ∧ (∀ q, mI z 23 q = 0 ∨ mI z 23 q = 1) ∧ (∀ q, mI z 26 q = 0 ∨ mI z 26 q = 1) ∧ (∀ q, mI z 8 q = 0 ∨ mI z 8 q = 1)
def mTk (x : MS) (n so a k r q ch : Nat) (b te ve : Int32) (va : Int64) : MS := match so with
  | 0 => if mI x 8 k = 0 then mPrep x n (nI a) k r q b else x
  | 1 => mProm x n a k r ch b te ve va
  | 2 => if mI x 8 k = 0 then mAcc x n (nI a) k r q b te ve va else x
  | 3 => mTaken x a k r
  | _ => mRefd x a r b
/-- the message number i of the n is taken -/
def mTake (z : MS) (i n : Nat) : MS := mTk (mDrop z i n) (n - 1) (iN (mI z 0 i)) (iN (mI z 1 i)) (iN (mI z 2 i)) (iN (mI z 3 i)) (iN (mI z 27 (iN (mI z 3 i)))) (iN (mI z 28 (iN (mI z 3 i)))) (mI z 4 i) (mI z 5 i) (mI z 6 i) (mJ z 7 i)
theorem mTake_eq {z : MS} {i n so a k r q ch : Nat} (h : mMsg z i so a k r q ch) : mTake z i n = mTk (mDrop z i n) (n - 1) so a k r q ch (mI z 4 i) (mI z 5 i) (mI z 6 i) (mJ z 7 i) := by
  obtain ⟨h0, h1, h2, h3, h27, h28, q0, q1, q2, q3, q4, q5⟩ := h
  unfold mTake
  rw [h0, h1, h2, h3, iN_nI (show so < 2 ^ 31 by omega), iN_nI (show a < 2 ^ 31 by omega), iN_nI (show k < 2 ^ 31 by omega), iN_nI (show r < 2 ^ 31 by omega), h27, h28, iN_nI (show q < 2 ^ 31 by omega), iN_nI (show ch < 2 ^ 31 by omega)]
set_option maxHeartbeats 4000000 in
set_option maxRecDepth 100000 in
theorem m7_takeOne (l : Launch) (D : va_G) (y : Nat → ClassId) (z : MS) (sz : Nat) (i n so a k r q ch : Nat) (hn : mI z 36 0 = nI n) (hi : i < n) (hn0 : n ≤ 300) (hB : MB z) (hm : mMsg z i so a k r q ch) : Met l yX7_takeOne wsX7_takeOne ({ frames := 3, cells := 0, slots := 0, locals := 90 }) (va_Pc [.ref (mA z 0 0), .int (nI i)] (mPre D y z sz)) (mQ1 D y z sz (fun v u => v = .int (nI so) ∧ u = mTk (mDrop z i n) (n - 1) so a k r q ch (mI z 4 i) (mI z 5 i) (mI z 6 i) (mJ z 7 i))) 0 0 (mF z sz) := by
  refine Met.ofW (cc := cX7_takeOne) (maxL := 11) (ret := (some .int)) (by decide) rfl ?_
  intro p e s m args below meth c s₁ B hml hv
  obtain ⟨rfl, hsz, hW0, hK⟩ := hv
  have hx := B.exec
  have hb := B.bytes
  have hr := B.returns
  have hts := atoms_spec (ws := wsX7_takeOne) B.pre
  have hown : s.vm.findClass RX7 = some m.cls := findClass_of_methodNamed B.named
  have hlocks := B.notSynchronized
  subst hsz
  have hW := hW0.self (sz := s.heap.size)
  have hA : ∀ q, s.heap.size ≤ q → mF z s.heap.size q := fun q h => Or.inr h
  have hS : va_S (mF z s.heap.size) s.heap s.heap [] := va_S.rf
  have hl := lv_entry ([.ref (mA z 0 0), .int (nI i)]) (n := 11) (Nat.le_of_ble_eq_true rfl)
  rw [lg_entry_eq]
  generalize (lg_sl ([.ref (mA z 0 0), .int (nI i)]) ++ List.replicate (11 - (lg_sl ([.ref (mA z 0 0), .int (nI i)])).length) Slot.unset).toArray = ls at hl ⊢
  have hl : lv_has ls 11 [(0, .ref (mA z 0 0)), (1, .int (nI i))] := hl
  have hX7 : ∀ w ∈ wsX70, w ∈ wsX7_takeOne := by decide +kernel
  obtain ⟨h0, h1, h2, h3, h27, h28, q0, ha, hk, hr0, hq, hch⟩ := hm
  obtain ⟨b5, b11, b23, b26, b8⟩ := hB
  refine lv_aload_n hx hb dX7_takeOne_0 rfl (lv_at hl 0 rfl) ?_
  refine gM 1 hx hb hts hX7 hown hK.1 hW rfl (by decide) rfl (hts (.fieldLink RX7 7 "SharedRegistersModel" "sort" "[I") (by decide +kernel)) rfl dX7_takeOne_1 ?_
  refine lv_iload_n hx hb dX7_takeOne_4 rfl (lv_at hl 1 rfl) ?_
  refine mil_n 0 hx hb hK.1 hW rfl (by decide) rfl (show _ < 301 by omega) (by decide) dX7_takeOne_5 ?_
  rw [show mI z 0 i = nI so from h0]
  refine lv_istore_n (lv' := [(2, _), (0, _), (1, _)]) hx hb dX7_takeOne_6 rfl hl (by decide) rfl (fun ls hl => ?_)
  refine lv_aload_n hx hb dX7_takeOne_7 rfl (lv_at hl 1 rfl) ?_
  refine gM 2 hx hb hts hX7 hown hK.1 hW rfl (by decide) rfl (hts (.fieldLink RX7 13 "SharedRegistersModel" "who" "[I") (by decide +kernel)) rfl dX7_takeOne_8 ?_
  refine lv_iload_n hx hb dX7_takeOne_11 rfl (lv_at hl 2 rfl) ?_
  refine mil_n 1 hx hb hK.1 hW rfl (by decide) rfl (show _ < 301 by omega) (by decide) dX7_takeOne_12 ?_
  rw [show mI z 1 i = nI a from h1]
  refine lv_istore_n (lv' := [(3, _), (2, _), (0, _), (1, _)]) hx hb dX7_takeOne_13 rfl hl (by decide) rfl (fun ls hl => ?_)
  refine lv_aload_n hx hb dX7_takeOne_14 rfl (lv_at hl 2 rfl) ?_
  refine gM 3 hx hb hts hX7 hown hK.1 hW rfl (by decide) rfl (hts (.fieldLink RX7 16 "SharedRegistersModel" "whom" "[I") (by decide +kernel)) rfl dX7_takeOne_15 ?_
  refine lv_iload_n hx hb dX7_takeOne_18 rfl (lv_at hl 3 rfl) ?_
  refine mil_n 2 hx hb hK.1 hW rfl (by decide) rfl (show _ < 301 by omega) (by decide) dX7_takeOne_19 ?_
  rw [show mI z 2 i = nI k from h2]
  refine lv_istore (lv' := [(4, _), (3, _), (2, _), (0, _), (1, _)]) hx hb dX7_takeOne_20 hl (by decide) rfl (fun ls hl => ?_)
  refine lv_aload_n hx hb dX7_takeOne_22 rfl (lv_at hl 3 rfl) ?_
  refine gM 4 hx hb hts hX7 hown hK.1 hW rfl (by decide) rfl (hts (.fieldLink RX7 19 "SharedRegistersModel" "about" "[I") (by decide +kernel)) rfl dX7_takeOne_23 ?_
  refine lv_iload_n hx hb dX7_takeOne_26 rfl (lv_at hl 4 rfl) ?_
  refine mil_n 3 hx hb hK.1 hW rfl (by decide) rfl (show _ < 301 by omega) (by decide) dX7_takeOne_27 ?_
  rw [show mI z 3 i = nI r from h3]
  refine lv_istore (lv' := [(5, _), (4, _), (3, _), (2, _), (0, _), (1, _)]) hx hb dX7_takeOne_28 hl (by decide) rfl (fun ls hl => ?_)
  refine lv_aload_n hx hb dX7_takeOne_30 rfl (lv_at hl 4 rfl) ?_
  refine gM 5 hx hb hts hX7 hown hK.1 hW rfl (by decide) rfl (hts (.fieldLink RX7 22 "SharedRegistersModel" "ballot" "[I") (by decide +kernel)) rfl dX7_takeOne_31 ?_
  refine lv_iload_n hx hb dX7_takeOne_34 rfl (lv_at hl 5 rfl) ?_
  refine mil_n 4 hx hb hK.1 hW rfl (by decide) rfl (show _ < 301 by omega) (by decide) dX7_takeOne_35 ?_
  refine lv_istore (lv' := [(6, _), (5, _), (4, _), (3, _), (2, _), (0, _), (1, _)]) hx hb dX7_takeOne_36 hl (by decide) rfl (fun ls hl => ?_)
  refine lv_aload_n hx hb dX7_takeOne_38 rfl (lv_at hl 5 rfl) ?_
  refine gM 6 hx hb hts hX7 hown hK.1 hW rfl (by decide) rfl (hts (.fieldLink RX7 25 "SharedRegistersModel" "tells" "[Z") (by decide +kernel)) rfl dX7_takeOne_39 ?_
  refine lv_iload_n hx hb dX7_takeOne_42 rfl (lv_at hl 6 rfl) ?_
  refine mzl_n 5 hx hb hK.1 hW rfl (by decide) rfl (show _ < 301 by omega) (by decide) dX7_takeOne_43 ?_
  refine lv_istore (lv' := [(7, _), (6, _), (5, _), (4, _), (3, _), (2, _), (0, _), (1, _)]) hx hb dX7_takeOne_44 hl (by decide) rfl (fun ls hl => ?_)
  refine lv_aload_n hx hb dX7_takeOne_46 rfl (lv_at hl 6 rfl) ?_
  refine gM 7 hx hb hts hX7 hown hK.1 hW rfl (by decide) rfl (hts (.fieldLink RX7 29 "SharedRegistersModel" "version" "[I") (by decide +kernel)) rfl dX7_takeOne_47 ?_
  refine lv_iload_n hx hb dX7_takeOne_50 rfl (lv_at hl 7 rfl) ?_
  refine mil_n 6 hx hb hK.1 hW rfl (by decide) rfl (show _ < 301 by omega) (by decide) dX7_takeOne_51 ?_
  refine lv_istore (lv' := [(8, _), (7, _), (6, _), (5, _), (4, _), (3, _), (2, _), (0, _), (1, _)]) hx hb dX7_takeOne_52 hl (by decide) rfl (fun ls hl => ?_)
  refine lv_aload_n hx hb dX7_takeOne_54 rfl (lv_at hl 7 rfl) ?_
  refine gM 8 hx hb hts hX7 hown hK.1 hW rfl (by decide) rfl (hts (.fieldLink RX7 32 "SharedRegistersModel" "value" "[J") (by decide +kernel)) rfl dX7_takeOne_55 ?_
  refine lv_iload_n hx hb dX7_takeOne_58 rfl (lv_at hl 8 rfl) ?_
  refine mll_n 7 hx hb hK.1 hW rfl (by decide) rfl (show _ < 301 by omega) (by decide) dX7_takeOne_59 ?_
  refine lv_lstore (lv' := [(9, _), (8, _), (7, _), (6, _), (5, _), (4, _), (3, _), (2, _), (0, _), (1, _)]) hx hb dX7_takeOne_60 hl (by decide) rfl (fun ls hl => ?_)
  refine lv_aload_n hx hb dX7_takeOne_62 rfl (lv_at hl 8 rfl) ?_
  refine lv_iload_n hx hb dX7_takeOne_63 rfl (lv_at hl 9 rfl) ?_
  refine mc0 (va_runV (As := [.int (nI i)]) (rest := []) ⟨hx, hb, hml, hown, hts⟩ (m7_drop l D y z _ i n hn hi hn0 b5) (cwV 1 hts gX7_takeOne_X7_drop rfl rfl rfl (by decide +kernel) ⟨Nat.le_of_ble_eq_true rfl, Nat.le_of_ble_eq_true rfl⟩) (mPreV (k := 0) (q := (RX7, TX7, 39)) hW hK (show 0 < 1 from Nat.zero_lt_one) rfl rfl [.int (nI i)]) rfl rfl hl.1 rfl (lv_room (Nat.le_of_ble_eq_true rfl)) dX7_takeOne_64 ⟨Nat.le_of_ble_eq_true rfl, Nat.le_of_ble_eq_true rfl⟩) hW hS hA (fun u64 H locs hu64 hW hS => ?_)
  have hA64 : mA u64 = mA z := by rw [hu64, mDrop_mA]
  have g8 : mI u64 8 k = mI z 8 k := by rw [hu64, mDrop_mI (by decide) (by decide)]
  have g27 : mI u64 27 r = nI q := by rw [hu64, mDrop_mI (by decide) (by decide)]; exact h27
  have g28 : mI u64 28 r = nI ch := by rw [hu64, mDrop_mI (by decide) (by decide)]; exact h28
  have g36 : mI u64 36 0 = nI (n - 1) := by rw [hu64, mDrop_36]
  have g11 : ∀ p, p < 36 → mI u64 11 p = 0 ∨ mI u64 11 p = 1 := fun p _ => by rw [hu64, mDrop_mI (by decide) (by decide)]; exact b11 p
  have g23 : mI u64 23 a = 0 ∨ mI u64 23 a = 1 := by rw [hu64, mDrop_mI (by decide) (by decide)]; exact b23 a
  have g26 : mI u64 26 a = 0 ∨ mI u64 26 a = 1 := by rw [hu64, mDrop_mI (by decide) (by decide)]; exact b26 a
  rw [← hA64] at hl
  rcases (show so = 0 ∨ so = 1 ∨ so = 2 ∨ so = 3 ∨ so = 4 by omega) with rfl | rfl | rfl | rfl | rfl
  · refine lv_iload_n hx hb dX7_takeOne_67 rfl (lv_at hl 7 rfl) ?_
    refine lv_if_ne (tgt := 95) hx hb dX7_takeOne_68 (by decide) (fun c_ => absurd c_ (by decide)) (fun _ => ?_)
    refine lv_aload_n hx hb dX7_takeOne_71 rfl (lv_at hl 8 rfl) ?_
    refine gM 9 hx hb hts hX7 hown hK.1 hW rfl (by decide) rfl (hts (.fieldLink RX7 36 "SharedRegistersModel" "isDown" "[Z") (by decide +kernel)) rfl dX7_takeOne_72 ?_
    refine lv_iload hx hb dX7_takeOne_75 (lv_at hl 5 rfl) ?_
    refine mzl_n 8 hx hb hK.1 hW rfl (by decide) rfl (show _ < 9 by omega) (by decide) dX7_takeOne_77 ?_
    refine lv_if_ne (tgt := 95) hx hb dX7_takeOne_78 (by decide) (fun c_78 => ?_) (fun c_78 => ?_)
    · refine lv_iload_n hx hb dX7_takeOne_95 rfl (lv_at hl 7 rfl) ?_
      refine lv_iconst (v := 1) hx hb dX7_takeOne_96 (by decide) ?_
      refine lv_icmp_ne (tgt := 120) hx hb dX7_takeOne_97 (by decide) (fun _ => ?_) (fun c_ => absurd c_ (by decide))
      refine lv_iload_n hx hb dX7_takeOne_120 rfl (lv_at hl 7 rfl) ?_
      refine lv_iconst (v := 2) hx hb dX7_takeOne_121 (by decide) ?_
      refine lv_icmp_ne (tgt := 155) hx hb dX7_takeOne_122 (by decide) (fun _ => ?_) (fun c_ => absurd c_ (by decide))
      refine lv_iload_n hx hb dX7_takeOne_155 rfl (lv_at hl 7 rfl) ?_
      refine lv_iconst (v := 3) hx hb dX7_takeOne_156 (by decide) ?_
      refine lv_icmp_ne (tgt := 172) hx hb dX7_takeOne_157 (by decide) (fun _ => ?_) (fun c_ => absurd c_ (by decide))
      refine lv_iload_n hx hb dX7_takeOne_172 rfl (lv_at hl 7 rfl) ?_
      refine lv_iconst (v := 4) hx hb dX7_takeOne_173 (by decide) ?_
      refine lv_icmp_ne (tgt := 186) hx hb dX7_takeOne_174 (by decide) (fun _ => ?_) (fun c_ => absurd c_ (by decide))
      refine lv_iload_n hx hb dX7_takeOne_186 rfl (lv_at hl 7 rfl) ?_
      refine W.iret hx hb hr ?_ hS.2.2 dX7_takeOne_187
      refine mq1 ?_ hW hS
      exact ⟨rfl, by rw [mTk, ← hu64, if_neg c_78]⟩
    · refine lv_aload_n hx hb dX7_takeOne_81 rfl (lv_at hl 8 rfl) ?_
      refine lv_iload_n hx hb dX7_takeOne_82 rfl (lv_at hl 6 rfl) ?_
      refine lv_iload hx hb dX7_takeOne_83 (lv_at hl 5 rfl) ?_
      refine lv_iload hx hb dX7_takeOne_85 (lv_at hl 4 rfl) ?_
      refine lv_iload hx hb dX7_takeOne_87 (lv_at hl 3 rfl) ?_
      refine mc0 (va_runV (As := [.int (nI a), .int (nI k), .int (nI r), .int (mI z 4 i)]) (rest := []) ⟨hx, hb, hml, hown, hts⟩ (m7_prepared l D y u64 _ (n - 1) (nI a) k r q (mI z 4 i) hk hr0 hq g27 g36 (by omega) g11) (cwV 4 hts gX7_takeOne_X7_prepared rfl rfl rfl (by decide +kernel) ⟨Nat.le_of_ble_eq_true rfl, Nat.le_of_ble_eq_true rfl⟩) (mPreV (k := 0) (q := (RX7, TX7, 39)) hW hK (show 0 < 1 from Nat.zero_lt_one) rfl rfl [.int (nI a), .int (nI k), .int (nI r), .int (mI z 4 i)]) rfl rfl hl.1 rfl (lv_room (Nat.le_of_ble_eq_true rfl)) dX7_takeOne_89 ⟨Nat.le_of_ble_eq_true rfl, Nat.le_of_ble_eq_true rfl⟩) hW hS hA (fun u89 H locs hu89 hW hS => ?_)
      refine lv_goto (tgt := 186) hx hb dX7_takeOne_92 (by decide) ?_
      refine lv_iload_n hx hb dX7_takeOne_186 rfl (lv_at hl 7 rfl) ?_
      refine W.iret hx hb hr ?_ hS.2.2 dX7_takeOne_187
      refine mq1 ?_ hW hS
      exact ⟨rfl, by rw [mTk, ← hu64, if_pos c_78]; exact hu89⟩
  · refine lv_iload_n hx hb dX7_takeOne_67 rfl (lv_at hl 7 rfl) ?_
    refine lv_if_ne (tgt := 95) hx hb dX7_takeOne_68 (by decide) (fun _ => ?_) (fun c_ => absurd c_ (by decide))
    refine lv_iload_n hx hb dX7_takeOne_95 rfl (lv_at hl 7 rfl) ?_
    refine lv_iconst (v := 1) hx hb dX7_takeOne_96 (by decide) ?_
    refine lv_icmp_ne (tgt := 120) hx hb dX7_takeOne_97 (by decide) (fun c_ => absurd c_ (by decide)) (fun _ => ?_)
    refine lv_aload_n hx hb dX7_takeOne_100 rfl (lv_at hl 8 rfl) ?_
    refine lv_iload_n hx hb dX7_takeOne_101 rfl (lv_at hl 6 rfl) ?_
    refine lv_iload hx hb dX7_takeOne_102 (lv_at hl 5 rfl) ?_
    refine lv_iload hx hb dX7_takeOne_104 (lv_at hl 4 rfl) ?_
    refine lv_iload hx hb dX7_takeOne_106 (lv_at hl 3 rfl) ?_
    refine lv_iload hx hb dX7_takeOne_108 (lv_at hl 2 rfl) ?_
    refine lv_iload hx hb dX7_takeOne_110 (lv_at hl 1 rfl) ?_
    refine lv_lload hx hb dX7_takeOne_112 (lv_at hl 0 rfl) ?_
    refine mc0 (va_runV (As := [.int (nI a), .int (nI k), .int (nI r), .int (mI z 4 i), .int (mI z 5 i), .int (mI z 6 i), .long (mJ z 7 i)]) (rest := []) ⟨hx, hb, hml, hown, hts⟩ (m7_promised l D y u64 _ (n - 1) a k r ch (mI z 4 i) (mI z 5 i) (mI z 6 i) (mJ z 7 i) ha hk hr0 hch g28 g36 (by omega) (b5 i) g23) (cwV 7 hts gX7_takeOne_X7_promised rfl rfl rfl (by decide +kernel) ⟨Nat.le_of_ble_eq_true rfl, Nat.le_of_ble_eq_true rfl⟩) (mPreV (k := 0) (q := (RX7, TX7, 39)) hW hK (show 0 < 1 from Nat.zero_lt_one) rfl rfl [.int (nI a), .int (nI k), .int (nI r), .int (mI z 4 i), .int (mI z 5 i), .int (mI z 6 i), .long (mJ z 7 i)]) rfl rfl hl.1 rfl (lv_room (Nat.le_of_ble_eq_true rfl)) dX7_takeOne_114 ⟨Nat.le_of_ble_eq_true rfl, Nat.le_of_ble_eq_true rfl⟩) hW hS hA (fun u114 H locs hu114 hW hS => ?_)
    refine lv_goto (tgt := 186) hx hb dX7_takeOne_117 (by decide) ?_
    refine lv_iload_n hx hb dX7_takeOne_186 rfl (lv_at hl 7 rfl) ?_
    refine W.iret hx hb hr ?_ hS.2.2 dX7_takeOne_187
    refine mq1 ?_ hW hS
    exact ⟨rfl, by rw [mTk, ← hu64]; exact hu114⟩
  · refine lv_iload_n hx hb dX7_takeOne_67 rfl (lv_at hl 7 rfl) ?_
    refine lv_if_ne (tgt := 95) hx hb dX7_takeOne_68 (by decide) (fun _ => ?_) (fun c_ => absurd c_ (by decide))
    refine lv_iload_n hx hb dX7_takeOne_95 rfl (lv_at hl 7 rfl) ?_
    refine lv_iconst (v := 1) hx hb dX7_takeOne_96 (by decide) ?_
    refine lv_icmp_ne (tgt := 120) hx hb dX7_takeOne_97 (by decide) (fun _ => ?_) (fun c_ => absurd c_ (by decide))
    refine lv_iload_n hx hb dX7_takeOne_120 rfl (lv_at hl 7 rfl) ?_
    refine lv_iconst (v := 2) hx hb dX7_takeOne_121 (by decide) ?_
    refine lv_icmp_ne (tgt := 155) hx hb dX7_takeOne_122 (by decide) (fun c_ => absurd c_ (by decide)) (fun _ => ?_)
    refine lv_aload_n hx hb dX7_takeOne_125 rfl (lv_at hl 8 rfl) ?_
    refine gM 9 hx hb hts hX7 hown hK.1 hW rfl (by decide) rfl (hts (.fieldLink RX7 36 "SharedRegistersModel" "isDown" "[Z") (by decide +kernel)) rfl dX7_takeOne_126 ?_
    refine lv_iload hx hb dX7_takeOne_129 (lv_at hl 5 rfl) ?_
    refine mzl_n 8 hx hb hK.1 hW rfl (by decide) rfl (show _ < 9 by omega) (by decide) dX7_takeOne_131 ?_
    refine lv_if_ne (tgt := 155) hx hb dX7_takeOne_132 (by decide) (fun c_132 => ?_) (fun c_132 => ?_)
    · refine lv_iload_n hx hb dX7_takeOne_155 rfl (lv_at hl 7 rfl) ?_
      refine lv_iconst (v := 3) hx hb dX7_takeOne_156 (by decide) ?_
      refine lv_icmp_ne (tgt := 172) hx hb dX7_takeOne_157 (by decide) (fun _ => ?_) (fun c_ => absurd c_ (by decide))
      refine lv_iload_n hx hb dX7_takeOne_172 rfl (lv_at hl 7 rfl) ?_
      refine lv_iconst (v := 4) hx hb dX7_takeOne_173 (by decide) ?_
      refine lv_icmp_ne (tgt := 186) hx hb dX7_takeOne_174 (by decide) (fun _ => ?_) (fun c_ => absurd c_ (by decide))
      refine lv_iload_n hx hb dX7_takeOne_186 rfl (lv_at hl 7 rfl) ?_
      refine W.iret hx hb hr ?_ hS.2.2 dX7_takeOne_187
      refine mq1 ?_ hW hS
      exact ⟨rfl, by rw [mTk, ← hu64, if_neg c_132]⟩
    · refine lv_aload_n hx hb dX7_takeOne_135 rfl (lv_at hl 8 rfl) ?_
      refine lv_iload_n hx hb dX7_takeOne_136 rfl (lv_at hl 6 rfl) ?_
      refine lv_iload hx hb dX7_takeOne_137 (lv_at hl 5 rfl) ?_
      refine lv_iload hx hb dX7_takeOne_139 (lv_at hl 4 rfl) ?_
      refine lv_iload hx hb dX7_takeOne_141 (lv_at hl 3 rfl) ?_
      refine lv_iload hx hb dX7_takeOne_143 (lv_at hl 2 rfl) ?_
      refine lv_iload hx hb dX7_takeOne_145 (lv_at hl 1 rfl) ?_
      refine lv_lload hx hb dX7_takeOne_147 (lv_at hl 0 rfl) ?_
      refine mc0 (va_runV (As := [.int (nI a), .int (nI k), .int (nI r), .int (mI z 4 i), .int (mI z 5 i), .int (mI z 6 i), .long (mJ z 7 i)]) (rest := []) ⟨hx, hb, hml, hown, hts⟩ (m7_accept l D y u64 _ (n - 1) (nI a) k r q (mI z 4 i) (mI z 5 i) (mI z 6 i) (mJ z 7 i) hk hr0 hq g27 g36 (by omega) (b5 i)) (cwV 7 hts gX7_takeOne_X7_accept rfl rfl rfl (by decide +kernel) ⟨Nat.le_of_ble_eq_true rfl, Nat.le_of_ble_eq_true rfl⟩) (mPreV (k := 0) (q := (RX7, TX7, 39)) hW hK (show 0 < 1 from Nat.zero_lt_one) rfl rfl [.int (nI a), .int (nI k), .int (nI r), .int (mI z 4 i), .int (mI z 5 i), .int (mI z 6 i), .long (mJ z 7 i)]) rfl rfl hl.1 rfl (lv_room (Nat.le_of_ble_eq_true rfl)) dX7_takeOne_149 ⟨Nat.le_of_ble_eq_true rfl, Nat.le_of_ble_eq_true rfl⟩) hW hS hA (fun u149 H locs hu149 hW hS => ?_)
      refine lv_goto (tgt := 186) hx hb dX7_takeOne_152 (by decide) ?_
      refine lv_iload_n hx hb dX7_takeOne_186 rfl (lv_at hl 7 rfl) ?_
      refine W.iret hx hb hr ?_ hS.2.2 dX7_takeOne_187
      refine mq1 ?_ hW hS
      exact ⟨rfl, by rw [mTk, ← hu64, if_pos c_132]; exact hu149⟩
  · refine lv_iload_n hx hb dX7_takeOne_67 rfl (lv_at hl 7 rfl) ?_
    refine lv_if_ne (tgt := 95) hx hb dX7_takeOne_68 (by decide) (fun _ => ?_) (fun c_ => absurd c_ (by decide))
    refine lv_iload_n hx hb dX7_takeOne_95 rfl (lv_at hl 7 rfl) ?_
    refine lv_iconst (v := 1) hx hb dX7_takeOne_96 (by decide) ?_
    refine lv_icmp_ne (tgt := 120) hx hb dX7_takeOne_97 (by decide) (fun _ => ?_) (fun c_ => absurd c_ (by decide))
    refine lv_iload_n hx hb dX7_takeOne_120 rfl (lv_at hl 7 rfl) ?_
    refine lv_iconst (v := 2) hx hb dX7_takeOne_121 (by decide) ?_
    refine lv_icmp_ne (tgt := 155) hx hb dX7_takeOne_122 (by decide) (fun _ => ?_) (fun c_ => absurd c_ (by decide))
    refine lv_iload_n hx hb dX7_takeOne_155 rfl (lv_at hl 7 rfl) ?_
    refine lv_iconst (v := 3) hx hb dX7_takeOne_156 (by decide) ?_
    refine lv_icmp_ne (tgt := 172) hx hb dX7_takeOne_157 (by decide) (fun c_ => absurd c_ (by decide)) (fun _ => ?_)
    refine lv_aload_n hx hb dX7_takeOne_160 rfl (lv_at hl 8 rfl) ?_
    refine lv_iload_n hx hb dX7_takeOne_161 rfl (lv_at hl 6 rfl) ?_
    refine lv_iload hx hb dX7_takeOne_162 (lv_at hl 5 rfl) ?_
    refine lv_iload hx hb dX7_takeOne_164 (lv_at hl 4 rfl) ?_
    refine mc0 (va_runV (As := [.int (nI a), .int (nI k), .int (nI r)]) (rest := []) ⟨hx, hb, hml, hown, hts⟩ (m7_taken l D y u64 _ a k r ha hk hr0 g26 g23) (cwV 3 hts gX7_takeOne_X7_taken rfl rfl rfl (by decide +kernel) ⟨Nat.le_of_ble_eq_true rfl, Nat.le_of_ble_eq_true rfl⟩) (mPreV (k := 0) (q := (RX7, TX7, 39)) hW hK (show 0 < 1 from Nat.zero_lt_one) rfl rfl [.int (nI a), .int (nI k), .int (nI r)]) rfl rfl hl.1 rfl (lv_room (Nat.le_of_ble_eq_true rfl)) dX7_takeOne_166 ⟨Nat.le_of_ble_eq_true rfl, Nat.le_of_ble_eq_true rfl⟩) hW hS hA (fun u166 H locs hu166 hW hS => ?_)
    refine lv_goto (tgt := 186) hx hb dX7_takeOne_169 (by decide) ?_
    refine lv_iload_n hx hb dX7_takeOne_186 rfl (lv_at hl 7 rfl) ?_
    refine W.iret hx hb hr ?_ hS.2.2 dX7_takeOne_187
    refine mq1 ?_ hW hS
    exact ⟨rfl, by rw [mTk, ← hu64]; exact hu166⟩
  · refine lv_iload_n hx hb dX7_takeOne_67 rfl (lv_at hl 7 rfl) ?_
    refine lv_if_ne (tgt := 95) hx hb dX7_takeOne_68 (by decide) (fun _ => ?_) (fun c_ => absurd c_ (by decide))
    refine lv_iload_n hx hb dX7_takeOne_95 rfl (lv_at hl 7 rfl) ?_
    refine lv_iconst (v := 1) hx hb dX7_takeOne_96 (by decide) ?_
    refine lv_icmp_ne (tgt := 120) hx hb dX7_takeOne_97 (by decide) (fun _ => ?_) (fun c_ => absurd c_ (by decide))
    refine lv_iload_n hx hb dX7_takeOne_120 rfl (lv_at hl 7 rfl) ?_
    refine lv_iconst (v := 2) hx hb dX7_takeOne_121 (by decide) ?_
    refine lv_icmp_ne (tgt := 155) hx hb dX7_takeOne_122 (by decide) (fun _ => ?_) (fun c_ => absurd c_ (by decide))
    refine lv_iload_n hx hb dX7_takeOne_155 rfl (lv_at hl 7 rfl) ?_
    refine lv_iconst (v := 3) hx hb dX7_takeOne_156 (by decide) ?_
    refine lv_icmp_ne (tgt := 172) hx hb dX7_takeOne_157 (by decide) (fun _ => ?_) (fun c_ => absurd c_ (by decide))
    refine lv_iload_n hx hb dX7_takeOne_172 rfl (lv_at hl 7 rfl) ?_
    refine lv_iconst (v := 4) hx hb dX7_takeOne_173 (by decide) ?_
    refine lv_icmp_ne (tgt := 186) hx hb dX7_takeOne_174 (by decide) (fun c_ => absurd c_ (by decide)) (fun _ => ?_)
    refine lv_aload_n hx hb dX7_takeOne_177 rfl (lv_at hl 8 rfl) ?_
    refine lv_iload_n hx hb dX7_takeOne_178 rfl (lv_at hl 6 rfl) ?_
    refine lv_iload hx hb dX7_takeOne_179 (lv_at hl 4 rfl) ?_
    refine lv_iload hx hb dX7_takeOne_181 (lv_at hl 3 rfl) ?_
    refine mc0 (va_runV (As := [.int (nI a), .int (nI r), .int (mI z 4 i)]) (rest := []) ⟨hx, hb, hml, hown, hts⟩ (m7_refused l D y u64 _ a r (mI z 4 i) ha hr0) (cwV 3 hts gX7_takeOne_X7_refused rfl rfl rfl (by decide +kernel) ⟨Nat.le_of_ble_eq_true rfl, Nat.le_of_ble_eq_true rfl⟩) (mPreV (k := 0) (q := (RX7, TX7, 39)) hW hK (show 0 < 1 from Nat.zero_lt_one) rfl rfl [.int (nI a), .int (nI r), .int (mI z 4 i)]) rfl rfl hl.1 rfl (lv_room (Nat.le_of_ble_eq_true rfl)) dX7_takeOne_183 ⟨Nat.le_of_ble_eq_true rfl, Nat.le_of_ble_eq_true rfl⟩) hW hS hA (fun u183 H locs hu183 hW hS => ?_)
    refine lv_iload_n hx hb dX7_takeOne_186 rfl (lv_at hl 7 rfl) ?_
    refine W.iret hx hb hr ?_ hS.2.2 dX7_takeOne_187
    refine mq1 ?_ hW hS
    exact ⟨rfl, by rw [← hu64]; exact hu183⟩
