theorem mSend_mA (z : MS) (n : Nat) (so wh wm ab ba te ve : Int32) (va : Int64) : mA (mSend z n so wh wm ab ba te ve va) = mA z := by unfold mSend; split <;> rfl
theorem mSend_mI {z : MS} {n : Nat} {so wh wm ab ba te ve : Int32} {va : Int64} {j i : Nat} (h : 7 < j) (h36 : j ≠ 36) : mI (mSend z n so wh wm ab ba te ve va) j i = mI z j i := by
  unfold mSend; split
  · simp only [tSend, tI_mI, tJ_mI]
    rw [up2_k h36, up2_k (by omega), up2_k (by omega), up2_k (by omega), up2_k (by omega), up2_k (by omega), up2_k (by omega), up2_k (by omega)]
  · rfl
theorem mSend_mJ {z : MS} {n : Nat} {so wh wm ab ba te ve : Int32} {va : Int64} {j i : Nat} (h : 7 < j) : mJ (mSend z n so wh wm ab ba te ve va) j i = mJ z j i := by
  unfold mSend; split
  · simp only [tSend, tI_mJ, tJ_mJ]
    rw [up2_k (by omega)]
  · rfl
theorem mSend_36 {z : MS} {n : Nat} {so wh wm ab ba te ve : Int32} {va : Int64} (hn : mI z 36 0 = nI n) : mI (mSend z n so wh wm ab ba te ve va) 36 0 = nI (if n < 300 then n + 1 else n) := by
  unfold mSend; split
  · simp only [tSend, tI_mI]; rw [up2_s]
  · exact hn
def nxt (n : Nat) : Nat := if n < 300 then n + 1 else n
theorem nxt_le {n : Nat} (h : n ≤ 300) : nxt n ≤ 300 := by unfold nxt; split <;> omega
/-- a message to each keeper of the set, from j on, k of them looked at -/
def mSet : Nat → MS → Nat → Nat → Int32 → Int32 → Int32 → Int32 → Int32 → Int32 → Int64 → Int32 → MS
  | 0, x, _, _, _, _, _, _, _, _, _, _ => x
  | k + 1, x, j, n, so, a, r, its, te, ve, va, set => if (set >>> (nI j &&& 31) &&& 1) = 1 then mSet k (mSend x n so a (nI j) r its te ve va) (j + 1) (nxt n) so a r its te ve va set else mSet k x (j + 1) n so a r its te ve va set
def mHear (z : MS) (a : Nat) (b te ve : Int32) (va : Int64) : MS := if b ≤ mI z 22 a then z else tJ (tI (tI (tI z 22 a b) 23 a te) 24 a ve) 25 a va
def mBegin (z : MS) (a r ch n : Nat) : MS := mSet 9 (tI (tI (mWork z a ch (mJ z 29 r)) 20 a 1) 21 a 0) 0 n 2 (nI a) (nI r) (mI z 30 r) (mI (mWork z a ch (mJ z 29 r)) 23 a) (mI (mWork z a ch (mJ z 29 r)) 24 a) (mJ (mWork z a ch (mJ z 29 r)) 25 a) (mI z 17 (2 * a + 1))
def mProm (z : MS) (n a k r ch : Nat) (b te ve : Int32) (va : Int64) : MS := if mI z 19 a = nI r ∧ mI z 20 a = 0 ∧ ¬ (mI z 21 a >>> (nI k &&& 31) &&& 1) = 1 then (if mBits 9 (mAns z a k) 0 0 < mI z 18 (2 * a) then mHear (tI z 21 a (mAns z a k)) a b te ve va else mBegin (mHear (tI z 21 a (mAns z a k)) a b te ve va) a r ch n) else z
theorem mHear_mA (z : MS) (a : Nat) (b te ve : Int32) (va : Int64) : mA (mHear z a b te ve va) = mA z := by unfold mHear; split <;> rfl
theorem mHear_mI {z : MS} {a : Nat} {b te ve : Int32} {va : Int64} {j i : Nat} (h2 : j ≠ 22) (h3 : j ≠ 23) (h4 : j ≠ 24) : mI (mHear z a b te ve va) j i = mI z j i := by
  unfold mHear; split
  · rfl
  · simp only [tI_mI, tJ_mI]; rw [up2_k h4, up2_k h3, up2_k h2]
theorem mHear_mJ {z : MS} {a : Nat} {b te ve : Int32} {va : Int64} {j i : Nat} (h5 : j ≠ 25) : mJ (mHear z a b te ve va) j i = mJ z j i := by
  unfold mHear; split
  · rfl
  · simp only [tI_mJ, tJ_mJ]; rw [up2_k h5]
theorem mHear_23 {z : MS} {a : Nat} {b te ve : Int32} {va : Int64} (h : mI z 23 a = 0 ∨ mI z 23 a = 1) (hte : te = 0 ∨ te = 1) : mI (mHear z a b te ve va) 23 a = 0 ∨ mI (mHear z a b te ve va) 23 a = 1 := by
  unfold mHear; split
  · exact h
  · simp only [tI_mI, tJ_mI]; rw [up2_k (by decide), up2_s]; exact hte
theorem tTail_23 {x : MS} {a : Nat} {f se : Int32} {to : Int64} (h : mI x 23 a = 0 ∨ mI x 23 a = 1) : mI (tTail x a f se to) 23 a = 0 ∨ mI (tTail x a f se to) 23 a = 1 := by
  unfold tTail; split
  · simp only [tI_mI]; rw [up2_s]; exact Or.inr rfl
  · simp only [tI_mI]; rw [up2_k (by decide)]; exact h
theorem mWork_23 {z : MS} {a k : Nat} {v : Int64} (h : mI z 23 a = 0 ∨ mI z 23 a = 1) : mI (mWork z a k v) 23 a = 0 ∨ mI (mWork z a k v) 23 a = 1 := by
  unfold mWork; split <;> first | exact tTail_23 h | exact tTail_23 (by rw [tI_mI, up2_s]; exact Or.inl rfl)
set_option maxHeartbeats 4000000 in
set_option maxRecDepth 100000 in
theorem m7_promised (l : Launch) (D : va_G) (y : Nat → ClassId) (z : MS) (sz : Nat) (n a k r ch : Nat) (b te ve : Int32) (va : Int64) (ha : a < 4) (hk : k < 9) (hr0 : r < 200) (hch7 : ch < 7) (hch : mI z 28 r = nI ch) (hn : mI z 36 0 = nI n) (hn0 : n ≤ 300) (hte : te = 0 ∨ te = 1) (h23 : mI z 23 a = 0 ∨ mI z 23 a = 1) : Met l yX7_promised wsX7_promised ({ frames := 1, cells := 0, slots := 0, locals := 40 }) (va_Pc [.ref (mA z 0 0), .int (nI a), .int (nI k), .int (nI r), .int b, .int te, .int ve, .long va] (mPre D y z sz)) (mQ0 D y z sz (fun u => u = mProm z n a k r ch b te ve va)) 0 0 (mF z sz) := by
  refine Met.ofW (cc := cX7_promised) (maxL := 10) (ret := none) (by decide) rfl ?_
  intro p e s m args below meth c s₁ B hml hv
  obtain ⟨rfl, hsz, hW0, hK⟩ := hv
  have hx := B.exec
  have hb := B.bytes
  have hr := B.returns
  have hts := atoms_spec (ws := wsX7_promised) B.pre
  have hown : s.vm.findClass RX7 = some m.cls := findClass_of_methodNamed B.named
  have hlocks := B.notSynchronized
  subst hsz
  have hW := hW0.self (sz := s.heap.size)
  have hA : ∀ q, s.heap.size ≤ q → mF z s.heap.size q := fun q h => Or.inr h
  have hS : va_S (mF z s.heap.size) s.heap s.heap [] := va_S.rf
  have hl := lv_entry ([.ref (mA z 0 0), .int (nI a), .int (nI k), .int (nI r), .int b, .int te, .int ve, .long va]) (n := 10) (Nat.le_of_ble_eq_true rfl)
  rw [lg_entry_eq]
  generalize (lg_sl ([.ref (mA z 0 0), .int (nI a), .int (nI k), .int (nI r), .int b, .int te, .int ve, .long va]) ++ List.replicate (10 - (lg_sl ([.ref (mA z 0 0), .int (nI a), .int (nI k), .int (nI r), .int b, .int te, .int ve, .long va])).length) Slot.unset).toArray = ls at hl ⊢
  have hl : lv_has ls 10 [(0, .ref (mA z 0 0)), (1, .int (nI a)), (2, .int (nI k)), (3, .int (nI r)), (4, .int b), (5, .int te), (6, .int ve), (7, .long va)] := hl
  have hX7 : ∀ w ∈ wsX70, w ∈ wsX7_promised := by decide +kernel
  have loop9 : ∀ (its t9 v9 set : Int32) (w9 : Int64) (ht9 : t9 = 0 ∨ t9 = 1) (k0 : Nat) (x : MS) (j n0 : Nat) (H : Heap) (locs : List Loc) (ls : Array Slot), j + k0 = 9 → mI x 36 0 = nI n0 → n0 ≤ 300 → mI x 17 (2 * a + 1) = set → mI x 30 r = its → mI x 23 a = t9 → mI x 24 a = v9 → mJ x 25 a = w9 → mSet k0 x j n0 (2 : Int32) (nI a) (nI r) its t9 v9 w9 set = mProm z n a k r ch b te ve va → mw D y (mF z s.heap.size) x H → va_S (mF z s.heap.size) s.heap H locs → lv_has ls 10 [(9, .int (nI j)), (0, .ref (mA x 0 0)), (1, .int (nI a)), (3, .int (nI r))] → W p l e (headSpec wsX7_promised { frames := 1, cells := 0, slots := 0, locals := 40 }).room s m #[.ref (mA z 0 0), .int (nI a), .int (nI k), .int (nI r), .int b, .int te, .int ve, .long va] below meth c H locs 0 0 (MQ below (mQ0 D y z s.heap.size (fun u => u = mProm z n a k r ch b te ve va)) #[.ref (mA z 0 0), .int (nI a), .int (nI k), .int (nI r), .int b, .int te, .int ve, .long va] s 0 0 (mF z s.heap.size)) (F0 m 131 ls []) := by
    intro its t9 v9 set w9 ht9
    have loop : ∀ (k0 : Nat) (x : MS) (j n0 : Nat) (H : Heap) (locs : List Loc) (ls : Array Slot), j + k0 = 9 → mI x 36 0 = nI n0 → n0 ≤ 300 → mI x 17 (2 * a + 1) = set → mI x 30 r = its → mI x 23 a = t9 → mI x 24 a = v9 → mJ x 25 a = w9 → mSet k0 x j n0 (2 : Int32) (nI a) (nI r) its t9 v9 w9 set = mProm z n a k r ch b te ve va → mw D y (mF z s.heap.size) x H → va_S (mF z s.heap.size) s.heap H locs → lv_has ls 10 [(9, .int (nI j)), (0, .ref (mA x 0 0)), (1, .int (nI a)), (3, .int (nI r))] → W p l e (headSpec wsX7_promised { frames := 1, cells := 0, slots := 0, locals := 40 }).room s m #[.ref (mA z 0 0), .int (nI a), .int (nI k), .int (nI r), .int b, .int te, .int ve, .long va] below meth c H locs 0 0 (MQ below (mQ0 D y z s.heap.size (fun u => u = mProm z n a k r ch b te ve va)) #[.ref (mA z 0 0), .int (nI a), .int (nI k), .int (nI r), .int b, .int te, .int ve, .long va] s 0 0 (mF z s.heap.size)) (F0 m 131 ls []) := by
      intro k0
      induction k0 with
      | zero =>
        intro x j n0 H locs ls hj h36 hn3 h17 h30 h23x h24x h25x hf hW hS hl
        refine lv_iload hx hb dX7_promised_131 (lv_at hl 0 rfl) ?_
        refine lv_bipush (v := 9) hx hb dX7_promised_133 (by decide) ?_
        refine lv_icmp_ge (tgt := 196) hx hb dX7_promised_135 (by decide) (fun _ => ?_) (fun c_135 => absurd (show (9 : Int32) ≤ nI j from nI_le (a := 9) (by omega) (by omega)) c_135)
        refine W.vret hx hb hr ?_ hS.2.2 dX7_promised_196
        refine mq0 ?_ hW hS
        exact hf
      | succ k0 ih =>
        intro x j n0 H locs ls hj h36 hn3 h17 h30 h23x h24x h25x hf hW hS hl
        refine lv_iload hx hb dX7_promised_131 (lv_at hl 0 rfl) ?_
        refine lv_bipush (v := 9) hx hb dX7_promised_133 (by decide) ?_
        refine lv_icmp_ge (tgt := 196) hx hb dX7_promised_135 (by decide) (fun c_135 => absurd c_135 (show ¬ (9 : Int32) ≤ nI j from nI_ge (b := 9) (by omega) (by decide))) (fun _ => ?_)
        refine lv_aload_n hx hb dX7_promised_138 rfl (lv_at hl 1 rfl) ?_
        refine gM 18 hx hb hts hX7 hown hK.1 hW rfl (by decide) rfl (hts (.fieldLink RX7 63 "SharedRegistersModel" "nowSet" "[I") (by decide +kernel)) rfl dX7_promised_139 ?_
        refine lv_iconst (v := 2) hx hb dX7_promised_142 (by decide) ?_
        refine lv_iload_n hx hb dX7_promised_143 rfl (lv_at hl 2 rfl) ?_
        refine lv_imul hx hb dX7_promised_144 ?_
        rw [show (2 : Int32) * nI a = nI (2 * a) from pk_mul 2 _]
        refine lv_iconst (v := 1) hx hb dX7_promised_145 (by decide) ?_
        refine lv_iadd hx hb dX7_promised_146 ?_
        rw [show nI (2 * a) + 1 = nI (2 * a + 1) from nI_1 _]
        refine mil_n 17 hx hb hK.1 hW rfl (by decide) rfl (show _ < 8 by omega) (by decide) dX7_promised_147 ?_
        rw [show mI x 17 (2 * a + 1) = set from h17]
        refine lv_iload hx hb dX7_promised_148 (lv_at hl 0 rfl) ?_
        refine lv_ishr hx hb dX7_promised_150 ?_
        refine lv_iconst (v := 1) hx hb dX7_promised_151 (by decide) ?_
        refine lv_iand hx hb dX7_promised_152 ?_
        refine lv_iconst (v := 1) hx hb dX7_promised_153 (by decide) ?_
        refine lv_icmp_ne (tgt := 190) hx hb dX7_promised_154 (by decide) (fun c_154 => ?_) (fun c_154 => ?_)
        · refine lv_iinc (v := nI (j + 1)) (lv' := [(9, _), (0, _), (1, _), (3, _)]) hx hb dX7_promised_190 hl (k := 0) rfl (nI_1 _) (by decide) rfl (fun ls hl => ?_)
          refine lv_goto (tgt := 131) hx hb dX7_promised_193 (by decide) ?_
          exact ih x (j + 1) n0 _ _ ls (by omega) h36 hn3 h17 h30 h23x h24x h25x (by rw [← hf, mSet, if_neg c_154]) hW hS (lv_sub hl [0, 1, 2, 3] rfl)
        · refine lv_aload_n hx hb dX7_promised_157 rfl (lv_at hl 1 rfl) ?_
          refine lv_iconst (v := 2) hx hb dX7_promised_158 (by decide) ?_
          refine lv_iload_n hx hb dX7_promised_159 rfl (lv_at hl 2 rfl) ?_
          refine lv_iload hx hb dX7_promised_160 (lv_at hl 0 rfl) ?_
          refine lv_iload_n hx hb dX7_promised_162 rfl (lv_at hl 3 rfl) ?_
          refine lv_aload_n hx hb dX7_promised_163 rfl (lv_at hl 1 rfl) ?_
          refine gM 32 hx hb hts hX7 hown hK.1 hW rfl (by decide) rfl (hts (.fieldLink RX7 102 "SharedRegistersModel" "its" "[I") (by decide +kernel)) rfl dX7_promised_164 ?_
          refine lv_iload_n hx hb dX7_promised_167 rfl (lv_at hl 3 rfl) ?_
          refine mil_n 30 hx hb hK.1 hW rfl (by decide) rfl (show _ < 200 by omega) (by decide) dX7_promised_168 ?_
          rw [show mI x 30 r = its from h30]
          refine lv_aload_n hx hb dX7_promised_169 rfl (lv_at hl 1 rfl) ?_
          refine gM 24 hx hb hts hX7 hown hK.1 hW rfl (by decide) rfl (hts (.fieldLink RX7 81 "SharedRegistersModel" "has" "[Z") (by decide +kernel)) rfl dX7_promised_170 ?_
          refine lv_iload_n hx hb dX7_promised_173 rfl (lv_at hl 2 rfl) ?_
          refine mzl_n 23 hx hb hK.1 hW rfl (by decide) rfl (show _ < 4 by omega) (by decide) dX7_promised_174 ?_
          rw [show mI x 23 a = t9 from h23x]
          refine lv_aload_n hx hb dX7_promised_175 rfl (lv_at hl 1 rfl) ?_
          refine gM 25 hx hb hts hX7 hown hK.1 hW rfl (by decide) rfl (hts (.fieldLink RX7 84 "SharedRegistersModel" "hasVersion" "[I") (by decide +kernel)) rfl dX7_promised_176 ?_
          refine lv_iload_n hx hb dX7_promised_179 rfl (lv_at hl 2 rfl) ?_
          refine mil_n 24 hx hb hK.1 hW rfl (by decide) rfl (show _ < 4 by omega) (by decide) dX7_promised_180 ?_
          rw [show mI x 24 a = v9 from h24x]
          refine lv_aload_n hx hb dX7_promised_181 rfl (lv_at hl 1 rfl) ?_
          refine gM 26 hx hb hts hX7 hown hK.1 hW rfl (by decide) rfl (hts (.fieldLink RX7 87 "SharedRegistersModel" "hasValue" "[J") (by decide +kernel)) rfl dX7_promised_182 ?_
          refine lv_iload_n hx hb dX7_promised_185 rfl (lv_at hl 2 rfl) ?_
          refine mll_n 25 hx hb hK.1 hW rfl (by decide) rfl (show _ < 4 by omega) (by decide) dX7_promised_186 ?_
          rw [show mJ x 25 a = w9 from h25x]
          refine mc0 (va_runV (As := [.int 2, .int (nI a), .int (nI j), .int (nI r), .int its, .int t9, .int v9, .long w9]) (rest := []) ⟨hx, hb, hml, hown, hts⟩ (m7_send l D y x _ n0 2 (nI a) (nI j) (nI r) its t9 v9 w9 h36 hn3 ht9) (cwV 8 hts gX7_promised_X7_send rfl rfl rfl (by decide +kernel) ⟨Nat.le_of_ble_eq_true rfl, Nat.le_of_ble_eq_true rfl⟩) (mPreV (k := 0) (q := (RX7, TX7, 39)) hW hK (show 0 < 1 from Nat.zero_lt_one) rfl rfl [.int 2, .int (nI a), .int (nI j), .int (nI r), .int its, .int t9, .int v9, .long w9]) rfl rfl hl.1 rfl (lv_room (Nat.le_of_ble_eq_true rfl)) dX7_promised_187 ⟨Nat.le_of_ble_eq_true rfl, Nat.le_of_ble_eq_true rfl⟩) hW hS hA (fun u187 H locs hu187 hW hS => ?_)
          subst hu187
          refine lv_iinc (v := nI (j + 1)) (lv' := [(9, _), (0, _), (1, _), (3, _)]) hx hb dX7_promised_190 hl (k := 0) rfl (nI_1 _) (by decide) rfl (fun ls hl => ?_)
          refine lv_goto (tgt := 131) hx hb dX7_promised_193 (by decide) ?_
          exact ih _ (j + 1) (nxt n0) _ _ ls (by omega) (mSend_36 h36) (nxt_le hn3) (by rw [mSend_mI (by decide) (by decide)]; exact h17) (by rw [mSend_mI (by decide) (by decide)]; exact h30) (by rw [mSend_mI (by decide) (by decide)]; exact h23x) (by rw [mSend_mI (by decide) (by decide)]; exact h24x) (by rw [mSend_mJ (by decide)]; exact h25x) (by rw [← hf, mSet, if_pos c_154]) hW hS (by rw [mSend_mA]; exact lv_sub hl [0, 1, 2, 3] rfl)
    exact loop
  have rest9 : ∀ (H : Heap) (locs : List Loc) (ls : Array Slot), mI z 19 a = nI r ∧ mI z 20 a = 0 ∧ ¬ (mI z 21 a >>> (nI k &&& 31) &&& 1) = 1 → mw D y (mF z s.heap.size) (mHear (tI z 21 a (mAns z a k)) a b te ve va) H → va_S (mF z s.heap.size) s.heap H locs → lv_has ls 10 [(0, .ref (mA z 0 0)), (1, .int (nI a)), (2, .int (nI k)), (3, .int (nI r))] → W p l e (headSpec wsX7_promised { frames := 1, cells := 0, slots := 0, locals := 40 }).room s m #[.ref (mA z 0 0), .int (nI a), .int (nI k), .int (nI r), .int b, .int te, .int ve, .long va] below meth c H locs 0 0 (MQ below (mQ0 D y z s.heap.size (fun u => u = mProm z n a k r ch b te ve va)) #[.ref (mA z 0 0), .int (nI a), .int (nI k), .int (nI r), .int b, .int te, .int ve, .long va] s 0 0 (mF z s.heap.size)) (F0 m 89 ls []) := by
    intro H locs ls hcnd hW hS hl
    generalize hzh : (mHear (tI z 21 a (mAns z a k)) a b te ve va) = zh at hW
    have hA9 : mA zh = mA z := by rw [← hzh, mHear_mA]; rfl
    have h21 : mI zh 21 a = mAns z a k := by rw [← hzh, mHear_mI (by decide) (by decide) (by decide), tI_mI, up2_s]
    have h18 : mI zh 18 (2 * a) = mI z 18 (2 * a) := by rw [← hzh, mHear_mI (by decide) (by decide) (by decide), tI_mI, up2_k (by decide)]
    have h19 : mI zh 19 a = nI r := by rw [← hzh, mHear_mI (by decide) (by decide) (by decide), tI_mI, up2_k (by decide)]; exact hcnd.1
    have h28 : mI zh 28 r = nI ch := by rw [← hzh, mHear_mI (by decide) (by decide) (by decide), tI_mI, up2_k (by decide)]; exact hch
    have h36 : mI zh 36 0 = nI n := by rw [← hzh, mHear_mI (by decide) (by decide) (by decide), tI_mI, up2_k (by decide)]; exact hn
    have h23z : mI zh 23 a = 0 ∨ mI zh 23 a = 1 := by rw [← hzh]; exact mHear_23 (by rw [tI_mI, up2_k (by decide)]; exact h23) hte
    rw [← hA9] at hl
    refine lv_aload_n hx hb dX7_promised_89 rfl (lv_at hl 0 rfl) ?_
    refine gM 22 hx hb hts hX7 hown hK.1 hW rfl (by decide) rfl (hts (.fieldLink RX7 75 "SharedRegistersModel" "answered" "[I") (by decide +kernel)) rfl dX7_promised_90 ?_
    refine lv_iload_n hx hb dX7_promised_93 rfl (lv_at hl 1 rfl) ?_
    refine mil_n 21 hx hb hK.1 hW rfl (by decide) rfl (show _ < 4 by omega) (by decide) dX7_promised_94 ?_
    rw [show mI zh 21 a = mAns z a k from h21]
    refine mc1 (va_runS (As := [.int (mAns z a k)]) (rest := []) ⟨hx, hb, hml, hown, hts⟩ (m7_bits l D y zh _ (mAns z a k)) (va_cwS 1 hts gX7_promised_X7_bits rfl rfl rfl (by decide +kernel) ⟨Nat.le_of_ble_eq_true rfl, Nat.le_of_ble_eq_true rfl⟩) (mPreS hW hK [.int (mAns z a k)]) rfl rfl hl.1 rfl (lv_room (Nat.le_of_ble_eq_true rfl)) dX7_promised_95 ⟨Nat.le_of_ble_eq_true rfl, Nat.le_of_ble_eq_true rfl⟩) hW hS hA (fun v95 u95 H locs hu95 hW hS => ?_)
    obtain ⟨rfl, f95⟩ := hu95
    replace f95 := f95.symm
    subst f95
    refine lv_aload_n hx hb dX7_promised_98 rfl (lv_at hl 0 rfl) ?_
    refine gM 19 hx hb hts hX7 hown hK.1 hW rfl (by decide) rfl (hts (.fieldLink RX7 66 "SharedRegistersModel" "nowEnough" "[I") (by decide +kernel)) rfl dX7_promised_99 ?_
    refine lv_iconst (v := 2) hx hb dX7_promised_102 (by decide) ?_
    refine lv_iload_n hx hb dX7_promised_103 rfl (lv_at hl 1 rfl) ?_
    refine lv_imul hx hb dX7_promised_104 ?_
    rw [show (2 : Int32) * nI a = nI (2 * a) from pk_mul 2 _]
    refine mil_n 18 hx hb hK.1 hW rfl (by decide) rfl (show _ < 8 by omega) (by decide) dX7_promised_105 ?_
    rw [show mI zh 18 (2 * a) = mI z 18 (2 * a) from h18]
    refine lv_icmp_lt (tgt := 196) hx hb dX7_promised_106 (by decide) (fun c_106 => ?_) (fun c_106 => ?_)
    · refine W.vret hx hb hr ?_ hS.2.2 dX7_promised_196
      refine mq0 ?_ hW hS
      exact (by unfold mProm; rw [if_pos hcnd, if_pos c_106, hzh])
    · refine lv_aload_n hx hb dX7_promised_109 rfl (lv_at hl 0 rfl) ?_
      refine lv_iload_n hx hb dX7_promised_110 rfl (lv_at hl 1 rfl) ?_
      refine mc0 (va_runV (As := [.int (nI a)]) (rest := []) ⟨hx, hb, hml, hown, hts⟩ (m7_work l D y zh _ a r ch ha hr0 hch7 h19 h28 h23z) (cwV 1 hts gX7_promised_X7_work rfl rfl rfl (by decide +kernel) ⟨Nat.le_of_ble_eq_true rfl, Nat.le_of_ble_eq_true rfl⟩) (mPreV (k := 0) (q := (RX7, TX7, 39)) hW hK (show 0 < 1 from Nat.zero_lt_one) rfl rfl [.int (nI a)]) rfl rfl hl.1 rfl (lv_room (Nat.le_of_ble_eq_true rfl)) dX7_promised_111 ⟨Nat.le_of_ble_eq_true rfl, Nat.le_of_ble_eq_true rfl⟩) hW hS hA (fun u111 H locs hu111 hW hS => ?_)
      have hA111 : mA u111 = mA zh := by rw [hu111, mWork_mA]
      rw [← hA111] at hl
      have h36w : mI u111 36 0 = nI n := by rw [hu111, mWork_mI (by decide) (by decide) (by decide)]; exact h36
      have h23w : mI u111 23 a = 0 ∨ mI u111 23 a = 1 := by rw [hu111]; exact mWork_23 h23z
      have h30w : mI u111 30 r = mI zh 30 r := by rw [hu111, mWork_mI (by decide) (by decide) (by decide)]
      have h17w : mI u111 17 (2 * a + 1) = mI zh 17 (2 * a + 1) := by rw [hu111, mWork_mI (by decide) (by decide) (by decide)]
      refine lv_aload_n hx hb dX7_promised_114 rfl (lv_at hl 0 rfl) ?_
      refine gM 21 hx hb hts hX7 hown hK.1 hW rfl (by decide) rfl (hts (.fieldLink RX7 72 "SharedRegistersModel" "accepting" "[Z") (by decide +kernel)) rfl dX7_promised_115 ?_
      refine lv_iload_n hx hb dX7_promised_118 rfl (lv_at hl 1 rfl) ?_
      refine lv_iconst (v := 1) hx hb dX7_promised_119 (by decide) ?_
      refine mzs_n 20 hx hb hK.1 hW hS rfl (by decide) rfl (show _ < 4 by omega) (by decide) (by first | exact Or.inl rfl | exact Or.inr rfl | assumption) dX7_promised_120 (fun H locs hW hS => ?_)
      refine lv_aload_n hx hb dX7_promised_121 rfl (lv_at hl 0 rfl) ?_
      refine gM 22 hx hb hts hX7 hown hK.1 hW (by simp only [tI_mA, tJ_mA]) (by decide) rfl (hts (.fieldLink RX7 75 "SharedRegistersModel" "answered" "[I") (by decide +kernel)) rfl dX7_promised_122 ?_
      refine lv_iload_n hx hb dX7_promised_125 rfl (lv_at hl 1 rfl) ?_
      refine lv_iconst (v := 0) hx hb dX7_promised_126 (by decide) ?_
      refine mis_n 21 hx hb hK.1 hW hS (by simp only [tI_mA, tJ_mA]) (by decide) rfl (show _ < 4 by omega) (by decide) dX7_promised_127 (fun H locs hW hS => ?_)
      refine lv_iconst (v := 0) hx hb dX7_promised_128 (by decide) ?_
      refine lv_istore (lv' := [(9, _), (0, _), (1, _), (2, _), (3, _)]) hx hb dX7_promised_129 hl (by decide) rfl (fun ls hl => ?_)
      exact loop9 (mI zh 30 r) (mI u111 23 a) (mI u111 24 a) (mI zh 17 (2 * a + 1)) (mJ u111 25 a) h23w 9 (tI (tI u111 20 a 1) 21 a 0) 0 n _ _ ls (by omega) (by simp only [tI_mI]; rw [up2_k (by decide), up2_k (by decide)]; exact h36w) hn0 (by simp only [tI_mI]; rw [up2_k (by decide), up2_k (by decide)]; exact h17w) (by simp only [tI_mI]; rw [up2_k (by decide), up2_k (by decide)]; exact h30w) (by simp only [tI_mI]; rw [up2_k (by decide), up2_k (by decide)]) (by simp only [tI_mI]; rw [up2_k (by decide), up2_k (by decide)]) rfl (by unfold mProm; rw [if_pos hcnd, if_neg c_106, hzh, mBegin, hu111]) hW hS (lv_sub hl [0, 1, 2, 4] rfl)
  refine lv_aload_n hx hb dX7_promised_0 rfl (lv_at hl 0 rfl) ?_
  refine gM 20 hx hb hts hX7 hown hK.1 hW rfl (by decide) rfl (hts (.fieldLink RX7 69 "SharedRegistersModel" "now" "[I") (by decide +kernel)) rfl dX7_promised_1 ?_
  refine lv_iload_n hx hb dX7_promised_4 rfl (lv_at hl 1 rfl) ?_
  refine mil_n 19 hx hb hK.1 hW rfl (by decide) rfl (show _ < 4 by omega) (by decide) dX7_promised_5 ?_
  refine lv_iload_n hx hb dX7_promised_6 rfl (lv_at hl 3 rfl) ?_
  refine lv_icmp_ne (tgt := 33) hx hb dX7_promised_7 (by decide) (fun c_7 => ?_) (fun c_7 => ?_)
  · refine W.vret hx hb hr ?_ hS.2.2 dX7_promised_33
    refine mq0 ?_ hW hS
    exact (by unfold mProm; rw [if_neg (fun h9 => c_7 h9.1)])
  · refine lv_aload_n hx hb dX7_promised_10 rfl (lv_at hl 0 rfl) ?_
    refine gM 21 hx hb hts hX7 hown hK.1 hW rfl (by decide) rfl (hts (.fieldLink RX7 72 "SharedRegistersModel" "accepting" "[Z") (by decide +kernel)) rfl dX7_promised_11 ?_
    refine lv_iload_n hx hb dX7_promised_14 rfl (lv_at hl 1 rfl) ?_
    refine mzl_n 20 hx hb hK.1 hW rfl (by decide) rfl (show _ < 4 by omega) (by decide) dX7_promised_15 ?_
    refine lv_if_ne (tgt := 33) hx hb dX7_promised_16 (by decide) (fun c_16 => ?_) (fun c_16 => ?_)
    · refine W.vret hx hb hr ?_ hS.2.2 dX7_promised_33
      refine mq0 ?_ hW hS
      exact (by unfold mProm; rw [if_neg (fun h9 => c_16 h9.2.1)])
    · refine lv_aload_n hx hb dX7_promised_19 rfl (lv_at hl 0 rfl) ?_
      refine gM 22 hx hb hts hX7 hown hK.1 hW rfl (by decide) rfl (hts (.fieldLink RX7 75 "SharedRegistersModel" "answered" "[I") (by decide +kernel)) rfl dX7_promised_20 ?_
      refine lv_iload_n hx hb dX7_promised_23 rfl (lv_at hl 1 rfl) ?_
      refine mil_n 21 hx hb hK.1 hW rfl (by decide) rfl (show _ < 4 by omega) (by decide) dX7_promised_24 ?_
      refine lv_iload_n hx hb dX7_promised_25 rfl (lv_at hl 2 rfl) ?_
      refine lv_ishr hx hb dX7_promised_26 ?_
      refine lv_iconst (v := 1) hx hb dX7_promised_27 (by decide) ?_
      refine lv_iand hx hb dX7_promised_28 ?_
      refine lv_iconst (v := 1) hx hb dX7_promised_29 (by decide) ?_
      refine lv_icmp_ne (tgt := 34) hx hb dX7_promised_30 (by decide) (fun c_30 => ?_) (fun c_30 => ?_)
      · refine lv_aload_n hx hb dX7_promised_34 rfl (lv_at hl 0 rfl) ?_
        refine gM 22 hx hb hts hX7 hown hK.1 hW rfl (by decide) rfl (hts (.fieldLink RX7 75 "SharedRegistersModel" "answered" "[I") (by decide +kernel)) rfl dX7_promised_35 ?_
        refine lv_iload_n hx hb dX7_promised_38 rfl (lv_at hl 1 rfl) ?_
        refine lv_dup2_11 hx hb dX7_promised_39 rfl rfl ?_
        refine mil_n 21 hx hb hK.1 hW rfl (by decide) rfl (show _ < 4 by omega) (by decide) dX7_promised_40 ?_
        refine lv_iconst (v := 1) hx hb dX7_promised_41 (by decide) ?_
        refine lv_iload_n hx hb dX7_promised_42 rfl (lv_at hl 2 rfl) ?_
        refine lv_ishl hx hb dX7_promised_43 ?_
        refine lv_ior hx hb dX7_promised_44 ?_
        rw [show (mI z 21 a ||| (1 <<< (nI k &&& 31))) = mAns z a k from rfl]
        refine mis_n 21 hx hb hK.1 hW hS rfl (by decide) rfl (show _ < 4 by omega) (by decide) dX7_promised_45 (fun H locs hW hS => ?_)
        refine lv_iload hx hb dX7_promised_46 (lv_at hl 4 rfl) ?_
        refine lv_aload_n hx hb dX7_promised_48 rfl (lv_at hl 0 rfl) ?_
        refine gM 23 hx hb hts hX7 hown hK.1 hW (by simp only [tI_mA, tJ_mA]) (by decide) rfl (hts (.fieldLink RX7 78 "SharedRegistersModel" "best" "[I") (by decide +kernel)) rfl dX7_promised_49 ?_
        refine lv_iload_n hx hb dX7_promised_52 rfl (lv_at hl 1 rfl) ?_
        refine mil_n 22 hx hb hK.1 hW (by simp only [tI_mA, tJ_mA]) (by decide) rfl (show _ < 4 by omega) (by decide) dX7_promised_53 ?_
        rw [show mI (tI z 21 a (mAns z a k)) 22 a = mI z 22 a from by simp [tI_mI, tJ_mI, tI_mJ, tJ_mJ, up2]]
        refine lv_icmp_le (tgt := 89) hx hb dX7_promised_54 (by decide) (fun c_54 => ?_) (fun c_54 => ?_)
        · have hW : mw D y (mF z s.heap.size) (mHear (tI z 21 a (mAns z a k)) a b te ve va) H := by unfold mHear; rw [if_pos (show b ≤ mI (tI z 21 a (mAns z a k)) 22 a from c_54)]; exact hW
          exact rest9 _ _ ls ⟨c_7, c_16, c_30⟩ hW hS (lv_sub hl [0, 1, 2, 3] rfl)
        · refine lv_aload_n hx hb dX7_promised_57 rfl (lv_at hl 0 rfl) ?_
          refine gM 23 hx hb hts hX7 hown hK.1 hW (by simp only [tI_mA, tJ_mA]) (by decide) rfl (hts (.fieldLink RX7 78 "SharedRegistersModel" "best" "[I") (by decide +kernel)) rfl dX7_promised_58 ?_
          refine lv_iload_n hx hb dX7_promised_61 rfl (lv_at hl 1 rfl) ?_
          refine lv_iload hx hb dX7_promised_62 (lv_at hl 4 rfl) ?_
          refine mis_n 22 hx hb hK.1 hW hS (by simp only [tI_mA, tJ_mA]) (by decide) rfl (show _ < 4 by omega) (by decide) dX7_promised_64 (fun H locs hW hS => ?_)
          refine lv_aload_n hx hb dX7_promised_65 rfl (lv_at hl 0 rfl) ?_
          refine gM 24 hx hb hts hX7 hown hK.1 hW (by simp only [tI_mA, tJ_mA]) (by decide) rfl (hts (.fieldLink RX7 81 "SharedRegistersModel" "has" "[Z") (by decide +kernel)) rfl dX7_promised_66 ?_
          refine lv_iload_n hx hb dX7_promised_69 rfl (lv_at hl 1 rfl) ?_
          refine lv_iload hx hb dX7_promised_70 (lv_at hl 5 rfl) ?_
          refine mzs_n 23 hx hb hK.1 hW hS (by simp only [tI_mA, tJ_mA]) (by decide) rfl (show _ < 4 by omega) (by decide) (by first | exact Or.inl rfl | exact Or.inr rfl | assumption) dX7_promised_72 (fun H locs hW hS => ?_)
          refine lv_aload_n hx hb dX7_promised_73 rfl (lv_at hl 0 rfl) ?_
          refine gM 25 hx hb hts hX7 hown hK.1 hW (by simp only [tI_mA, tJ_mA]) (by decide) rfl (hts (.fieldLink RX7 84 "SharedRegistersModel" "hasVersion" "[I") (by decide +kernel)) rfl dX7_promised_74 ?_
          refine lv_iload_n hx hb dX7_promised_77 rfl (lv_at hl 1 rfl) ?_
          refine lv_iload hx hb dX7_promised_78 (lv_at hl 6 rfl) ?_
          refine mis_n 24 hx hb hK.1 hW hS (by simp only [tI_mA, tJ_mA]) (by decide) rfl (show _ < 4 by omega) (by decide) dX7_promised_80 (fun H locs hW hS => ?_)
          refine lv_aload_n hx hb dX7_promised_81 rfl (lv_at hl 0 rfl) ?_
          refine gM 26 hx hb hts hX7 hown hK.1 hW (by simp only [tI_mA, tJ_mA]) (by decide) rfl (hts (.fieldLink RX7 87 "SharedRegistersModel" "hasValue" "[J") (by decide +kernel)) rfl dX7_promised_82 ?_
          refine lv_iload_n hx hb dX7_promised_85 rfl (lv_at hl 1 rfl) ?_
          refine lv_lload hx hb dX7_promised_86 (lv_at hl 7 rfl) ?_
          refine mls_n 25 hx hb hK.1 hW hS (by simp only [tI_mA, tJ_mA]) (by decide) rfl (show _ < 4 by omega) (by decide) dX7_promised_88 (fun H locs hW hS => ?_)
          have hW : mw D y (mF z s.heap.size) (mHear (tI z 21 a (mAns z a k)) a b te ve va) H := by unfold mHear; rw [if_neg (show ¬ b ≤ mI (tI z 21 a (mAns z a k)) 22 a from c_54)]; exact hW
          exact rest9 _ _ ls ⟨c_7, c_16, c_30⟩ hW hS (lv_sub hl [0, 1, 2, 3] rfl)
      · refine W.vret hx hb hr ?_ hS.2.2 dX7_promised_33
        refine mq0 ?_ hW hS
        exact (by unfold mProm; rw [if_neg (fun h9 => h9.2.2 c_30)])
