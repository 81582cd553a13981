/-- the end of work: f: it fails; se: it sets; to: the value -/
def tTail (x : MS) (a : Nat) (f se : Int32) (to : Int64) : MS := if ¬ se = 0 ∧ f = 0 then tI (tJ (tI (tI x 26 a f) 24 a (if mI x 23 a = 0 then 1 else mI x 24 a + 1)) 25 a to) 23 a 1 else tI x 26 a f
def mWork (z : MS) (a k : Nat) (v : Int64) : MS := match k with
  | 0 => tTail z a 0 0 v
  | 1 => tTail z a (mI z 23 a) 1 v
  | 2 => tTail z a 0 1 v
  | 3 => tTail z a (if mI z 23 a = 0 ∨ ¬ mI z 24 a = hiW v then 1 else 0) 1 v.toInt32.toInt64
  | 4 => tTail z a 0 1 (if mI z 23 a = 0 then v else mJ z 25 a + v)
  | 5 => tTail (tI z 23 a 0) a (if mI z 23 a = 0 then 1 else 0) 0 v
  | _ => tTail z a (if mI z 23 a = 0 ∨ mJ z 25 a < v then 0 else 1) 1 v
theorem tTail_mA (x : MS) (a : Nat) (f se : Int32) (to : Int64) : mA (tTail x a f se to) = mA x := by unfold tTail; split <;> rfl
theorem mWork_mA (z : MS) (a k : Nat) (v : Int64) : mA (mWork z a k v) = mA z := by unfold mWork; split <;> rw [tTail_mA]; rfl
theorem tTail_mI {x : MS} {a : Nat} {f se : Int32} {to : Int64} {j i : Nat} (h3 : j ≠ 23) (h4 : j ≠ 24) (h6 : j ≠ 26) : mI (tTail x a f se to) j i = mI x j i := by
  unfold tTail; split
  · simp only [tI_mI, tJ_mI]; rw [up2_k h3, up2_k h4, up2_k h6]
  · simp only [tI_mI]; rw [up2_k h6]
theorem mWork_mI {z : MS} {a k : Nat} {v : Int64} {j i : Nat} (h3 : j ≠ 23) (h4 : j ≠ 24) (h6 : j ≠ 26) : mI (mWork z a k v) j i = mI z j i := by
  unfold mWork; split <;> rw [tTail_mI h3 h4 h6]
  rw [tI_mI, up2_k h3]
set_option maxHeartbeats 4000000 in
set_option maxRecDepth 100000 in
theorem m7_work (l : Launch) (D : va_G) (y : Nat → ClassId) (z : MS) (sz : Nat) (a r k : Nat) (ha : a < 4) (hr0 : r < 200) (hk : k < 7) (hr19 : mI z 19 a = nI r) (hk28 : mI z 28 r = nI k) (h23 : mI z 23 a = 0 ∨ mI z 23 a = 1) : Met l yX7_work wsX7_work ({ frames := 0, cells := 0, slots := 0, locals := 0 }) (va_Pc [.ref (mA z 0 0), .int (nI a)] (mPre D y z sz)) (mQ0 D y z sz (fun u => u = mWork z a k (mJ z 29 r))) 0 0 (mF z sz) := by
  refine Met.ofW (cc := cX7_work) (maxL := 9) (ret := none) (by decide) rfl ?_
  intro p e s m args below meth c s₁ B hml hv
  obtain ⟨rfl, hsz, hW0, hK⟩ := hv
  have hx := B.exec
  have hb := B.bytes
  have hr := B.returns
  have hts := atoms_spec (ws := wsX7_work) B.pre
  have hown : s.vm.findClass RX7 = some m.cls := findClass_of_methodNamed B.named
  have hlocks := B.notSynchronized
  subst hsz
  have hW := hW0.self (sz := s.heap.size)
  have hA : ∀ q, s.heap.size ≤ q → mF z s.heap.size q := fun q h => Or.inr h
  have hS : va_S (mF z s.heap.size) s.heap s.heap [] := va_S.rf
  have hl := lv_entry ([.ref (mA z 0 0), .int (nI a)]) (n := 9) (Nat.le_of_ble_eq_true rfl)
  rw [lg_entry_eq]
  generalize (lg_sl ([.ref (mA z 0 0), .int (nI a)]) ++ List.replicate (9 - (lg_sl ([.ref (mA z 0 0), .int (nI a)])).length) Slot.unset).toArray = ls at hl ⊢
  have hl : lv_has ls 9 [(0, .ref (mA z 0 0)), (1, .int (nI a))] := hl
  have hX7 : ∀ w ∈ wsX70, w ∈ wsX7_work := by decide +kernel
  have tail : ∀ (f se : Int32) (to : Int64) (x : MS) (H : Heap) (locs : List Loc) (ls : Array Slot), (f = 0 ∨ f = 1) → tTail x a f se to = mWork z a k (mJ z 29 r) → mw D y (mF z s.heap.size) x H → va_S (mF z s.heap.size) s.heap H locs → lv_has ls 9 [(0, .ref (mA x 0 0)), (1, .int (nI a)), (5, .int f), (6, .int se), (7, .long to)] → W p l e (headSpec wsX7_work { frames := 0, cells := 0, slots := 0, locals := 0 }).room s m #[.ref (mA z 0 0), .int (nI a)] below meth c H locs 0 0 (MQ below (mQ0 D y z s.heap.size (fun u => u = mWork z a k (mJ z 29 r))) #[.ref (mA z 0 0), .int (nI a)] s 0 0 (mF z s.heap.size)) (F0 m 208 ls []) := by
    intro f se to x H locs ls hf hT hW hS hl
    refine lv_aload_n hx hb dX7_work_208 rfl (lv_at hl 0 rfl) ?_
    refine gM 27 hx hb hts hX7 hown hK.1 hW rfl (by decide) rfl (hts (.fieldLink RX7 90 "SharedRegistersModel" "failing" "[Z") (by decide +kernel)) rfl dX7_work_209 ?_
    refine lv_iload_n hx hb dX7_work_212 rfl (lv_at hl 1 rfl) ?_
    refine lv_iload hx hb dX7_work_213 (lv_at hl 2 rfl) ?_
    refine mzs_n 26 hx hb hK.1 hW hS rfl (by decide) rfl (show _ < 4 by omega) (by decide) (by first | exact Or.inl rfl | exact Or.inr rfl | assumption) dX7_work_215 (fun H locs hW hS => ?_)
    refine lv_iload hx hb dX7_work_216 (lv_at hl 3 rfl) ?_
    refine lv_if_eq (tgt := 268) hx hb dX7_work_218 (by decide) (fun c_218 => ?_) (fun c_218 => ?_)
    · refine W.vret hx hb hr ?_ hS.2.2 dX7_work_268
      refine mq0 ?_ hW hS
      exact (by rw [← hT]; unfold tTail; rw [if_neg (fun h9 => h9.1 c_218)])
    · refine lv_iload hx hb dX7_work_221 (lv_at hl 2 rfl) ?_
      refine lv_if_ne (tgt := 268) hx hb dX7_work_223 (by decide) (fun c_223 => ?_) (fun c_223 => ?_)
      · refine W.vret hx hb hr ?_ hS.2.2 dX7_work_268
        refine mq0 ?_ hW hS
        exact (by rw [← hT]; unfold tTail; rw [if_neg (fun h9 => c_223 h9.2)])
      · refine lv_aload_n hx hb dX7_work_226 rfl (lv_at hl 0 rfl) ?_
        refine gM 25 hx hb hts hX7 hown hK.1 hW (by simp only [tI_mA, tJ_mA]) (by decide) rfl (hts (.fieldLink RX7 84 "SharedRegistersModel" "hasVersion" "[I") (by decide +kernel)) rfl dX7_work_227 ?_
        refine lv_iload_n hx hb dX7_work_230 rfl (lv_at hl 1 rfl) ?_
        refine lv_aload_n hx hb dX7_work_231 rfl (lv_at hl 0 rfl) ?_
        refine gM 24 hx hb hts hX7 hown hK.1 hW (by simp only [tI_mA, tJ_mA]) (by decide) rfl (hts (.fieldLink RX7 81 "SharedRegistersModel" "has" "[Z") (by decide +kernel)) rfl dX7_work_232 ?_
        refine lv_iload_n hx hb dX7_work_235 rfl (lv_at hl 1 rfl) ?_
        refine mzl_n 23 hx hb hK.1 hW (by simp only [tI_mA, tJ_mA]) (by decide) rfl (show _ < 4 by omega) (by decide) dX7_work_236 ?_
        rw [show mI (tI x 26 a f) 23 a = mI x 23 a from by simp [tI_mI, tJ_mI, tI_mJ, tJ_mJ, up2]]
        refine lv_if_eq (tgt := 251) hx hb dX7_work_237 (by decide) (fun c_237 => ?_) (fun c_237 => ?_)
        · refine lv_iconst (v := 1) hx hb dX7_work_251 (by decide) ?_
          refine mis_n 24 hx hb hK.1 hW hS (by simp only [tI_mA, tJ_mA]) (by decide) rfl (show _ < 4 by omega) (by decide) dX7_work_252 (fun H locs hW hS => ?_)
          refine lv_aload_n hx hb dX7_work_253 rfl (lv_at hl 0 rfl) ?_
          refine gM 26 hx hb hts hX7 hown hK.1 hW (by simp only [tI_mA, tJ_mA]) (by decide) rfl (hts (.fieldLink RX7 87 "SharedRegistersModel" "hasValue" "[J") (by decide +kernel)) rfl dX7_work_254 ?_
          refine lv_iload_n hx hb dX7_work_257 rfl (lv_at hl 1 rfl) ?_
          refine lv_lload hx hb dX7_work_258 (lv_at hl 4 rfl) ?_
          refine mls_n 25 hx hb hK.1 hW hS (by simp only [tI_mA, tJ_mA]) (by decide) rfl (show _ < 4 by omega) (by decide) dX7_work_260 (fun H locs hW hS => ?_)
          refine lv_aload_n hx hb dX7_work_261 rfl (lv_at hl 0 rfl) ?_
          refine gM 24 hx hb hts hX7 hown hK.1 hW (by simp only [tI_mA, tJ_mA]) (by decide) rfl (hts (.fieldLink RX7 81 "SharedRegistersModel" "has" "[Z") (by decide +kernel)) rfl dX7_work_262 ?_
          refine lv_iload_n hx hb dX7_work_265 rfl (lv_at hl 1 rfl) ?_
          refine lv_iconst (v := 1) hx hb dX7_work_266 (by decide) ?_
          refine mzs_n 23 hx hb hK.1 hW hS (by simp only [tI_mA, tJ_mA]) (by decide) rfl (show _ < 4 by omega) (by decide) (by first | exact Or.inl rfl | exact Or.inr rfl | assumption) dX7_work_267 (fun H locs hW hS => ?_)
          refine W.vret hx hb hr ?_ hS.2.2 dX7_work_268
          refine mq0 ?_ hW hS
          exact (by rw [← hT]; unfold tTail; rw [if_pos ⟨c_218, c_223⟩, if_pos c_237])
        · refine lv_aload_n hx hb dX7_work_240 rfl (lv_at hl 0 rfl) ?_
          refine gM 25 hx hb hts hX7 hown hK.1 hW (by simp only [tI_mA, tJ_mA]) (by decide) rfl (hts (.fieldLink RX7 84 "SharedRegistersModel" "hasVersion" "[I") (by decide +kernel)) rfl dX7_work_241 ?_
          refine lv_iload_n hx hb dX7_work_244 rfl (lv_at hl 1 rfl) ?_
          refine mil_n 24 hx hb hK.1 hW (by simp only [tI_mA, tJ_mA]) (by decide) rfl (show _ < 4 by omega) (by decide) dX7_work_245 ?_
          rw [show mI (tI x 26 a f) 24 a = mI x 24 a from by simp [tI_mI, tJ_mI, tI_mJ, tJ_mJ, up2]]
          refine lv_iconst (v := 1) hx hb dX7_work_246 (by decide) ?_
          refine lv_iadd hx hb dX7_work_247 ?_
          refine lv_goto (tgt := 252) hx hb dX7_work_248 (by decide) ?_
          refine mis_n 24 hx hb hK.1 hW hS (by simp only [tI_mA, tJ_mA]) (by decide) rfl (show _ < 4 by omega) (by decide) dX7_work_252 (fun H locs hW hS => ?_)
          refine lv_aload_n hx hb dX7_work_253 rfl (lv_at hl 0 rfl) ?_
          refine gM 26 hx hb hts hX7 hown hK.1 hW (by simp only [tI_mA, tJ_mA]) (by decide) rfl (hts (.fieldLink RX7 87 "SharedRegistersModel" "hasValue" "[J") (by decide +kernel)) rfl dX7_work_254 ?_
          refine lv_iload_n hx hb dX7_work_257 rfl (lv_at hl 1 rfl) ?_
          refine lv_lload hx hb dX7_work_258 (lv_at hl 4 rfl) ?_
          refine mls_n 25 hx hb hK.1 hW hS (by simp only [tI_mA, tJ_mA]) (by decide) rfl (show _ < 4 by omega) (by decide) dX7_work_260 (fun H locs hW hS => ?_)
          refine lv_aload_n hx hb dX7_work_261 rfl (lv_at hl 0 rfl) ?_
          refine gM 24 hx hb hts hX7 hown hK.1 hW (by simp only [tI_mA, tJ_mA]) (by decide) rfl (hts (.fieldLink RX7 81 "SharedRegistersModel" "has" "[Z") (by decide +kernel)) rfl dX7_work_262 ?_
          refine lv_iload_n hx hb dX7_work_265 rfl (lv_at hl 1 rfl) ?_
          refine lv_iconst (v := 1) hx hb dX7_work_266 (by decide) ?_
          refine mzs_n 23 hx hb hK.1 hW hS (by simp only [tI_mA, tJ_mA]) (by decide) rfl (show _ < 4 by omega) (by decide) (by first | exact Or.inl rfl | exact Or.inr rfl | assumption) dX7_work_267 (fun H locs hW hS => ?_)
          refine W.vret hx hb hr ?_ hS.2.2 dX7_work_268
          refine mq0 ?_ hW hS
          exact (by rw [← hT]; unfold tTail; rw [if_pos ⟨c_218, c_223⟩, if_neg c_237])
  refine lv_aload_n hx hb dX7_work_0 rfl (lv_at hl 0 rfl) ?_
  refine gM 20 hx hb hts hX7 hown hK.1 hW rfl (by decide) rfl (hts (.fieldLink RX7 69 "SharedRegistersModel" "now" "[I") (by decide +kernel)) rfl dX7_work_1 ?_
  refine lv_iload_n hx hb dX7_work_4 rfl (lv_at hl 1 rfl) ?_
  refine mil_n 19 hx hb hK.1 hW rfl (by decide) rfl (show _ < 4 by omega) (by decide) dX7_work_5 ?_
  rw [show mI z 19 a = nI r from hr19]
  refine lv_istore_n (lv' := [(2, _), (0, _), (1, _)]) hx hb dX7_work_6 rfl hl (by decide) rfl (fun ls hl => ?_)
  refine lv_aload_n hx hb dX7_work_7 rfl (lv_at hl 1 rfl) ?_
  refine gM 31 hx hb hts hX7 hown hK.1 hW rfl (by decide) rfl (hts (.fieldLink RX7 99 "SharedRegistersModel" "argument" "[J") (by decide +kernel)) rfl dX7_work_8 ?_
  refine lv_iload_n hx hb dX7_work_11 rfl (lv_at hl 0 rfl) ?_
  refine mll_n 29 hx hb hK.1 hW rfl (by decide) rfl (show _ < 200 by omega) (by decide) dX7_work_12 ?_
  refine lv_lstore_n (lv' := [(3, _), (2, _), (0, _), (1, _)]) hx hb dX7_work_13 rfl hl (by decide) rfl (fun ls hl => ?_)
  refine lv_iconst (v := 0) hx hb dX7_work_14 (by decide) ?_
  refine lv_istore (lv' := [(5, _), (3, _), (2, _), (0, _), (1, _)]) hx hb dX7_work_15 hl (by decide) rfl (fun ls hl => ?_)
  refine lv_iconst (v := 1) hx hb dX7_work_17 (by decide) ?_
  refine lv_istore (lv' := [(6, _), (5, _), (3, _), (2, _), (0, _), (1, _)]) hx hb dX7_work_18 hl (by decide) rfl (fun ls hl => ?_)
  refine lv_lload_n hx hb dX7_work_20 rfl (lv_at hl 2 rfl) ?_
  refine lv_lstore (lv' := [(7, _), (6, _), (5, _), (3, _), (2, _), (0, _), (1, _)]) hx hb dX7_work_21 hl (by decide) rfl (fun ls hl => ?_)
  refine lv_aload_n hx hb dX7_work_23 rfl (lv_at hl 5 rfl) ?_
  refine gM 30 hx hb hts hX7 hown hK.1 hW rfl (by decide) rfl (hts (.fieldLink RX7 96 "SharedRegistersModel" "change" "[I") (by decide +kernel)) rfl dX7_work_24 ?_
  refine lv_iload_n hx hb dX7_work_27 rfl (lv_at hl 4 rfl) ?_
  refine mil_n 28 hx hb hK.1 hW rfl (by decide) rfl (show _ < 200 by omega) (by decide) dX7_work_28 ?_
  rw [show mI z 28 r = nI k from hk28]
  rcases (show k = 0 ∨ k = 1 ∨ k = 2 ∨ k = 3 ∨ k = 4 ∨ k = 5 ∨ k = 6 by omega) with rfl | rfl | rfl | rfl | rfl | rfl | rfl
  · refine lv_tableIn (off := 39) (tgt := 68) hx hb dX7_work_29 (by decide) (by decide) (by decide) (by decide) ?_
    refine lv_iconst (v := 0) hx hb dX7_work_68 (by decide) ?_
    refine lv_istore (lv' := [(6, _), (7, _), (5, _), (3, _), (2, _), (0, _), (1, _)]) hx hb dX7_work_69 hl (by decide) rfl (fun ls hl => ?_)
    refine lv_goto (tgt := 208) hx hb dX7_work_71 (by decide) ?_
    exact tail 0 0 (mJ z 29 r) z _ _ ls (by first | exact Or.inl rfl | exact Or.inr rfl | exact h23) (by simp [mWork]) hW hS (lv_sub hl [5, 6, 2, 0, 1] rfl)
  · refine lv_tableIn (off := 45) (tgt := 74) hx hb dX7_work_29 (by decide) (by decide) (by decide) (by decide) ?_
    refine lv_aload_n hx hb dX7_work_74 rfl (lv_at hl 5 rfl) ?_
    refine gM 24 hx hb hts hX7 hown hK.1 hW rfl (by decide) rfl (hts (.fieldLink RX7 81 "SharedRegistersModel" "has" "[Z") (by decide +kernel)) rfl dX7_work_75 ?_
    refine lv_iload_n hx hb dX7_work_78 rfl (lv_at hl 6 rfl) ?_
    refine mzl_n 23 hx hb hK.1 hW rfl (by decide) rfl (show _ < 4 by omega) (by decide) dX7_work_79 ?_
    refine lv_istore (lv' := [(5, _), (7, _), (6, _), (3, _), (2, _), (0, _), (1, _)]) hx hb dX7_work_80 hl (by decide) rfl (fun ls hl => ?_)
    refine lv_goto (tgt := 208) hx hb dX7_work_82 (by decide) ?_
    exact tail (mI z 23 a) 1 (mJ z 29 r) z _ _ ls (by first | exact Or.inl rfl | exact Or.inr rfl | exact h23) (by simp [mWork]) hW hS (lv_sub hl [5, 6, 0, 2, 1] rfl)
  · refine lv_tableIn (off := 56) (tgt := 85) hx hb dX7_work_29 (by decide) (by decide) (by decide) (by decide) ?_
    refine lv_goto (tgt := 208) hx hb dX7_work_85 (by decide) ?_
    exact tail 0 1 (mJ z 29 r) z _ _ ls (by first | exact Or.inl rfl | exact Or.inr rfl | exact h23) (by simp [mWork]) hW hS (lv_sub hl [5, 6, 2, 1, 0] rfl)
  · refine lv_tableIn (off := 59) (tgt := 88) hx hb dX7_work_29 (by decide) (by decide) (by decide) (by decide) ?_
    refine lv_aload_n hx hb dX7_work_88 rfl (lv_at hl 5 rfl) ?_
    refine gM 24 hx hb hts hX7 hown hK.1 hW rfl (by decide) rfl (hts (.fieldLink RX7 81 "SharedRegistersModel" "has" "[Z") (by decide +kernel)) rfl dX7_work_89 ?_
    refine lv_iload_n hx hb dX7_work_92 rfl (lv_at hl 6 rfl) ?_
    refine mzl_n 23 hx hb hK.1 hW rfl (by decide) rfl (show _ < 4 by omega) (by decide) dX7_work_93 ?_
    refine lv_if_eq (tgt := 111) hx hb dX7_work_94 (by decide) (fun c_94 => ?_) (fun c_94 => ?_)
    · refine lv_iconst (v := 1) hx hb dX7_work_111 (by decide) ?_
      refine lv_goto (tgt := 116) hx hb dX7_work_112 (by decide) ?_
      refine lv_istore (lv' := [(5, _), (7, _), (6, _), (3, _), (2, _), (0, _), (1, _)]) hx hb dX7_work_116 hl (by decide) rfl (fun ls hl => ?_)
      refine lv_lload_n hx hb dX7_work_118 rfl (lv_at hl 3 rfl) ?_
      refine lv_l2i hx hb dX7_work_119 rfl ?_
      refine lv_i2l hx hb dX7_work_120 rfl ?_
      refine lv_lstore (lv' := [(7, _), (5, _), (6, _), (3, _), (2, _), (0, _), (1, _)]) hx hb dX7_work_121 hl (by decide) rfl (fun ls hl => ?_)
      refine lv_goto (tgt := 208) hx hb dX7_work_123 (by decide) ?_
      exact tail 1 1 (Int32.toInt64 (Int64.toInt32 (mJ z 29 r))) z _ _ ls (by first | exact Or.inl rfl | exact Or.inr rfl | exact h23) (by simp [mWork, c_94]) hW hS (lv_sub hl [5, 6, 1, 2, 0] rfl)
    · refine lv_aload_n hx hb dX7_work_97 rfl (lv_at hl 5 rfl) ?_
      refine gM 25 hx hb hts hX7 hown hK.1 hW rfl (by decide) rfl (hts (.fieldLink RX7 84 "SharedRegistersModel" "hasVersion" "[I") (by decide +kernel)) rfl dX7_work_98 ?_
      refine lv_iload_n hx hb dX7_work_101 rfl (lv_at hl 6 rfl) ?_
      refine mil_n 24 hx hb hK.1 hW rfl (by decide) rfl (show _ < 4 by omega) (by decide) dX7_work_102 ?_
      refine lv_lload_n hx hb dX7_work_103 rfl (lv_at hl 3 rfl) ?_
      refine lv_bipush (v := 32) hx hb dX7_work_104 (by decide) ?_
      refine lv_lshr hx hb dX7_work_106 rfl ?_
      refine lv_l2i hx hb dX7_work_107 rfl ?_
      refine lv_icmp_eq (tgt := 115) hx hb dX7_work_108 (by decide) (fun c_108 => ?_) (fun c_108 => ?_)
      · have c_108 : mI z 24 a = hiW (mJ z 29 r) := c_108
        refine lv_iconst (v := 0) hx hb dX7_work_115 (by decide) ?_
        refine lv_istore (lv' := [(5, _), (7, _), (6, _), (3, _), (2, _), (0, _), (1, _)]) hx hb dX7_work_116 hl (by decide) rfl (fun ls hl => ?_)
        refine lv_lload_n hx hb dX7_work_118 rfl (lv_at hl 3 rfl) ?_
        refine lv_l2i hx hb dX7_work_119 rfl ?_
        refine lv_i2l hx hb dX7_work_120 rfl ?_
        refine lv_lstore (lv' := [(7, _), (5, _), (6, _), (3, _), (2, _), (0, _), (1, _)]) hx hb dX7_work_121 hl (by decide) rfl (fun ls hl => ?_)
        refine lv_goto (tgt := 208) hx hb dX7_work_123 (by decide) ?_
        exact tail 0 1 (Int32.toInt64 (Int64.toInt32 (mJ z 29 r))) z _ _ ls (by first | exact Or.inl rfl | exact Or.inr rfl | exact h23) (by simp [mWork, c_94, c_108]) hW hS (lv_sub hl [5, 6, 1, 2, 0] rfl)
      · have c_108 : ¬ mI z 24 a = hiW (mJ z 29 r) := c_108
        refine lv_iconst (v := 1) hx hb dX7_work_111 (by decide) ?_
        refine lv_goto (tgt := 116) hx hb dX7_work_112 (by decide) ?_
        refine lv_istore (lv' := [(5, _), (7, _), (6, _), (3, _), (2, _), (0, _), (1, _)]) hx hb dX7_work_116 hl (by decide) rfl (fun ls hl => ?_)
        refine lv_lload_n hx hb dX7_work_118 rfl (lv_at hl 3 rfl) ?_
        refine lv_l2i hx hb dX7_work_119 rfl ?_
        refine lv_i2l hx hb dX7_work_120 rfl ?_
        refine lv_lstore (lv' := [(7, _), (5, _), (6, _), (3, _), (2, _), (0, _), (1, _)]) hx hb dX7_work_121 hl (by decide) rfl (fun ls hl => ?_)
        refine lv_goto (tgt := 208) hx hb dX7_work_123 (by decide) ?_
        exact tail 1 1 (Int32.toInt64 (Int64.toInt32 (mJ z 29 r))) z _ _ ls (by first | exact Or.inl rfl | exact Or.inr rfl | exact h23) (by simp [mWork, c_94, c_108]) hW hS (lv_sub hl [5, 6, 1, 2, 0] rfl)
  · refine lv_tableIn (off := 97) (tgt := 126) hx hb dX7_work_29 (by decide) (by decide) (by decide) (by decide) ?_
    refine lv_aload_n hx hb dX7_work_126 rfl (lv_at hl 5 rfl) ?_
    refine gM 24 hx hb hts hX7 hown hK.1 hW rfl (by decide) rfl (hts (.fieldLink RX7 81 "SharedRegistersModel" "has" "[Z") (by decide +kernel)) rfl dX7_work_127 ?_
    refine lv_iload_n hx hb dX7_work_130 rfl (lv_at hl 6 rfl) ?_
    refine mzl_n 23 hx hb hK.1 hW rfl (by decide) rfl (show _ < 4 by omega) (by decide) dX7_work_131 ?_
    refine lv_if_eq (tgt := 146) hx hb dX7_work_132 (by decide) (fun c_132 => ?_) (fun c_132 => ?_)
    · refine lv_lload_n hx hb dX7_work_146 rfl (lv_at hl 3 rfl) ?_
      refine lv_lstore (lv' := [(7, _), (6, _), (5, _), (3, _), (2, _), (0, _), (1, _)]) hx hb dX7_work_147 hl (by decide) rfl (fun ls hl => ?_)
      refine lv_goto (tgt := 208) hx hb dX7_work_149 (by decide) ?_
      exact tail 0 1 (mJ z 29 r) z _ _ ls (by first | exact Or.inl rfl | exact Or.inr rfl | exact h23) (by simp [mWork, c_132]) hW hS (lv_sub hl [5, 6, 2, 1, 0] rfl)
    · refine lv_aload_n hx hb dX7_work_135 rfl (lv_at hl 5 rfl) ?_
      refine gM 26 hx hb hts hX7 hown hK.1 hW rfl (by decide) rfl (hts (.fieldLink RX7 87 "SharedRegistersModel" "hasValue" "[J") (by decide +kernel)) rfl dX7_work_136 ?_
      refine lv_iload_n hx hb dX7_work_139 rfl (lv_at hl 6 rfl) ?_
      refine mll_n 25 hx hb hK.1 hW rfl (by decide) rfl (show _ < 4 by omega) (by decide) dX7_work_140 ?_
      refine lv_lload_n hx hb dX7_work_141 rfl (lv_at hl 3 rfl) ?_
      refine lv_ladd hx hb dX7_work_142 ?_
      refine lv_goto (tgt := 147) hx hb dX7_work_143 (by decide) ?_
      refine lv_lstore (lv' := [(7, _), (6, _), (5, _), (3, _), (2, _), (0, _), (1, _)]) hx hb dX7_work_147 hl (by decide) rfl (fun ls hl => ?_)
      refine lv_goto (tgt := 208) hx hb dX7_work_149 (by decide) ?_
      exact tail 0 1 (mJ z 25 a + mJ z 29 r) z _ _ ls (by first | exact Or.inl rfl | exact Or.inr rfl | exact h23) (by simp [mWork, c_132]) hW hS (lv_sub hl [5, 6, 2, 1, 0] rfl)
  · refine lv_tableIn (off := 123) (tgt := 152) hx hb dX7_work_29 (by decide) (by decide) (by decide) (by decide) ?_
    refine lv_aload_n hx hb dX7_work_152 rfl (lv_at hl 5 rfl) ?_
    refine gM 24 hx hb hts hX7 hown hK.1 hW rfl (by decide) rfl (hts (.fieldLink RX7 81 "SharedRegistersModel" "has" "[Z") (by decide +kernel)) rfl dX7_work_153 ?_
    refine lv_iload_n hx hb dX7_work_156 rfl (lv_at hl 6 rfl) ?_
    refine mzl_n 23 hx hb hK.1 hW rfl (by decide) rfl (show _ < 4 by omega) (by decide) dX7_work_157 ?_
    refine lv_if_ne (tgt := 165) hx hb dX7_work_158 (by decide) (fun c_158 => ?_) (fun c_158 => ?_)
    · refine lv_iconst (v := 0) hx hb dX7_work_165 (by decide) ?_
      refine lv_istore (lv' := [(5, _), (7, _), (6, _), (3, _), (2, _), (0, _), (1, _)]) hx hb dX7_work_166 hl (by decide) rfl (fun ls hl => ?_)
      refine lv_iconst (v := 0) hx hb dX7_work_168 (by decide) ?_
      refine lv_istore (lv' := [(6, _), (5, _), (7, _), (3, _), (2, _), (0, _), (1, _)]) hx hb dX7_work_169 hl (by decide) rfl (fun ls hl => ?_)
      refine lv_aload_n hx hb dX7_work_171 rfl (lv_at hl 5 rfl) ?_
      refine gM 24 hx hb hts hX7 hown hK.1 hW rfl (by decide) rfl (hts (.fieldLink RX7 81 "SharedRegistersModel" "has" "[Z") (by decide +kernel)) rfl dX7_work_172 ?_
      refine lv_iload_n hx hb dX7_work_175 rfl (lv_at hl 6 rfl) ?_
      refine lv_iconst (v := 0) hx hb dX7_work_176 (by decide) ?_
      refine mzs_n 23 hx hb hK.1 hW hS rfl (by decide) rfl (show _ < 4 by omega) (by decide) (by first | exact Or.inl rfl | exact Or.inr rfl | assumption) dX7_work_177 (fun H locs hW hS => ?_)
      refine lv_goto (tgt := 208) hx hb dX7_work_178 (by decide) ?_
      exact tail 0 0 (mJ z 29 r) (tI z 23 a 0) _ _ ls (by first | exact Or.inl rfl | exact Or.inr rfl | exact h23) (by simp [mWork, c_158]) hW hS (lv_sub hl [5, 6, 1, 0, 2] rfl)
    · refine lv_iconst (v := 1) hx hb dX7_work_161 (by decide) ?_
      refine lv_goto (tgt := 166) hx hb dX7_work_162 (by decide) ?_
      refine lv_istore (lv' := [(5, _), (7, _), (6, _), (3, _), (2, _), (0, _), (1, _)]) hx hb dX7_work_166 hl (by decide) rfl (fun ls hl => ?_)
      refine lv_iconst (v := 0) hx hb dX7_work_168 (by decide) ?_
      refine lv_istore (lv' := [(6, _), (5, _), (7, _), (3, _), (2, _), (0, _), (1, _)]) hx hb dX7_work_169 hl (by decide) rfl (fun ls hl => ?_)
      refine lv_aload_n hx hb dX7_work_171 rfl (lv_at hl 5 rfl) ?_
      refine gM 24 hx hb hts hX7 hown hK.1 hW rfl (by decide) rfl (hts (.fieldLink RX7 81 "SharedRegistersModel" "has" "[Z") (by decide +kernel)) rfl dX7_work_172 ?_
      refine lv_iload_n hx hb dX7_work_175 rfl (lv_at hl 6 rfl) ?_
      refine lv_iconst (v := 0) hx hb dX7_work_176 (by decide) ?_
      refine mzs_n 23 hx hb hK.1 hW hS rfl (by decide) rfl (show _ < 4 by omega) (by decide) (by first | exact Or.inl rfl | exact Or.inr rfl | assumption) dX7_work_177 (fun H locs hW hS => ?_)
      refine lv_goto (tgt := 208) hx hb dX7_work_178 (by decide) ?_
      exact tail 1 0 (mJ z 29 r) (tI z 23 a 0) _ _ ls (by first | exact Or.inl rfl | exact Or.inr rfl | exact h23) (by simp [mWork, c_158]) hW hS (lv_sub hl [5, 6, 1, 0, 2] rfl)
  · refine lv_tableOut (tgt := 181) hx hb dX7_work_29 (by decide) (by decide) ?_
    refine lv_aload_n hx hb dX7_work_181 rfl (lv_at hl 5 rfl) ?_
    refine gM 24 hx hb hts hX7 hown hK.1 hW rfl (by decide) rfl (hts (.fieldLink RX7 81 "SharedRegistersModel" "has" "[Z") (by decide +kernel)) rfl dX7_work_182 ?_
    refine lv_iload_n hx hb dX7_work_185 rfl (lv_at hl 6 rfl) ?_
    refine mzl_n 23 hx hb hK.1 hW rfl (by decide) rfl (show _ < 4 by omega) (by decide) dX7_work_186 ?_
    refine lv_if_eq (tgt := 205) hx hb dX7_work_187 (by decide) (fun c_187 => ?_) (fun c_187 => ?_)
    · refine lv_iconst (v := 0) hx hb dX7_work_205 (by decide) ?_
      refine lv_istore (lv' := [(5, _), (7, _), (6, _), (3, _), (2, _), (0, _), (1, _)]) hx hb dX7_work_206 hl (by decide) rfl (fun ls hl => ?_)
      exact tail 0 1 (mJ z 29 r) z _ _ ls (by first | exact Or.inl rfl | exact Or.inr rfl | exact h23) (by simp [mWork, c_187]) hW hS (lv_sub hl [5, 6, 0, 2, 1] rfl)
    · refine lv_aload_n hx hb dX7_work_190 rfl (lv_at hl 5 rfl) ?_
      refine gM 26 hx hb hts hX7 hown hK.1 hW rfl (by decide) rfl (hts (.fieldLink RX7 87 "SharedRegistersModel" "hasValue" "[J") (by decide +kernel)) rfl dX7_work_191 ?_
      refine lv_iload_n hx hb dX7_work_194 rfl (lv_at hl 6 rfl) ?_
      refine mll_n 25 hx hb hK.1 hW rfl (by decide) rfl (show _ < 4 by omega) (by decide) dX7_work_195 ?_
      refine lv_lload_n hx hb dX7_work_196 rfl (lv_at hl 3 rfl) ?_
      refine W.lcmp hx hb dX7_work_197 ?_
      refine lv_if_lt (tgt := 205) hx hb dX7_work_198 (by decide) (fun c_198 => ?_) (fun c_198 => ?_)
      · rw [lg_cmp_lt] at c_198
        refine lv_iconst (v := 0) hx hb dX7_work_205 (by decide) ?_
        refine lv_istore (lv' := [(5, _), (7, _), (6, _), (3, _), (2, _), (0, _), (1, _)]) hx hb dX7_work_206 hl (by decide) rfl (fun ls hl => ?_)
        exact tail 0 1 (mJ z 29 r) z _ _ ls (by first | exact Or.inl rfl | exact Or.inr rfl | exact h23) (by simp [mWork, c_187, c_198]) hW hS (lv_sub hl [5, 6, 0, 2, 1] rfl)
      · rw [lg_cmp_lt] at c_198
        refine lv_iconst (v := 1) hx hb dX7_work_201 (by decide) ?_
        refine lv_goto (tgt := 206) hx hb dX7_work_202 (by decide) ?_
        refine lv_istore (lv' := [(5, _), (7, _), (6, _), (3, _), (2, _), (0, _), (1, _)]) hx hb dX7_work_206 hl (by decide) rfl (fun ls hl => ?_)
        exact tail 1 1 (mJ z 29 r) z _ _ ls (by first | exact Or.inl rfl | exact Or.inr rfl | exact h23) (by simp [mWork, c_187, c_198]) hW hS (lv_sub hl [5, 6, 0, 2, 1] rfl)
