/-- what the loop's head asks, at the j-th call, with cs cells and sl slots made -/
def LKK (p : Program) (l : Launch) (e : Env) (s : State) (m : MethodId) (below : List Frame) (meth : Method) (c : Code) (b : Nat) (D : va_G) (y : Nat → ClassId) (Q : State → Prop) (qo j cs sl : Nat) : Prop := ∀ (z : CS) (t : MS) (n : Nat) (f : Nat → Int64) (H : Heap) (locs : List Loc) (ls : Array Slot), RR z t n → LW D y (lA s) z t qo f H → va_S (lA s) s.heap H locs → lv_has ls 8 [(4, .int (nI (6 * j))), (0, .ref b), (1, .ref (cA z 6 0)), (2, .ref (mA t 0 0)), (3, .ref qo)] → W p l e room_1 s m #[Value.ref b] below meth c H locs cs sl Q (F0 m 23 ls [])
set_option maxHeartbeats 4000000 in
set_option maxRecDepth 100000 in
theorem lk_ask {p : Program} {l : Launch} {e : Env} {s : State} {m : MethodId} {below : List Frame} {meth : Method} {c : Code} {b L : Nat} {xs : Nat → Int32} {D : va_G} {y : Nat → ClassId} {Q : State → Prop} (C : LX p l s m c b L xs D y) {z : CS} {t : MS} {n qo j cs sl : Nat} {f : Nat → Int64} {H : Heap} {locs : List Loc} {ls : Array Slot} (hR : RR z t n) (hL : LW D y (lA s) z t qo f H) (hS : va_S (lA s) s.heap H locs) (hj : 6 * j + 6 ≤ L) (hcs : cs ≤ 600000) (hsl : sl ≤ 7000000) (hl : lv_has ls 8 [(4, .int (nI (6 * j))), (0, .ref b), (1, .ref (cA z 6 0)), (2, .ref (mA t 0 0)), (3, .ref qo)]) (kk : LKK p l e s m below meth c b D y Q qo (j + 1) (cs + 1001) (sl + 3006)) : W p l e room_1 s m #[Value.ref b] below meth c H locs cs sl Q (F0 m 120 ls []) := by
  obtain ⟨hx, hb, hml, hown, hts, hX, hbl, h3072, hK, hZ, hN, hl0⟩ := C
  have hA : ∀ q, s.heap.size ≤ q → lA s q := fun _ h => h
  have hbA : ¬ lA s b := Nat.not_le.mpr hbl
  refine lv_aload_n hx hb dL_law_120 rfl (lv_at hl 2 rfl) ?_
  refine lv_aload_n hx hb dL_law_121 rfl (lv_at hl 1 rfl) ?_
  refine lv_iload hx hb dL_law_122 (lv_at hl 0 rfl) ?_
  refine lv_iconst (v := 1) hx hb dL_law_124 (by decide) ?_
  refine lv_iadd hx hb dL_law_125 ?_
  refine s_ld (k := 6 * j + 1) hx hb hX hbl hbA hS (nI_add (6 * j) 1) (by omega) h3072 dL_law_126 ?_
  refine lv_aload_n hx hb dL_law_127 rfl (lv_at hl 1 rfl) ?_
  refine lv_iload hx hb dL_law_128 (lv_at hl 0 rfl) ?_
  refine lv_iconst (v := 2) hx hb dL_law_130 (by decide) ?_
  refine lv_iadd hx hb dL_law_131 ?_
  refine s_ld (k := 6 * j + 2) hx hb hX hbl hbA hS (nI_add (6 * j) 2) (by omega) h3072 dL_law_132 ?_
  refine lv_aload_n hx hb dL_law_133 rfl (lv_at hl 1 rfl) ?_
  refine lv_iload hx hb dL_law_134 (lv_at hl 0 rfl) ?_
  refine lv_iconst (v := 3) hx hb dL_law_136 (by decide) ?_
  refine lv_iadd hx hb dL_law_137 ?_
  refine s_ld (k := 6 * j + 3) hx hb hX hbl hbA hS (nI_add (6 * j) 3) (by omega) h3072 dL_law_138 ?_
  refine lv_aload_n hx hb dL_law_139 rfl (lv_at hl 1 rfl) ?_
  refine lv_iload hx hb dL_law_140 (lv_at hl 0 rfl) ?_
  refine lv_iconst (v := 4) hx hb dL_law_142 (by decide) ?_
  refine lv_iadd hx hb dL_law_143 ?_
  refine s_ld (k := 6 * j + 4) hx hb hX hbl hbA hS (nI_add (6 * j) 4) (by omega) h3072 dL_law_144 ?_
  refine lv_i2l hx hb dL_law_145 rfl ?_
  refine lv_bipush (v := 32) hx hb dL_law_146 (by decide) ?_
  refine lv_lshl hx hb dL_law_148 rfl ?_
  refine lv_aload_n hx hb dL_law_149 rfl (lv_at hl 1 rfl) ?_
  refine lv_iload hx hb dL_law_150 (lv_at hl 0 rfl) ?_
  refine lv_iconst (v := 5) hx hb dL_law_152 (by decide) ?_
  refine lv_iadd hx hb dL_law_153 ?_
  refine s_ld (k := 6 * j + 5) hx hb hX hbl hbA hS (nI_add (6 * j) 5) (by omega) h3072 dL_law_154 ?_
  refine lv_i2l hx hb dL_law_155 rfl ?_
  refine lv_ldc2 hx hb hown (hts (.constantLong RL 70 4294967295) (by decide +kernel)) dL_law_156 ?_
  refine lv_land hx hb dL_law_159 ?_
  refine lv_lor hx hb dL_law_160 ?_
  refine lv_aload_n hx hb dL_law_161 rfl (lv_at hl 4 rfl) ?_
  refine lc_h (vx_runSW (As := [.ref (cA z 6 0), .int (xs (6 * j + 1)), .int (xs (6 * j + 2)), .int (xs (6 * j + 3)), .long (((xs (6 * j + 4)).toInt64 <<< ((32 : Int32).toInt64 &&& 63)) ||| ((xs (6 * j + 5)).toInt64 &&& 4294967295)), .ref qo]) (rest := []) ⟨hx, hb, hml, hown, hts⟩ (l_ask l hl0 D y z qo _ (xs (6 * j + 1)) (xs (6 * j + 2)) (xs (6 * j + 3)) (((xs (6 * j + 4)).toInt64 <<< ((32 : Int32).toInt64 &&& 63)) ||| ((xs (6 * j + 5)).toInt64 &&& 4294967295)) n hR.2.2.2.1.2.1 hR.2.2.2.1.1 hR.2.1 hR.1.1) (vx_cwSW 6 hts gL_law_L_ask rfl rfl rfl (by decide +kernel) ⟨Nat.le_of_ble_eq_true rfl, Nat.le_of_ble_eq_true rfl⟩) (hL.pre hK hZ hN hS hA [.ref (cA z 6 0), .int (xs (6 * j + 1)), .int (xs (6 * j + 2)), .int (xs (6 * j + 3)), .long (((xs (6 * j + 4)).toInt64 <<< ((32 : Int32).toInt64 &&& 63)) ||| ((xs (6 * j + 5)).toInt64 &&& 4294967295)), .ref qo]) rfl rfl hl.1 rfl (lv_room (Nat.le_of_ble_eq_true rfl)) dL_law_162 ⟨by show cs + 4 ≤ 601024; omega, by show sl + 33 ≤ 7293034; omega⟩) hL hS hA (fun w u f1 H locs hc hL hS => ?_)
  refine lv_istore (lv' := [(5, _), (4, _), (0, _), (1, _), (2, _), (3, _)]) hx hb dL_law_165 hl (by decide) rfl (fun ls hl => ?_)
  refine lv_aload_n hx hb dL_law_167 rfl (lv_at hl 4 rfl) ?_
  refine lv_aload_n hx hb dL_law_168 rfl (lv_at hl 2 rfl) ?_
  refine lv_iload hx hb dL_law_169 (lv_at hl 1 rfl) ?_
  refine lv_iconst (v := 1) hx hb dL_law_171 (by decide) ?_
  refine lv_iadd hx hb dL_law_172 ?_
  refine s_ld (k := 6 * j + 1) hx hb hX hbl hbA hS (nI_add (6 * j) 1) (by omega) h3072 dL_law_173 ?_
  refine lv_aload_n hx hb dL_law_174 rfl (lv_at hl 2 rfl) ?_
  refine lv_iload hx hb dL_law_175 (lv_at hl 1 rfl) ?_
  refine lv_iconst (v := 2) hx hb dL_law_177 (by decide) ?_
  refine lv_iadd hx hb dL_law_178 ?_
  refine s_ld (k := 6 * j + 2) hx hb hX hbl hbA hS (nI_add (6 * j) 2) (by omega) h3072 dL_law_179 ?_
  refine lv_aload_n hx hb dL_law_180 rfl (lv_at hl 2 rfl) ?_
  refine lv_iload hx hb dL_law_181 (lv_at hl 1 rfl) ?_
  refine lv_iconst (v := 3) hx hb dL_law_183 (by decide) ?_
  refine lv_iadd hx hb dL_law_184 ?_
  refine s_ld (k := 6 * j + 3) hx hb hX hbl hbA hS (nI_add (6 * j) 3) (by omega) h3072 dL_law_185 ?_
  refine lv_aload_n hx hb dL_law_186 rfl (lv_at hl 2 rfl) ?_
  refine lv_iload hx hb dL_law_187 (lv_at hl 1 rfl) ?_
  refine lv_iconst (v := 4) hx hb dL_law_189 (by decide) ?_
  refine lv_iadd hx hb dL_law_190 ?_
  refine s_ld (k := 6 * j + 4) hx hb hX hbl hbA hS (nI_add (6 * j) 4) (by omega) h3072 dL_law_191 ?_
  refine lv_i2l hx hb dL_law_192 rfl ?_
  refine lv_bipush (v := 32) hx hb dL_law_193 (by decide) ?_
  refine lv_lshl hx hb dL_law_195 rfl ?_
  refine lv_aload_n hx hb dL_law_196 rfl (lv_at hl 2 rfl) ?_
  refine lv_iload hx hb dL_law_197 (lv_at hl 1 rfl) ?_
  refine lv_iconst (v := 5) hx hb dL_law_199 (by decide) ?_
  refine lv_iadd hx hb dL_law_200 ?_
  refine s_ld (k := 6 * j + 5) hx hb hX hbl hbA hS (nI_add (6 * j) 5) (by omega) h3072 dL_law_201 ?_
  refine lv_i2l hx hb dL_law_202 rfl ?_
  refine lv_ldc2 hx hb hown (hts (.constantLong RL 70 4294967295) (by decide +kernel)) dL_law_203 ?_
  refine lv_land hx hb dL_law_206 ?_
  refine lv_lor hx hb dL_law_207 ?_
  refine lc_m (va_runV (As := [.int (xs (6 * j + 1)), .int (xs (6 * j + 2)), .int (xs (6 * j + 3)), .long (((xs (6 * j + 4)).toInt64 <<< ((32 : Int32).toInt64 &&& 63)) ||| ((xs (6 * j + 5)).toInt64 &&& 4294967295))]) (rest := []) ⟨hx, hb, hml, hown, hts⟩ (m7_ask l D y t _ (xs (6 * j + 1)) (xs (6 * j + 2)) (xs (6 * j + 3)) (((xs (6 * j + 4)).toInt64 <<< ((32 : Int32).toInt64 &&& 63)) ||| ((xs (6 * j + 5)).toInt64 &&& 4294967295)) n (cNr z) hR.n36.1 hR.n36.2.1 hR.2.2.2.1.2.2.1 hR.2.2.2.1.1 hR.MH) (cwV 4 hts gL_law_X7_ask rfl rfl rfl (by decide +kernel) ⟨Nat.le_of_ble_eq_true rfl, Nat.le_of_ble_eq_true rfl⟩) (hL.preM hK [.int (xs (6 * j + 1)), .int (xs (6 * j + 2)), .int (xs (6 * j + 3)), .long (((xs (6 * j + 4)).toInt64 <<< ((32 : Int32).toInt64 &&& 63)) ||| ((xs (6 * j + 5)).toInt64 &&& 4294967295))]) rfl rfl hl.1 rfl (lv_room (Nat.le_of_ble_eq_true rfl)) dL_law_208 ⟨by show cs + 4 + 0 ≤ 601024; omega, by show sl + 33 + 0 ≤ 7293034; omega⟩) hL hS hA (fun v7 u7 H locs hm hL hS => ?_)
  obtain ⟨⟨ag1, ⟨n9, hR9⟩, ag3, ag4⟩, x9, hv9, hval⟩ := Ag_ask hR (xs (6 * j + 1)) (xs (6 * j + 2)) (xs (6 * j + 3)) (((xs (6 * j + 4)).toInt64 <<< ((32 : Int32).toInt64 &&& 63)) ||| ((xs (6 * j + 5)).toInt64 &&& 4294967295)) hc hm
  subst hv9
  refine lv_istore (lv' := [(6, _), (5, _), (4, _), (0, _), (1, _), (2, _), (3, _)]) hx hb dL_law_211 hl (by decide) rfl (fun ls hl => ?_)
  rw [← ag3, ← ag4] at hl
  refine lv_aload_n hx hb dL_law_213 rfl (lv_at hl 5 rfl) ?_
  refine lc_m (va_runV (As := []) (rest := []) ⟨hx, hb, hml, hown, hts⟩ (m7_thrown l D y u7 _) (cwV 0 hts gL_law_X7_thrown rfl rfl rfl (by decide +kernel) ⟨Nat.le_of_ble_eq_true rfl, Nat.le_of_ble_eq_true rfl⟩) (hL.preM hK []) rfl rfl hl.1 rfl (lv_room (Nat.le_of_ble_eq_true rfl)) dL_law_214 ⟨by show cs + 4 + 0 + 0 ≤ 601024; omega, by show sl + 33 + 0 + 0 ≤ 7293034; omega⟩) hL hS hA (fun v8 u8 H locs hm8 hL hS => ?_)
  obtain ⟨rfl, e8⟩ := hm8
  replace e8 := e8.symm
  subst e8
  refine lv_iload hx hb dL_law_217 (lv_at hl 1 rfl) ?_
  refine lv_icmp_eq (tgt := 224) hx hb dL_law_219 (by decide) (fun _ => ?_) (fun h9 => absurd ag1 h9)
  refine lv_iload hx hb dL_law_224 (lv_at hl 1 rfl) ?_
  refine lv_if_ne (tgt := 241) hx hb dL_law_226 (by decide) (fun _ => ?_) (fun h0 => ?_)
  · refine W.widen (k := cs + 1001) (n := sl + 3006) (by omega) (by omega) ?_
    refine lv_goto (tgt := 1174) hx hb dL_law_241 (by decide) ?_
    refine lv_iinc (v := nI (6 * (j + 1))) (lv' := [(4, _), (6, _), (5, _), (0, _), (1, _), (2, _), (3, _)]) hx hb dL_law_1174 hl (k := 2) rfl (nI_add (6 * j) 6) (by decide) rfl (fun ls hl => ?_)
    refine lv_goto (tgt := 23) hx hb dL_law_1177 (by decide) ?_
    exact kk _ _ _ _ H locs ls hR9 hL hS (lv_sub hl [0, 3, 4, 5, 6] rfl)
  · refine lv_aload_n hx hb dL_law_229 rfl (lv_at hl 6 rfl) ?_
    refine lv_iconst (v := 0) hx hb dL_law_230 (by decide) ?_
    refine out_ld hx hb hK.1 hL.2.2.1 dL_law_231 ?_
    refine lv_iload hx hb dL_law_232 (lv_at hl 0 rfl) ?_
    refine lv_i2l hx hb dL_law_234 rfl ?_
    refine W.lcmp hx hb dL_law_235 ?_
    refine lv_if_eq (tgt := 241) hx hb dL_law_236 (by decide) (fun _ => ?_) (fun h9 => absurd ((lg_cmp_eq _ _).mpr (hval h0)) h9)
    refine W.widen (k := cs + 1001) (n := sl + 3006) (by omega) (by omega) ?_
    refine lv_goto (tgt := 1174) hx hb dL_law_241 (by decide) ?_
    refine lv_iinc (v := nI (6 * (j + 1))) (lv' := [(4, _), (6, _), (5, _), (0, _), (1, _), (2, _), (3, _)]) hx hb dL_law_1174 hl (k := 2) rfl (nI_add (6 * j) 6) (by decide) rfl (fun ls hl => ?_)
    refine lv_goto (tgt := 23) hx hb dL_law_1177 (by decide) ?_
    exact kk _ _ _ _ H locs ls hR9 hL hS (lv_sub hl [0, 3, 4, 5, 6] rfl)
set_option maxHeartbeats 4000000 in
set_option maxRecDepth 100000 in
theorem lk_give {p : Program} {l : Launch} {e : Env} {s : State} {m : MethodId} {below : List Frame} {meth : Method} {c : Code} {b L : Nat} {xs : Nat → Int32} {D : va_G} {y : Nat → ClassId} {Q : State → Prop} (C : LX p l s m c b L xs D y) {z : CS} {t : MS} {n qo j cs sl : Nat} {f : Nat → Int64} {H : Heap} {locs : List Loc} {ls : Array Slot} (hR : RR z t n) (hL : LW D y (lA s) z t qo f H) (hS : va_S (lA s) s.heap H locs) (hj : 6 * j + 6 ≤ L) (hcs : cs ≤ 600000) (hsl : sl ≤ 7000000) (hl : lv_has ls 8 [(4, .int (nI (6 * j))), (0, .ref b), (1, .ref (cA z 6 0)), (2, .ref (mA t 0 0)), (3, .ref qo)]) (kk : LKK p l e s m below meth c b D y Q qo (j + 1) (cs + 1001) (sl + 3006)) : W p l e room_1 s m #[Value.ref b] below meth c H locs cs sl Q (F0 m 244 ls []) := by
  obtain ⟨hx, hb, hml, hown, hts, hX, hbl, h3072, hK, hZ, hN, hl0⟩ := C
  have hA : ∀ q, s.heap.size ≤ q → lA s q := fun _ h => h
  have hbA : ¬ lA s b := Nat.not_le.mpr hbl
  refine lv_aload_n hx hb dL_law_244 rfl (lv_at hl 2 rfl) ?_
  refine lv_aload_n hx hb dL_law_245 rfl (lv_at hl 1 rfl) ?_
  refine lv_iload hx hb dL_law_246 (lv_at hl 0 rfl) ?_
  refine lv_iconst (v := 1) hx hb dL_law_248 (by decide) ?_
  refine lv_iadd hx hb dL_law_249 ?_
  refine s_ld (k := 6 * j + 1) hx hb hX hbl hbA hS (nI_add (6 * j) 1) (by omega) h3072 dL_law_250 ?_
  refine lv_aload_n hx hb dL_law_251 rfl (lv_at hl 4 rfl) ?_
  refine lc_h (vx_runSW (As := [.ref (cA z 6 0), .int (xs (6 * j + 1)), .ref qo]) (rest := []) ⟨hx, hb, hml, hown, hts⟩ (l_give l hl0 D y z qo _ (xs (6 * j + 1)) hR.2.1.1.2.2.2.2.1) (vx_cwSW 3 hts gL_law_L_give rfl rfl rfl (by decide +kernel) ⟨Nat.le_of_ble_eq_true rfl, Nat.le_of_ble_eq_true rfl⟩) (hL.pre hK hZ hN hS hA [.ref (cA z 6 0), .int (xs (6 * j + 1)), .ref qo]) rfl rfl hl.1 rfl (lv_room (Nat.le_of_ble_eq_true rfl)) dL_law_252 ⟨by show cs + 1 ≤ 601024; omega, by show sl + 6 ≤ 7293034; omega⟩) hL hS hA (fun w u f1 H locs hc hL hS => ?_)
  refine lv_istore (lv' := [(5, _), (4, _), (0, _), (1, _), (2, _), (3, _)]) hx hb dL_law_255 hl (by decide) rfl (fun ls hl => ?_)
  refine lv_aload_n hx hb dL_law_257 rfl (lv_at hl 4 rfl) ?_
  refine lv_aload_n hx hb dL_law_258 rfl (lv_at hl 2 rfl) ?_
  refine lv_iload hx hb dL_law_259 (lv_at hl 1 rfl) ?_
  refine lv_iconst (v := 1) hx hb dL_law_261 (by decide) ?_
  refine lv_iadd hx hb dL_law_262 ?_
  refine s_ld (k := 6 * j + 1) hx hb hX hbl hbA hS (nI_add (6 * j) 1) (by omega) h3072 dL_law_263 ?_
  refine lc_m (va_runV (As := [.int (xs (6 * j + 1))]) (rest := []) ⟨hx, hb, hml, hown, hts⟩ (m7_give l D y t _ (xs (6 * j + 1)) hR.MH) (cwV 1 hts gL_law_X7_give rfl rfl rfl (by decide +kernel) ⟨Nat.le_of_ble_eq_true rfl, Nat.le_of_ble_eq_true rfl⟩) (hL.preM hK [.int (xs (6 * j + 1))]) rfl rfl hl.1 rfl (lv_room (Nat.le_of_ble_eq_true rfl)) dL_law_264 ⟨by show cs + 1 + 0 ≤ 601024; omega, by show sl + 6 + 0 ≤ 7293034; omega⟩) hL hS hA (fun v7 u7 H locs hm hL hS => ?_)
  obtain ⟨⟨ag1, ⟨n9, hR9⟩, ag3, ag4⟩, x9, hv9, hval⟩ := Ag_give hR (xs (6 * j + 1)) hc hm
  subst hv9
  refine lv_istore (lv' := [(6, _), (5, _), (4, _), (0, _), (1, _), (2, _), (3, _)]) hx hb dL_law_267 hl (by decide) rfl (fun ls hl => ?_)
  rw [← ag3, ← ag4] at hl
  refine lv_aload_n hx hb dL_law_269 rfl (lv_at hl 5 rfl) ?_
  refine lc_m (va_runV (As := []) (rest := []) ⟨hx, hb, hml, hown, hts⟩ (m7_thrown l D y u7 _) (cwV 0 hts gL_law_X7_thrown rfl rfl rfl (by decide +kernel) ⟨Nat.le_of_ble_eq_true rfl, Nat.le_of_ble_eq_true rfl⟩) (hL.preM hK []) rfl rfl hl.1 rfl (lv_room (Nat.le_of_ble_eq_true rfl)) dL_law_270 ⟨by show cs + 1 + 0 + 0 ≤ 601024; omega, by show sl + 6 + 0 + 0 ≤ 7293034; omega⟩) hL hS hA (fun v8 u8 H locs hm8 hL hS => ?_)
  obtain ⟨rfl, e8⟩ := hm8
  replace e8 := e8.symm
  subst e8
  refine lv_iload hx hb dL_law_273 (lv_at hl 1 rfl) ?_
  refine lv_icmp_eq (tgt := 280) hx hb dL_law_275 (by decide) (fun _ => ?_) (fun h9 => absurd ag1 h9)
  refine lv_iload hx hb dL_law_280 (lv_at hl 1 rfl) ?_
  refine lv_if_ne (tgt := 297) hx hb dL_law_282 (by decide) (fun _ => ?_) (fun h0 => ?_)
  · refine W.widen (k := cs + 1001) (n := sl + 3006) (by omega) (by omega) ?_
    refine lv_goto (tgt := 1174) hx hb dL_law_297 (by decide) ?_
    refine lv_iinc (v := nI (6 * (j + 1))) (lv' := [(4, _), (6, _), (5, _), (0, _), (1, _), (2, _), (3, _)]) hx hb dL_law_1174 hl (k := 2) rfl (nI_add (6 * j) 6) (by decide) rfl (fun ls hl => ?_)
    refine lv_goto (tgt := 23) hx hb dL_law_1177 (by decide) ?_
    exact kk _ _ _ _ H locs ls hR9 hL hS (lv_sub hl [0, 3, 4, 5, 6] rfl)
  · refine lv_aload_n hx hb dL_law_285 rfl (lv_at hl 6 rfl) ?_
    refine lv_iconst (v := 0) hx hb dL_law_286 (by decide) ?_
    refine out_ld hx hb hK.1 hL.2.2.1 dL_law_287 ?_
    refine lv_iload hx hb dL_law_288 (lv_at hl 0 rfl) ?_
    refine lv_i2l hx hb dL_law_290 rfl ?_
    refine W.lcmp hx hb dL_law_291 ?_
    refine lv_if_eq (tgt := 297) hx hb dL_law_292 (by decide) (fun _ => ?_) (fun h9 => absurd ((lg_cmp_eq _ _).mpr (hval h0)) h9)
    refine W.widen (k := cs + 1001) (n := sl + 3006) (by omega) (by omega) ?_
    refine lv_goto (tgt := 1174) hx hb dL_law_297 (by decide) ?_
    refine lv_iinc (v := nI (6 * (j + 1))) (lv' := [(4, _), (6, _), (5, _), (0, _), (1, _), (2, _), (3, _)]) hx hb dL_law_1174 hl (k := 2) rfl (nI_add (6 * j) 6) (by decide) rfl (fun ls hl => ?_)
    refine lv_goto (tgt := 23) hx hb dL_law_1177 (by decide) ?_
    exact kk _ _ _ _ H locs ls hR9 hL hS (lv_sub hl [0, 3, 4, 5, 6] rfl)
set_option maxHeartbeats 4000000 in
set_option maxRecDepth 100000 in
theorem lk_plan {p : Program} {l : Launch} {e : Env} {s : State} {m : MethodId} {below : List Frame} {meth : Method} {c : Code} {b L : Nat} {xs : Nat → Int32} {D : va_G} {y : Nat → ClassId} {Q : State → Prop} (C : LX p l s m c b L xs D y) {z : CS} {t : MS} {n qo j cs sl : Nat} {f : Nat → Int64} {H : Heap} {locs : List Loc} {ls : Array Slot} (hR : RR z t n) (hL : LW D y (lA s) z t qo f H) (hS : va_S (lA s) s.heap H locs) (hj : 6 * j + 6 ≤ L) (hcs : cs ≤ 600000) (hsl : sl ≤ 7000000) (hl : lv_has ls 8 [(4, .int (nI (6 * j))), (0, .ref b), (1, .ref (cA z 6 0)), (2, .ref (mA t 0 0)), (3, .ref qo)]) (kk : LKK p l e s m below meth c b D y Q qo (j + 1) (cs + 1001) (sl + 3006)) : W p l e room_1 s m #[Value.ref b] below meth c H locs cs sl Q (F0 m 300 ls []) := by
  obtain ⟨hx, hb, hml, hown, hts, hX, hbl, h3072, hK, hZ, hN, hl0⟩ := C
  have hA : ∀ q, s.heap.size ≤ q → lA s q := fun _ h => h
  have hbA : ¬ lA s b := Nat.not_le.mpr hbl
  refine lv_aload_n hx hb dL_law_300 rfl (lv_at hl 2 rfl) ?_
  refine lv_aload_n hx hb dL_law_301 rfl (lv_at hl 1 rfl) ?_
  refine lv_iload hx hb dL_law_302 (lv_at hl 0 rfl) ?_
  refine lv_iconst (v := 1) hx hb dL_law_304 (by decide) ?_
  refine lv_iadd hx hb dL_law_305 ?_
  refine s_ld (k := 6 * j + 1) hx hb hX hbl hbA hS (nI_add (6 * j) 1) (by omega) h3072 dL_law_306 ?_
  refine lv_aload_n hx hb dL_law_307 rfl (lv_at hl 1 rfl) ?_
  refine lv_iload hx hb dL_law_308 (lv_at hl 0 rfl) ?_
  refine lv_iconst (v := 2) hx hb dL_law_310 (by decide) ?_
  refine lv_iadd hx hb dL_law_311 ?_
  refine s_ld (k := 6 * j + 2) hx hb hX hbl hbA hS (nI_add (6 * j) 2) (by omega) h3072 dL_law_312 ?_
  refine lv_aload_n hx hb dL_law_313 rfl (lv_at hl 1 rfl) ?_
  refine lv_iload hx hb dL_law_314 (lv_at hl 0 rfl) ?_
  refine lv_iconst (v := 3) hx hb dL_law_316 (by decide) ?_
  refine lv_iadd hx hb dL_law_317 ?_
  refine s_ld (k := 6 * j + 3) hx hb hX hbl hbA hS (nI_add (6 * j) 3) (by omega) h3072 dL_law_318 ?_
  refine lv_aload_n hx hb dL_law_319 rfl (lv_at hl 1 rfl) ?_
  refine lv_iload hx hb dL_law_320 (lv_at hl 0 rfl) ?_
  refine lv_iconst (v := 4) hx hb dL_law_322 (by decide) ?_
  refine lv_iadd hx hb dL_law_323 ?_
  refine s_ld (k := 6 * j + 4) hx hb hX hbl hbA hS (nI_add (6 * j) 4) (by omega) h3072 dL_law_324 ?_
  refine lc_h (vx_runSW (As := [.ref (cA z 6 0), .int (xs (6 * j + 1)), .int (xs (6 * j + 2)), .int (xs (6 * j + 3)), .int (xs (6 * j + 4))]) (rest := []) ⟨hx, hb, hml, hown, hts⟩ (l_plan l hl0 D y z qo _ (xs (6 * j + 1)) (xs (6 * j + 2)) (xs (6 * j + 3)) (xs (6 * j + 4)) ) (vx_cwSW 5 hts gL_law_L_plan rfl rfl rfl (by decide +kernel) ⟨Nat.le_of_ble_eq_true rfl, Nat.le_of_ble_eq_true rfl⟩) (hL.pre hK hZ hN hS hA [.ref (cA z 6 0), .int (xs (6 * j + 1)), .int (xs (6 * j + 2)), .int (xs (6 * j + 3)), .int (xs (6 * j + 4))]) rfl rfl hl.1 rfl (lv_room (Nat.le_of_ble_eq_true rfl)) dL_law_325 ⟨by show cs + 4 ≤ 601024; omega, by show sl + 24 ≤ 7293034; omega⟩) hL hS hA (fun w u f1 H locs hc hL hS => ?_)
  refine lv_istore (lv' := [(5, _), (4, _), (0, _), (1, _), (2, _), (3, _)]) hx hb dL_law_328 hl (by decide) rfl (fun ls hl => ?_)
  refine lv_aload_n hx hb dL_law_330 rfl (lv_at hl 4 rfl) ?_
  refine lv_aload_n hx hb dL_law_331 rfl (lv_at hl 2 rfl) ?_
  refine lv_iload hx hb dL_law_332 (lv_at hl 1 rfl) ?_
  refine lv_iconst (v := 1) hx hb dL_law_334 (by decide) ?_
  refine lv_iadd hx hb dL_law_335 ?_
  refine s_ld (k := 6 * j + 1) hx hb hX hbl hbA hS (nI_add (6 * j) 1) (by omega) h3072 dL_law_336 ?_
  refine lv_aload_n hx hb dL_law_337 rfl (lv_at hl 2 rfl) ?_
  refine lv_iload hx hb dL_law_338 (lv_at hl 1 rfl) ?_
  refine lv_iconst (v := 2) hx hb dL_law_340 (by decide) ?_
  refine lv_iadd hx hb dL_law_341 ?_
  refine s_ld (k := 6 * j + 2) hx hb hX hbl hbA hS (nI_add (6 * j) 2) (by omega) h3072 dL_law_342 ?_
  refine lv_aload_n hx hb dL_law_343 rfl (lv_at hl 2 rfl) ?_
  refine lv_iload hx hb dL_law_344 (lv_at hl 1 rfl) ?_
  refine lv_iconst (v := 3) hx hb dL_law_346 (by decide) ?_
  refine lv_iadd hx hb dL_law_347 ?_
  refine s_ld (k := 6 * j + 3) hx hb hX hbl hbA hS (nI_add (6 * j) 3) (by omega) h3072 dL_law_348 ?_
  refine lv_aload_n hx hb dL_law_349 rfl (lv_at hl 2 rfl) ?_
  refine lv_iload hx hb dL_law_350 (lv_at hl 1 rfl) ?_
  refine lv_iconst (v := 4) hx hb dL_law_352 (by decide) ?_
  refine lv_iadd hx hb dL_law_353 ?_
  refine s_ld (k := 6 * j + 4) hx hb hX hbl hbA hS (nI_add (6 * j) 4) (by omega) h3072 dL_law_354 ?_
  refine lc_m0 (va_runV (As := [.int (xs (6 * j + 1)), .int (xs (6 * j + 2)), .int (xs (6 * j + 3)), .int (xs (6 * j + 4))]) (rest := []) ⟨hx, hb, hml, hown, hts⟩ (m7_plan l D y t _ (xs (6 * j + 1)) (xs (6 * j + 2)) (xs (6 * j + 3)) (xs (6 * j + 4)) ) (cwV 4 hts gL_law_X7_plan rfl rfl rfl (by decide +kernel) ⟨Nat.le_of_ble_eq_true rfl, Nat.le_of_ble_eq_true rfl⟩) (hL.preM hK [.int (xs (6 * j + 1)), .int (xs (6 * j + 2)), .int (xs (6 * j + 3)), .int (xs (6 * j + 4))]) rfl rfl hl.1 rfl (lv_room (Nat.le_of_ble_eq_true rfl)) dL_law_355 ⟨by show cs + 4 + 0 ≤ 601024; omega, by show sl + 24 + 0 ≤ 7293034; omega⟩) hL hS hA (fun u7 H locs hm hL hS => ?_)
  obtain ⟨ag1, ⟨n9, hR9⟩, ag3, ag4⟩ := Ag_plan (o := f1 0) hR (xs (6 * j + 1)) (xs (6 * j + 2)) (xs (6 * j + 3)) (xs (6 * j + 4)) hc hm
  rw [← ag3, ← ag4] at hl
  refine lv_aload_n hx hb dL_law_358 rfl (lv_at hl 4 rfl) ?_
  refine lc_m (va_runV (As := []) (rest := []) ⟨hx, hb, hml, hown, hts⟩ (m7_thrown l D y u7 _) (cwV 0 hts gL_law_X7_thrown rfl rfl rfl (by decide +kernel) ⟨Nat.le_of_ble_eq_true rfl, Nat.le_of_ble_eq_true rfl⟩) (hL.preM hK []) rfl rfl hl.1 rfl (lv_room (Nat.le_of_ble_eq_true rfl)) dL_law_359 ⟨by show cs + 4 + 0 + 0 ≤ 601024; omega, by show sl + 24 + 0 + 0 ≤ 7293034; omega⟩) hL hS hA (fun v8 u8 H locs hm8 hL hS => ?_)
  obtain ⟨rfl, e8⟩ := hm8
  replace e8 := e8.symm
  subst e8
  refine lv_iload hx hb dL_law_362 (lv_at hl 0 rfl) ?_
  refine lv_icmp_eq (tgt := 369) hx hb dL_law_364 (by decide) (fun _ => ?_) (fun h9 => absurd ag1 h9)
  refine W.widen (k := cs + 1001) (n := sl + 3006) (by omega) (by omega) ?_
  refine lv_goto (tgt := 1174) hx hb dL_law_369 (by decide) ?_
  refine lv_iinc (v := nI (6 * (j + 1))) (lv' := [(4, _), (5, _), (0, _), (1, _), (2, _), (3, _)]) hx hb dL_law_1174 hl (k := 1) rfl (nI_add (6 * j) 6) (by decide) rfl (fun ls hl => ?_)
  refine lv_goto (tgt := 23) hx hb dL_law_1177 (by decide) ?_
  exact kk _ _ _ _ H locs ls hR9 hL hS (lv_sub hl [0, 2, 3, 4, 5] rfl)
set_option maxHeartbeats 4000000 in
set_option maxRecDepth 100000 in
theorem lk_take {p : Program} {l : Launch} {e : Env} {s : State} {m : MethodId} {below : List Frame} {meth : Method} {c : Code} {b L : Nat} {xs : Nat → Int32} {D : va_G} {y : Nat → ClassId} {Q : State → Prop} (C : LX p l s m c b L xs D y) {z : CS} {t : MS} {n qo j cs sl : Nat} {f : Nat → Int64} {H : Heap} {locs : List Loc} {ls : Array Slot} (hR : RR z t n) (hL : LW D y (lA s) z t qo f H) (hS : va_S (lA s) s.heap H locs) (hj : 6 * j + 6 ≤ L) (hcs : cs ≤ 600000) (hsl : sl ≤ 7000000) (hl : lv_has ls 8 [(4, .int (nI (6 * j))), (0, .ref b), (1, .ref (cA z 6 0)), (2, .ref (mA t 0 0)), (3, .ref qo)]) (kk : LKK p l e s m below meth c b D y Q qo (j + 1) (cs + 1001) (sl + 3006)) : W p l e room_1 s m #[Value.ref b] below meth c H locs cs sl Q (F0 m 372 ls []) := by
  obtain ⟨hx, hb, hml, hown, hts, hX, hbl, h3072, hK, hZ, hN, hl0⟩ := C
  have hA : ∀ q, s.heap.size ≤ q → lA s q := fun _ h => h
  have hbA : ¬ lA s b := Nat.not_le.mpr hbl
  refine lv_aload_n hx hb dL_law_372 rfl (lv_at hl 2 rfl) ?_
  refine lv_aload_n hx hb dL_law_373 rfl (lv_at hl 1 rfl) ?_
  refine lv_iload hx hb dL_law_374 (lv_at hl 0 rfl) ?_
  refine lv_iconst (v := 1) hx hb dL_law_376 (by decide) ?_
  refine lv_iadd hx hb dL_law_377 ?_
  refine s_ld (k := 6 * j + 1) hx hb hX hbl hbA hS (nI_add (6 * j) 1) (by omega) h3072 dL_law_378 ?_
  refine lv_aload_n hx hb dL_law_379 rfl (lv_at hl 4 rfl) ?_
  refine lc_h (vx_runSW (As := [.ref (cA z 6 0), .int (xs (6 * j + 1)), .ref qo]) (rest := []) ⟨hx, hb, hml, hown, hts⟩ (l_take l hl0 D y z qo _ (xs (6 * j + 1)) n hR.1.1 hR.2.1 (fun j9 hj9 => by obtain ⟨so, a, k, r, q, ch, h1, h2, h3⟩ := hR.msg hj9; exact ⟨so, a, k, q, h2⟩)) (vx_cwSW 3 hts gL_law_L_take rfl rfl rfl (by decide +kernel) ⟨Nat.le_of_ble_eq_true rfl, Nat.le_of_ble_eq_true rfl⟩) (hL.pre hK hZ hN hS hA [.ref (cA z 6 0), .int (xs (6 * j + 1)), .ref qo]) rfl rfl hl.1 rfl (lv_room (Nat.le_of_ble_eq_true rfl)) dL_law_380 ⟨by show cs + 2 ≤ 601024; omega, by show sl + 9 ≤ 7293034; omega⟩) hL hS hA (fun w u f1 H locs hc hL hS => ?_)
  refine lv_istore (lv' := [(5, _), (4, _), (0, _), (1, _), (2, _), (3, _)]) hx hb dL_law_383 hl (by decide) rfl (fun ls hl => ?_)
  refine lv_aload_n hx hb dL_law_385 rfl (lv_at hl 4 rfl) ?_
  refine lv_aload_n hx hb dL_law_386 rfl (lv_at hl 2 rfl) ?_
  refine lv_iload hx hb dL_law_387 (lv_at hl 1 rfl) ?_
  refine lv_iconst (v := 1) hx hb dL_law_389 (by decide) ?_
  refine lv_iadd hx hb dL_law_390 ?_
  refine s_ld (k := 6 * j + 1) hx hb hX hbl hbA hS (nI_add (6 * j) 1) (by omega) h3072 dL_law_391 ?_
  refine lc_m (va_runV (As := [.int (xs (6 * j + 1))]) (rest := []) ⟨hx, hb, hml, hown, hts⟩ (m7_take l D y t _ (xs (6 * j + 1)) n hR.n36.1 hR.n36.2.1 hR.2.2.1 (fun j9 hj9 => by obtain ⟨so, a, k, r, q, ch, h1, h2, h3⟩ := hR.msg hj9; exact ⟨so, a, k, r, q, ch, h1⟩)) (cwV 1 hts gL_law_X7_take rfl rfl rfl (by decide +kernel) ⟨Nat.le_of_ble_eq_true rfl, Nat.le_of_ble_eq_true rfl⟩) (hL.preM hK [.int (xs (6 * j + 1))]) rfl rfl hl.1 rfl (lv_room (Nat.le_of_ble_eq_true rfl)) dL_law_392 ⟨by show cs + 2 + 0 ≤ 601024; omega, by show sl + 9 + 0 ≤ 7293034; omega⟩) hL hS hA (fun v7 u7 H locs hm hL hS => ?_)
  obtain ⟨⟨ag1, ⟨n9, hR9⟩, ag3, ag4⟩, x9, hv9, hval⟩ := Ag_take hR (xs (6 * j + 1)) hc hm
  subst hv9
  refine lv_istore (lv' := [(6, _), (5, _), (4, _), (0, _), (1, _), (2, _), (3, _)]) hx hb dL_law_395 hl (by decide) rfl (fun ls hl => ?_)
  rw [← ag3, ← ag4] at hl
  refine lv_aload_n hx hb dL_law_397 rfl (lv_at hl 5 rfl) ?_
  refine lc_m (va_runV (As := []) (rest := []) ⟨hx, hb, hml, hown, hts⟩ (m7_thrown l D y u7 _) (cwV 0 hts gL_law_X7_thrown rfl rfl rfl (by decide +kernel) ⟨Nat.le_of_ble_eq_true rfl, Nat.le_of_ble_eq_true rfl⟩) (hL.preM hK []) rfl rfl hl.1 rfl (lv_room (Nat.le_of_ble_eq_true rfl)) dL_law_398 ⟨by show cs + 2 + 0 + 0 ≤ 601024; omega, by show sl + 9 + 0 + 0 ≤ 7293034; omega⟩) hL hS hA (fun v8 u8 H locs hm8 hL hS => ?_)
  obtain ⟨rfl, e8⟩ := hm8
  replace e8 := e8.symm
  subst e8
  refine lv_iload hx hb dL_law_401 (lv_at hl 1 rfl) ?_
  refine lv_icmp_eq (tgt := 408) hx hb dL_law_403 (by decide) (fun _ => ?_) (fun h9 => absurd ag1 h9)
  refine lv_iload hx hb dL_law_408 (lv_at hl 1 rfl) ?_
  refine lv_if_ne (tgt := 425) hx hb dL_law_410 (by decide) (fun _ => ?_) (fun h0 => ?_)
  · refine W.widen (k := cs + 1001) (n := sl + 3006) (by omega) (by omega) ?_
    refine lv_goto (tgt := 1174) hx hb dL_law_425 (by decide) ?_
    refine lv_iinc (v := nI (6 * (j + 1))) (lv' := [(4, _), (6, _), (5, _), (0, _), (1, _), (2, _), (3, _)]) hx hb dL_law_1174 hl (k := 2) rfl (nI_add (6 * j) 6) (by decide) rfl (fun ls hl => ?_)
    refine lv_goto (tgt := 23) hx hb dL_law_1177 (by decide) ?_
    exact kk _ _ _ _ H locs ls hR9 hL hS (lv_sub hl [0, 3, 4, 5, 6] rfl)
  · refine lv_aload_n hx hb dL_law_413 rfl (lv_at hl 6 rfl) ?_
    refine lv_iconst (v := 0) hx hb dL_law_414 (by decide) ?_
    refine out_ld hx hb hK.1 hL.2.2.1 dL_law_415 ?_
    refine lv_iload hx hb dL_law_416 (lv_at hl 0 rfl) ?_
    refine lv_i2l hx hb dL_law_418 rfl ?_
    refine W.lcmp hx hb dL_law_419 ?_
    refine lv_if_eq (tgt := 425) hx hb dL_law_420 (by decide) (fun _ => ?_) (fun h9 => absurd ((lg_cmp_eq _ _).mpr (hval h0)) h9)
    refine W.widen (k := cs + 1001) (n := sl + 3006) (by omega) (by omega) ?_
    refine lv_goto (tgt := 1174) hx hb dL_law_425 (by decide) ?_
    refine lv_iinc (v := nI (6 * (j + 1))) (lv' := [(4, _), (6, _), (5, _), (0, _), (1, _), (2, _), (3, _)]) hx hb dL_law_1174 hl (k := 2) rfl (nI_add (6 * j) 6) (by decide) rfl (fun ls hl => ?_)
    refine lv_goto (tgt := 23) hx hb dL_law_1177 (by decide) ?_
    exact kk _ _ _ _ H locs ls hR9 hL hS (lv_sub hl [0, 3, 4, 5, 6] rfl)
