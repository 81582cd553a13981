/-- the reference's world on the way: a of its arrays are made -/
def nN (a : Nat) : Nat → Nat := fun k => if k = 0 then 1 else if k = 1 then a else 0
def nR (ad : Nat → Nat → Nat) (a j : Nat) : Value := if j < a then .ref (ad 1 j) else .null
def nFs (ad : Nat → Nat → Nat) (a : Nat) : List Value := [.int 0, nR ad a 0, nR ad a 1, nR ad a 2, nR ad a 3, nR ad a 4, nR ad a 5, nR ad a 6, nR ad a 7, nR ad a 8, nR ad a 9, nR ad a 10, nR ad a 11, nR ad a 12, nR ad a 13, nR ad a 14, nR ad a 15, nR ad a 16, nR ad a 17, nR ad a 18, nR ad a 19, nR ad a 20, nR ad a 21, nR ad a 22, nR ad a 23, nR ad a 24, nR ad a 25, nR ad a 26, .int 0, nR ad a 27, nR ad a 28, nR ad a 29, nR ad a 30, nR ad a 31, nR ad a 32, nR ad a 33, nR ad a 34, nR ad a 35, .int 0]
def zB (ad : Nat → Nat → Nat) : MS := (ad, (fun _ _ => 0), (fun _ _ => 0))
def nC (y : Nat → ClassId) (ad : Nat → Nat → Nat) (a : Nat) : Nat → Nat → va_E := fun k i => if k = 0 then .inr (7, nFs ad a) else mC y (zB ad) 1 i
theorem nN_up (a : Nat) : va_up (nN a) 1 (a + 1) = nN (a + 1) := by
  funext k; unfold va_up nN; by_cases h : k = 1
  · subst h; simp
  · simp [h]
section NST
variable {p : Program} {l : Launch} {e : Env} {R : Room} {s : State} {m : MethodId} {args : Array Value} {below : List Frame} {meth : Method} {c : Code} {H : Heap} {locs : List Loc} {cells slots : Nat} {Q : State → Prop}
variable {cc : ByteArray} {pc : Nat} {ls : Array Slot} {rest : List Value} {D : va_G} {y : Nat → ClassId} {A : Nat → Prop} {ad : Nat → Nat → Nat} {H0 : Heap} {Ts : List Cond}
theorem n_put (hx : p.tables.exec = Jvm.exec) (hb : c.code = cc) (hts : ∀ w ∈ Ts, w.before args s = true) (hin : ∀ w ∈ wsX70, w ∈ Ts) (hown : s.vm.findClass RX7 = some m.cls) (hK : va_K D vwCl (ctys y) s) (hS : va_S A H0 H locs) (hnm : meth.name = "<init>") {a q q0 : Nat} {E : va_E} (hW : gw D A (up2 ad 1 a q) (va_up (nN a) 1 (a + 1)) (up2 (nC y ad a) 1 a E) H) (hE : E = mC y (zB ad) 1 a) (hq0 : q0 = ad 0 0) (f : Nat) (hf : f < 39) {index : Nat} (hlink : (Cond.fieldLink RX7 index RX7 (TX7 f).2.1 (TX7 f).2.2.1).before args s = true) (ho : (TX7 f).1 = RX7) (hfin : (TX7 f).2.2.2 = true) {ty : FieldType} (hd : parseFieldDescriptor (TX7 f).2.2.1 = some ty) (hn : narrow ty (.ref q) = .ref q) (hfit : fits ty (.ref q) = true) (hset : nFs (up2 ad 1 a q) (a + 1) = (nFs ad a).set f (.ref q)) (hdg : decode cc pc = .ok (.putfield index, 3))
    (kk : ∀ (H1 : Heap) (locs1 : List Loc), gw D A (up2 ad 1 a q) (nN (a + 1)) (nC y (up2 ad 1 a q) (a + 1)) H1 → va_S A H0 H1 locs1 → W p l e R s m args below meth c H1 locs1 cells slots Q (F0 m (pc + 3) ls rest)) : W p l e R s m args below meth c H locs cells slots Q (F0 m pc ls (.ref q :: .ref q0 :: rest)) := by
  subst hE
  rw [nN_up] at hW
  refine gz_putF (ci := 7) (C := RX7) (T := TX7) (Nf := 39) hx hb hts hin tyX7 tyX7_ok nmX7 hown hK hW hS (k := 0) (i := 0) (show 0 < nN (a + 1) 0 from Nat.zero_lt_one) (by rw [up2_k (by decide)]; exact hq0) (fs := nFs ad a) (by rw [up2_k (by decide)]; rfl) rfl f hf hlink (fun x h9 => by rw [ho] at h9; exact h9) hfin hnm ho hd hn hfit hf hdg (cell' := nC y (up2 ad 1 a q) (a + 1)) (by unfold nC; rw [if_pos rfl, hset]) (fun k' i' hi' h => ?_) kk
  unfold nC
  by_cases g0 : k' = 0
  · subst g0; exact absurd ⟨rfl, (by have h9 : i' < 1 := hi'; omega)⟩ h
  · rw [if_neg g0]
    by_cases g1 : k' = 1
    · subst g1
      by_cases g2 : i' = a
      · subst g2; rw [up2_s]; rfl
      · rw [up2_i g2, if_neg g0]; rfl
    · exfalso; simp [nN, g0, g1] at hi'
end NST
set_option maxHeartbeats 4000000 in
set_option maxRecDepth 100000 in
theorem g_Model_init (l : Launch) (D : va_G) (y : Nat → ClassId) (ad : Nat → Nat → Nat) (N : Nat → Nat) (cell : Nat → Nat → va_E) (sz : Nat) (hN : N = fun k => if k = 0 then 1 else 0) (hc : cell 0 0 = .inr (7, [.int 0, .null, .null, .null, .null, .null, .null, .null, .null, .null, .null, .null, .null, .null, .null, .null, .null, .null, .null, .null, .null, .null, .null, .null, .null, .null, .null, .null, .int 0, .null, .null, .null, .null, .null, .null, .null, .null, .null, .int 0])) : Met l yX7_init wsX7_init ({ frames := 1, cells := 36, slots := 4465, locals := 20 }) (va_Pc [.ref (ad 0 0)] (gPre D y ad N cell sz)) (gQ0 D ad N sz (fun ad' N' cell' => ∃ t, mStart t ∧ mA t 0 0 = ad 0 0 ∧ ad' = mA t ∧ N' = mN t ∧ cell' = mC y t)) 36 4465 (gA ad N sz) := by
  refine Met.ofW (cc := cX7_init) (maxL := 2) (ret := none) (by decide) rfl ?_
  intro p e s m args below meth c s₁ B hml hv
  obtain ⟨rfl, hsz, hW0, hK, hO⟩ := hv
  have hx := B.exec
  have hb := B.bytes
  have hr := B.returns
  have hts := atoms_spec (ws := wsX7_init) B.pre
  have hown : s.vm.findClass RX7 = some m.cls := findClass_of_methodNamed B.named
  have hin : meth.name = "<init>" := (name_of_methodNamed B.named B.method).1
  subst hsz
  have hW := hW0.self (sz := s.heap.size)
  have hA : ∀ q, s.heap.size ≤ q → gA ad N s.heap.size q := fun q h => Or.inr h
  have hS : va_S (gA ad N s.heap.size) s.heap s.heap [] := va_S.rf
  have hl := lv_entry ([.ref (ad 0 0)]) (n := 2) (Nat.le_of_ble_eq_true rfl)
  rw [lg_entry_eq]
  generalize (lg_sl ([.ref (ad 0 0)]) ++ List.replicate (2 - (lg_sl ([.ref (ad 0 0)])).length) Slot.unset).toArray = ls at hl ⊢
  have hl : lv_has ls 2 [(0, .ref (ad 0 0))] := hl
  have hX7 : ∀ w ∈ wsX70, w ∈ wsX7_init := by decide +kernel
  have loopB : ∀ (k n : Nat) (x : MS) (H : Heap) (locs : List Loc) (ls : Array Slot), n + k = 4 → (((∀ f i, f ≠ 15 → f ≠ 16 → f ≠ 19 → mI x f i = 0) ∧ (∀ i, i < 8 → mI x 15 i = 7 ∧ mI x 16 i = 2) ∧ ∀ f i, mJ x f i = 0) ∧ ∀ i, i < n → mI x 19 i = -1) → mA x 0 0 = ad 0 0 → mw D y (gA ad N s.heap.size) x H → va_S (gA ad N s.heap.size) s.heap H locs → lv_has ls 2 [(1, .int (nI n)), (0, .ref (mA x 0 0))] → W p l e (headSpec wsX7_init { frames := 1, cells := 36, slots := 4465, locals := 20 }).room s m #[.ref (ad 0 0)] below meth c H locs 36 4465 (MQ below (gQ0 D ad N s.heap.size (fun ad' N' cell' => ∃ t, mStart t ∧ mA t 0 0 = ad 0 0 ∧ ad' = mA t ∧ N' = mN t ∧ cell' = mC y t)) #[.ref (ad 0 0)] s 36 4465 (gA ad N s.heap.size)) (F0 m 331 ls []) := by
    intro k
    induction k with
    | zero =>
      intro n x H locs ls hn hinv hax hW hS hl
      refine lv_iload_n hx hb dX7_init_331 rfl (lv_at hl 0 rfl) ?_
      refine lv_iconst (v := 4) hx hb dX7_init_332 (by decide) ?_
      refine lv_icmp_ge (tgt := 349) hx hb dX7_init_333 (by decide) (fun _ => ?_) (fun c_9 => absurd (show (4 : Int32) ≤ nI n from nI_le (a := 4) (by omega) (by omega)) c_9)
      obtain ⟨⟨i1, i2, i4⟩, i3⟩ := hinv
      refine W.vret hx hb hr ?_ hS.2.2 dX7_init_349
      refine gq0 ?_ hW hS
      exact ⟨x, ⟨i1, i2, fun a ha => i3 a (by omega), i4⟩, hax, rfl, rfl, rfl⟩
    | succ k ih =>
      intro n x H locs ls hn hinv hax hW hS hl
      refine lv_iload_n hx hb dX7_init_331 rfl (lv_at hl 0 rfl) ?_
      refine lv_iconst (v := 4) hx hb dX7_init_332 (by decide) ?_
      refine lv_icmp_ge (tgt := 349) hx hb dX7_init_333 (by decide) (fun c_9 => absurd c_9 (show ¬ (4 : Int32) ≤ nI n from nI_ge (b := 4) (by omega) (by decide))) (fun _ => ?_)
      refine lv_aload_n hx hb dX7_init_336 rfl (lv_at hl 1 rfl) ?_
      refine gM 20 hx hb hts hX7 hown hK.1 hW rfl (by decide) rfl (hts (.fieldLink RX7 69 "SharedRegistersModel" "now" "[I") (by decide +kernel)) rfl dX7_init_337 ?_
      refine lv_iload_n hx hb dX7_init_340 rfl (lv_at hl 0 rfl) ?_
      refine lv_iconst (v := (-1)) hx hb dX7_init_341 (by decide) ?_
      refine mis_n 19 hx hb hK.1 hW hS rfl (by decide) rfl (i := n) (show n < 4 by omega) (by decide) dX7_init_342 (fun H locs hW hS => ?_)
      refine lv_iinc (v := nI (n + 1)) (lv' := [(1, _), (0, _)]) hx hb dX7_init_343 hl (k := 0) rfl (nI_1 n) (by decide) rfl (fun ls hl => ?_)
      refine lv_goto (tgt := 331) hx hb dX7_init_346 (by decide) ?_
      obtain ⟨⟨i1, i2, i4⟩, i3⟩ := hinv
      refine ih (n + 1) (tI x 19 n (-1)) H locs ls (by omega) ⟨⟨fun f i h1 h2 h3 => ?_, fun i hi => ?_, i4⟩, fun i hi => ?_⟩ hax hW hS hl
      · rw [tI_mI, up2_k h3]; exact i1 f i h1 h2 h3
      · rw [tI_mI, up2_k (by decide), up2_k (by decide)]; exact i2 i hi
      · rw [tI_mI]
        by_cases e1 : i = n
        · subst e1; exact up2_s _ _ _ _
        · rw [up2_i e1]; exact i3 i (by omega)
  have loopA : ∀ (k n : Nat) (x : MS) (H : Heap) (locs : List Loc) (ls : Array Slot), n + k = 8 → ((∀ f i, f ≠ 15 → f ≠ 16 → f ≠ 19 → mI x f i = 0) ∧ (∀ i, i < n → mI x 15 i = 7 ∧ mI x 16 i = 2) ∧ ∀ f i, mJ x f i = 0) → mA x 0 0 = ad 0 0 → mw D y (gA ad N s.heap.size) x H → va_S (gA ad N s.heap.size) s.heap H locs → lv_has ls 2 [(1, .int (nI n)), (0, .ref (mA x 0 0))] → W p l e (headSpec wsX7_init { frames := 1, cells := 36, slots := 4465, locals := 20 }).room s m #[.ref (ad 0 0)] below meth c H locs 36 4465 (MQ below (gQ0 D ad N s.heap.size (fun ad' N' cell' => ∃ t, mStart t ∧ mA t 0 0 = ad 0 0 ∧ ad' = mA t ∧ N' = mN t ∧ cell' = mC y t)) #[.ref (ad 0 0)] s 36 4465 (gA ad N s.heap.size)) (F0 m 302 ls []) := by
    intro k
    induction k with
    | zero =>
      intro n x H locs ls hn hinv hax hW hS hl
      refine lv_iload_n hx hb dX7_init_302 rfl (lv_at hl 0 rfl) ?_
      refine lv_bipush (v := 8) hx hb dX7_init_303 (by decide) ?_
      refine lv_icmp_ge (tgt := 329) hx hb dX7_init_305 (by decide) (fun _ => ?_) (fun c_9 => absurd (show (8 : Int32) ≤ nI n from nI_le (a := 8) (by omega) (by omega)) c_9)
      refine lv_iconst (v := 0) hx hb dX7_init_329 (by decide) ?_
      refine lv_istore_n (lv' := [(1, _), (0, _)]) hx hb dX7_init_330 rfl hl (by decide) rfl (fun ls hl => ?_)
      obtain ⟨i1, i2, i4⟩ := hinv
      exact loopB 4 0 x H locs ls (by omega) ⟨⟨i1, fun i hi => i2 i (by omega), i4⟩, fun i hi => absurd hi (Nat.not_lt_zero _)⟩ hax hW hS hl
    | succ k ih =>
      intro n x H locs ls hn hinv hax hW hS hl
      refine lv_iload_n hx hb dX7_init_302 rfl (lv_at hl 0 rfl) ?_
      refine lv_bipush (v := 8) hx hb dX7_init_303 (by decide) ?_
      refine lv_icmp_ge (tgt := 329) hx hb dX7_init_305 (by decide) (fun c_9 => absurd c_9 (show ¬ (8 : Int32) ≤ nI n from nI_ge (b := 8) (by omega) (by decide))) (fun _ => ?_)
      refine lv_aload_n hx hb dX7_init_308 rfl (lv_at hl 1 rfl) ?_
      refine gM 16 hx hb hts hX7 hown hK.1 hW rfl (by decide) rfl (hts (.fieldLink RX7 57 "SharedRegistersModel" "set" "[I") (by decide +kernel)) rfl dX7_init_309 ?_
      refine lv_iload_n hx hb dX7_init_312 rfl (lv_at hl 0 rfl) ?_
      refine lv_bipush (v := 7) hx hb dX7_init_313 (by decide) ?_
      refine mis_n 15 hx hb hK.1 hW hS rfl (by decide) rfl (i := n) (show n < 8 by omega) (by decide) dX7_init_315 (fun H locs hW hS => ?_)
      refine lv_aload_n hx hb dX7_init_316 rfl (lv_at hl 1 rfl) ?_
      refine gM 17 hx hb hts hX7 hown hK.1 hW (show mA x 0 0 = mA (tI x 15 n 7) 0 0 from rfl) (by decide) rfl (hts (.fieldLink RX7 60 "SharedRegistersModel" "enough" "[I") (by decide +kernel)) rfl dX7_init_317 ?_
      refine lv_iload_n hx hb dX7_init_320 rfl (lv_at hl 0 rfl) ?_
      refine lv_iconst (v := 2) hx hb dX7_init_321 (by decide) ?_
      refine mis_n 16 hx hb hK.1 hW hS rfl (by decide) rfl (i := n) (show n < 8 by omega) (by decide) dX7_init_322 (fun H locs hW hS => ?_)
      refine lv_iinc (v := nI (n + 1)) (lv' := [(1, _), (0, _)]) hx hb dX7_init_323 hl (k := 0) rfl (nI_1 n) (by decide) rfl (fun ls hl => ?_)
      refine lv_goto (tgt := 302) hx hb dX7_init_326 (by decide) ?_
      obtain ⟨i1, i2, i4⟩ := hinv
      refine ih (n + 1) (tI (tI x 15 n 7) 16 n 2) H locs ls (by omega) ⟨fun f i h1 h2 h3 => ?_, fun i hi => ?_, i4⟩ hax hW hS hl
      · rw [tI_mI, up2_k h2, tI_mI, up2_k h1]; exact i1 f i h1 h2 h3
      · rw [tI_mI, tI_mI, up2_k (show 15 ≠ 16 by decide)]
        by_cases e1 : i = n
        · subst e1; exact ⟨up2_s _ _ _ _, up2_s _ _ _ _⟩
        · rw [up2_i e1, up2_i e1, up2_k (by decide)]; exact i2 i (by omega)
  refine lv_aload_n hx hb dX7_init_0 rfl (lv_at hl 0 rfl) ?_
  refine W.objInit hx hb hown (hts (.methodLink RX7 1 objectInit) (by decide +kernel)) (hts (.instanceMethod objectInit) (by decide +kernel)) (hts (.code objectInit ⟨#[0xb1]⟩ 1 none) (by decide +kernel)) rfl (by rw [hml]; exact hl.1) rfl dX7_init_1 (Nat.le_of_ble_eq_true rfl) (Nat.le_of_ble_eq_true rfl) ?_
  refine W.eq (g2 := F0 m 4 ls []) rfl ?_
  have hW : gw D (gA ad N s.heap.size) ad (nN 0) (nC y ad 0) s.heap := gw.shape hW (fun k => by subst hN; unfold nN; by_cases g : k = 0; (simp [g]); (simp [g])) (fun k i hi => ⟨rfl, (by subst hN; by_cases g : k = 0; (subst g; have e9 : i = 0 := (by have h9 : i < 1 := hi; omega); subst e9; rw [hc]; rfl); (simp [g] at hi))⟩)
  refine lv_aload_n hx hb dX7_init_4 rfl (lv_at hl 0 rfl) ?_
  refine lv_sipush (v := 301) hx hb dX7_init_5 (by decide) ?_
  refine gz_newI 1 (j := 0) (N' := 301) (show nN 0 1 = 0 from rfl) hx hb (hts (.arrayClass .int) (by decide +kernel)) hK.1 hW hS hA (show ¬ (301 : Int32) < 0 by decide) rfl (by decide) (Nat.le_of_ble_eq_true rfl) (Nat.le_of_ble_eq_true rfl) dX7_init_8 (fun q0 H hW hS => ?_)
  refine n_put hx hb hts hX7 hown hK.1 hS hin hW rfl rfl 1 (by decide) (hts (.fieldLink RX7 7 "SharedRegistersModel" "sort" "[I") (by decide +kernel)) rfl rfl (ty := .array .int) (by decide +kernel) rfl rfl rfl dX7_init_10 (fun H locs hW hS => ?_)
  have h00 : up2 ad 1 0 q0 0 0 = ad 0 0 := up2_k (by decide)
  generalize up2 ad 1 0 q0 = ad0 at hW h00
  refine lv_aload_n hx hb dX7_init_13 rfl (lv_at hl 0 rfl) ?_
  refine lv_sipush (v := 301) hx hb dX7_init_14 (by decide) ?_
  refine gz_newI 1 (j := 1) (N' := 301) (show nN 1 1 = 1 from rfl) hx hb (hts (.arrayClass .int) (by decide +kernel)) hK.1 hW hS hA (show ¬ (301 : Int32) < 0 by decide) rfl (by decide) (Nat.le_of_ble_eq_true rfl) (Nat.le_of_ble_eq_true rfl) dX7_init_17 (fun q1 H hW hS => ?_)
  refine n_put hx hb hts hX7 hown hK.1 hS hin hW rfl h00.symm 2 (by decide) (hts (.fieldLink RX7 13 "SharedRegistersModel" "who" "[I") (by decide +kernel)) rfl rfl (ty := .array .int) (by decide +kernel) rfl rfl rfl dX7_init_19 (fun H locs hW hS => ?_)
  have h00 : up2 ad0 1 1 q1 0 0 = ad 0 0 := (up2_k (by decide)).trans h00
  generalize up2 ad0 1 1 q1 = ad1 at hW h00
  refine lv_aload_n hx hb dX7_init_22 rfl (lv_at hl 0 rfl) ?_
  refine lv_sipush (v := 301) hx hb dX7_init_23 (by decide) ?_
  refine gz_newI 1 (j := 2) (N' := 301) (show nN 2 1 = 2 from rfl) hx hb (hts (.arrayClass .int) (by decide +kernel)) hK.1 hW hS hA (show ¬ (301 : Int32) < 0 by decide) rfl (by decide) (Nat.le_of_ble_eq_true rfl) (Nat.le_of_ble_eq_true rfl) dX7_init_26 (fun q2 H hW hS => ?_)
  refine n_put hx hb hts hX7 hown hK.1 hS hin hW rfl h00.symm 3 (by decide) (hts (.fieldLink RX7 16 "SharedRegistersModel" "whom" "[I") (by decide +kernel)) rfl rfl (ty := .array .int) (by decide +kernel) rfl rfl rfl dX7_init_28 (fun H locs hW hS => ?_)
  have h00 : up2 ad1 1 2 q2 0 0 = ad 0 0 := (up2_k (by decide)).trans h00
  generalize up2 ad1 1 2 q2 = ad2 at hW h00
  refine lv_aload_n hx hb dX7_init_31 rfl (lv_at hl 0 rfl) ?_
  refine lv_sipush (v := 301) hx hb dX7_init_32 (by decide) ?_
  refine gz_newI 1 (j := 3) (N' := 301) (show nN 3 1 = 3 from rfl) hx hb (hts (.arrayClass .int) (by decide +kernel)) hK.1 hW hS hA (show ¬ (301 : Int32) < 0 by decide) rfl (by decide) (Nat.le_of_ble_eq_true rfl) (Nat.le_of_ble_eq_true rfl) dX7_init_35 (fun q3 H hW hS => ?_)
  refine n_put hx hb hts hX7 hown hK.1 hS hin hW rfl h00.symm 4 (by decide) (hts (.fieldLink RX7 19 "SharedRegistersModel" "about" "[I") (by decide +kernel)) rfl rfl (ty := .array .int) (by decide +kernel) rfl rfl rfl dX7_init_37 (fun H locs hW hS => ?_)
  have h00 : up2 ad2 1 3 q3 0 0 = ad 0 0 := (up2_k (by decide)).trans h00
  generalize up2 ad2 1 3 q3 = ad3 at hW h00
  refine lv_aload_n hx hb dX7_init_40 rfl (lv_at hl 0 rfl) ?_
  refine lv_sipush (v := 301) hx hb dX7_init_41 (by decide) ?_
  refine gz_newI 1 (j := 4) (N' := 301) (show nN 4 1 = 4 from rfl) hx hb (hts (.arrayClass .int) (by decide +kernel)) hK.1 hW hS hA (show ¬ (301 : Int32) < 0 by decide) rfl (by decide) (Nat.le_of_ble_eq_true rfl) (Nat.le_of_ble_eq_true rfl) dX7_init_44 (fun q4 H hW hS => ?_)
  refine n_put hx hb hts hX7 hown hK.1 hS hin hW rfl h00.symm 5 (by decide) (hts (.fieldLink RX7 22 "SharedRegistersModel" "ballot" "[I") (by decide +kernel)) rfl rfl (ty := .array .int) (by decide +kernel) rfl rfl rfl dX7_init_46 (fun H locs hW hS => ?_)
  have h00 : up2 ad3 1 4 q4 0 0 = ad 0 0 := (up2_k (by decide)).trans h00
  generalize up2 ad3 1 4 q4 = ad4 at hW h00
  refine lv_aload_n hx hb dX7_init_49 rfl (lv_at hl 0 rfl) ?_
  refine lv_sipush (v := 301) hx hb dX7_init_50 (by decide) ?_
  refine gz_newZ 1 (j := 5) (N' := 301) (show nN 5 1 = 5 from rfl) hx hb (hts (.arrayClass .boolean) (by decide +kernel)) hK.1 hW hS hA (show ¬ (301 : Int32) < 0 by decide) rfl (by decide) (Nat.le_of_ble_eq_true rfl) (Nat.le_of_ble_eq_true rfl) dX7_init_53 (fun q5 H hW hS => ?_)
  refine n_put hx hb hts hX7 hown hK.1 hS hin hW rfl h00.symm 6 (by decide) (hts (.fieldLink RX7 25 "SharedRegistersModel" "tells" "[Z") (by decide +kernel)) rfl rfl (ty := .array .boolean) (by decide +kernel) rfl rfl rfl dX7_init_55 (fun H locs hW hS => ?_)
  have h00 : up2 ad4 1 5 q5 0 0 = ad 0 0 := (up2_k (by decide)).trans h00
  generalize up2 ad4 1 5 q5 = ad5 at hW h00
  refine lv_aload_n hx hb dX7_init_58 rfl (lv_at hl 0 rfl) ?_
  refine lv_sipush (v := 301) hx hb dX7_init_59 (by decide) ?_
  refine gz_newI 1 (j := 6) (N' := 301) (show nN 6 1 = 6 from rfl) hx hb (hts (.arrayClass .int) (by decide +kernel)) hK.1 hW hS hA (show ¬ (301 : Int32) < 0 by decide) rfl (by decide) (Nat.le_of_ble_eq_true rfl) (Nat.le_of_ble_eq_true rfl) dX7_init_62 (fun q6 H hW hS => ?_)
  refine n_put hx hb hts hX7 hown hK.1 hS hin hW rfl h00.symm 7 (by decide) (hts (.fieldLink RX7 29 "SharedRegistersModel" "version" "[I") (by decide +kernel)) rfl rfl (ty := .array .int) (by decide +kernel) rfl rfl rfl dX7_init_64 (fun H locs hW hS => ?_)
  have h00 : up2 ad5 1 6 q6 0 0 = ad 0 0 := (up2_k (by decide)).trans h00
  generalize up2 ad5 1 6 q6 = ad6 at hW h00
  refine lv_aload_n hx hb dX7_init_67 rfl (lv_at hl 0 rfl) ?_
  refine lv_sipush (v := 301) hx hb dX7_init_68 (by decide) ?_
  refine gz_newJ 1 (j := 7) (N' := 301) (show nN 7 1 = 7 from rfl) hx hb (hts (.arrayClass .long) (by decide +kernel)) hK.1 hW hS hA (show ¬ (301 : Int32) < 0 by decide) rfl (by decide) (Nat.le_of_ble_eq_true rfl) (Nat.le_of_ble_eq_true rfl) dX7_init_71 (fun q7 H hW hS => ?_)
  refine n_put hx hb hts hX7 hown hK.1 hS hin hW rfl h00.symm 8 (by decide) (hts (.fieldLink RX7 32 "SharedRegistersModel" "value" "[J") (by decide +kernel)) rfl rfl (ty := .array .long) (by decide +kernel) rfl rfl rfl dX7_init_73 (fun H locs hW hS => ?_)
  have h00 : up2 ad6 1 7 q7 0 0 = ad 0 0 := (up2_k (by decide)).trans h00
  generalize up2 ad6 1 7 q7 = ad7 at hW h00
  refine lv_aload_n hx hb dX7_init_76 rfl (lv_at hl 0 rfl) ?_
  refine lv_bipush (v := 9) hx hb dX7_init_77 (by decide) ?_
  refine gz_newZ 1 (j := 8) (N' := 9) (show nN 8 1 = 8 from rfl) hx hb (hts (.arrayClass .boolean) (by decide +kernel)) hK.1 hW hS hA (show ¬ (9 : Int32) < 0 by decide) rfl (by decide) (Nat.le_of_ble_eq_true rfl) (Nat.le_of_ble_eq_true rfl) dX7_init_79 (fun q8 H hW hS => ?_)
  refine n_put hx hb hts hX7 hown hK.1 hS hin hW rfl h00.symm 9 (by decide) (hts (.fieldLink RX7 36 "SharedRegistersModel" "isDown" "[Z") (by decide +kernel)) rfl rfl (ty := .array .boolean) (by decide +kernel) rfl rfl rfl dX7_init_81 (fun H locs hW hS => ?_)
  have h00 : up2 ad7 1 8 q8 0 0 = ad 0 0 := (up2_k (by decide)).trans h00
  generalize up2 ad7 1 8 q8 = ad8 at hW h00
  refine lv_aload_n hx hb dX7_init_84 rfl (lv_at hl 0 rfl) ?_
  refine lv_bipush (v := 36) hx hb dX7_init_85 (by decide) ?_
  refine gz_newI 1 (j := 9) (N' := 36) (show nN 9 1 = 9 from rfl) hx hb (hts (.arrayClass .int) (by decide +kernel)) hK.1 hW hS hA (show ¬ (36 : Int32) < 0 by decide) rfl (by decide) (Nat.le_of_ble_eq_true rfl) (Nat.le_of_ble_eq_true rfl) dX7_init_87 (fun q9 H hW hS => ?_)
  refine n_put hx hb hts hX7 hown hK.1 hS hin hW rfl h00.symm 10 (by decide) (hts (.fieldLink RX7 39 "SharedRegistersModel" "promise" "[I") (by decide +kernel)) rfl rfl (ty := .array .int) (by decide +kernel) rfl rfl rfl dX7_init_89 (fun H locs hW hS => ?_)
  have h00 : up2 ad8 1 9 q9 0 0 = ad 0 0 := (up2_k (by decide)).trans h00
  generalize up2 ad8 1 9 q9 = ad9 at hW h00
  refine lv_aload_n hx hb dX7_init_92 rfl (lv_at hl 0 rfl) ?_
  refine lv_bipush (v := 36) hx hb dX7_init_93 (by decide) ?_
  refine gz_newI 1 (j := 10) (N' := 36) (show nN 10 1 = 10 from rfl) hx hb (hts (.arrayClass .int) (by decide +kernel)) hK.1 hW hS hA (show ¬ (36 : Int32) < 0 by decide) rfl (by decide) (Nat.le_of_ble_eq_true rfl) (Nat.le_of_ble_eq_true rfl) dX7_init_95 (fun q10 H hW hS => ?_)
  refine n_put hx hb hts hX7 hown hK.1 hS hin hW rfl h00.symm 11 (by decide) (hts (.fieldLink RX7 42 "SharedRegistersModel" "accepted" "[I") (by decide +kernel)) rfl rfl (ty := .array .int) (by decide +kernel) rfl rfl rfl dX7_init_97 (fun H locs hW hS => ?_)
  have h00 : up2 ad9 1 10 q10 0 0 = ad 0 0 := (up2_k (by decide)).trans h00
  generalize up2 ad9 1 10 q10 = ad10 at hW h00
  refine lv_aload_n hx hb dX7_init_100 rfl (lv_at hl 0 rfl) ?_
  refine lv_bipush (v := 36) hx hb dX7_init_101 (by decide) ?_
  refine gz_newZ 1 (j := 11) (N' := 36) (show nN 11 1 = 11 from rfl) hx hb (hts (.arrayClass .boolean) (by decide +kernel)) hK.1 hW hS hA (show ¬ (36 : Int32) < 0 by decide) rfl (by decide) (Nat.le_of_ble_eq_true rfl) (Nat.le_of_ble_eq_true rfl) dX7_init_103 (fun q11 H hW hS => ?_)
  refine n_put hx hb hts hX7 hown hK.1 hS hin hW rfl h00.symm 12 (by decide) (hts (.fieldLink RX7 45 "SharedRegistersModel" "there" "[Z") (by decide +kernel)) rfl rfl (ty := .array .boolean) (by decide +kernel) rfl rfl rfl dX7_init_105 (fun H locs hW hS => ?_)
  have h00 : up2 ad10 1 11 q11 0 0 = ad 0 0 := (up2_k (by decide)).trans h00
  generalize up2 ad10 1 11 q11 = ad11 at hW h00
  refine lv_aload_n hx hb dX7_init_108 rfl (lv_at hl 0 rfl) ?_
  refine lv_bipush (v := 36) hx hb dX7_init_109 (by decide) ?_
  refine gz_newI 1 (j := 12) (N' := 36) (show nN 12 1 = 12 from rfl) hx hb (hts (.arrayClass .int) (by decide +kernel)) hK.1 hW hS hA (show ¬ (36 : Int32) < 0 by decide) rfl (by decide) (Nat.le_of_ble_eq_true rfl) (Nat.le_of_ble_eq_true rfl) dX7_init_111 (fun q12 H hW hS => ?_)
  refine n_put hx hb hts hX7 hown hK.1 hS hin hW rfl h00.symm 13 (by decide) (hts (.fieldLink RX7 48 "SharedRegistersModel" "keptVersion" "[I") (by decide +kernel)) rfl rfl (ty := .array .int) (by decide +kernel) rfl rfl rfl dX7_init_113 (fun H locs hW hS => ?_)
  have h00 : up2 ad11 1 12 q12 0 0 = ad 0 0 := (up2_k (by decide)).trans h00
  generalize up2 ad11 1 12 q12 = ad12 at hW h00
  refine lv_aload_n hx hb dX7_init_116 rfl (lv_at hl 0 rfl) ?_
  refine lv_bipush (v := 36) hx hb dX7_init_117 (by decide) ?_
  refine gz_newJ 1 (j := 13) (N' := 36) (show nN 13 1 = 13 from rfl) hx hb (hts (.arrayClass .long) (by decide +kernel)) hK.1 hW hS hA (show ¬ (36 : Int32) < 0 by decide) rfl (by decide) (Nat.le_of_ble_eq_true rfl) (Nat.le_of_ble_eq_true rfl) dX7_init_119 (fun q13 H hW hS => ?_)
  refine n_put hx hb hts hX7 hown hK.1 hS hin hW rfl h00.symm 14 (by decide) (hts (.fieldLink RX7 51 "SharedRegistersModel" "keptValue" "[J") (by decide +kernel)) rfl rfl (ty := .array .long) (by decide +kernel) rfl rfl rfl dX7_init_121 (fun H locs hW hS => ?_)
  have h00 : up2 ad12 1 13 q13 0 0 = ad 0 0 := (up2_k (by decide)).trans h00
  generalize up2 ad12 1 13 q13 = ad13 at hW h00
  refine lv_aload_n hx hb dX7_init_124 rfl (lv_at hl 0 rfl) ?_
  refine lv_iconst (v := 4) hx hb dX7_init_125 (by decide) ?_
  refine gz_newI 1 (j := 14) (N' := 4) (show nN 14 1 = 14 from rfl) hx hb (hts (.arrayClass .int) (by decide +kernel)) hK.1 hW hS hA (show ¬ (4 : Int32) < 0 by decide) rfl (by decide) (Nat.le_of_ble_eq_true rfl) (Nat.le_of_ble_eq_true rfl) dX7_init_126 (fun q14 H hW hS => ?_)
  refine n_put hx hb hts hX7 hown hK.1 hS hin hW rfl h00.symm 15 (by decide) (hts (.fieldLink RX7 54 "SharedRegistersModel" "count" "[I") (by decide +kernel)) rfl rfl (ty := .array .int) (by decide +kernel) rfl rfl rfl dX7_init_128 (fun H locs hW hS => ?_)
  have h00 : up2 ad13 1 14 q14 0 0 = ad 0 0 := (up2_k (by decide)).trans h00
  generalize up2 ad13 1 14 q14 = ad14 at hW h00
  refine lv_aload_n hx hb dX7_init_131 rfl (lv_at hl 0 rfl) ?_
  refine lv_bipush (v := 8) hx hb dX7_init_132 (by decide) ?_
  refine gz_newI 1 (j := 15) (N' := 8) (show nN 15 1 = 15 from rfl) hx hb (hts (.arrayClass .int) (by decide +kernel)) hK.1 hW hS hA (show ¬ (8 : Int32) < 0 by decide) rfl (by decide) (Nat.le_of_ble_eq_true rfl) (Nat.le_of_ble_eq_true rfl) dX7_init_134 (fun q15 H hW hS => ?_)
  refine n_put hx hb hts hX7 hown hK.1 hS hin hW rfl h00.symm 16 (by decide) (hts (.fieldLink RX7 57 "SharedRegistersModel" "set" "[I") (by decide +kernel)) rfl rfl (ty := .array .int) (by decide +kernel) rfl rfl rfl dX7_init_136 (fun H locs hW hS => ?_)
  have h00 : up2 ad14 1 15 q15 0 0 = ad 0 0 := (up2_k (by decide)).trans h00
  generalize up2 ad14 1 15 q15 = ad15 at hW h00
  refine lv_aload_n hx hb dX7_init_139 rfl (lv_at hl 0 rfl) ?_
  refine lv_bipush (v := 8) hx hb dX7_init_140 (by decide) ?_
  refine gz_newI 1 (j := 16) (N' := 8) (show nN 16 1 = 16 from rfl) hx hb (hts (.arrayClass .int) (by decide +kernel)) hK.1 hW hS hA (show ¬ (8 : Int32) < 0 by decide) rfl (by decide) (Nat.le_of_ble_eq_true rfl) (Nat.le_of_ble_eq_true rfl) dX7_init_142 (fun q16 H hW hS => ?_)
  refine n_put hx hb hts hX7 hown hK.1 hS hin hW rfl h00.symm 17 (by decide) (hts (.fieldLink RX7 60 "SharedRegistersModel" "enough" "[I") (by decide +kernel)) rfl rfl (ty := .array .int) (by decide +kernel) rfl rfl rfl dX7_init_144 (fun H locs hW hS => ?_)
  have h00 : up2 ad15 1 16 q16 0 0 = ad 0 0 := (up2_k (by decide)).trans h00
  generalize up2 ad15 1 16 q16 = ad16 at hW h00
  refine lv_aload_n hx hb dX7_init_147 rfl (lv_at hl 0 rfl) ?_
  refine lv_bipush (v := 8) hx hb dX7_init_148 (by decide) ?_
  refine gz_newI 1 (j := 17) (N' := 8) (show nN 17 1 = 17 from rfl) hx hb (hts (.arrayClass .int) (by decide +kernel)) hK.1 hW hS hA (show ¬ (8 : Int32) < 0 by decide) rfl (by decide) (Nat.le_of_ble_eq_true rfl) (Nat.le_of_ble_eq_true rfl) dX7_init_150 (fun q17 H hW hS => ?_)
  refine n_put hx hb hts hX7 hown hK.1 hS hin hW rfl h00.symm 18 (by decide) (hts (.fieldLink RX7 63 "SharedRegistersModel" "nowSet" "[I") (by decide +kernel)) rfl rfl (ty := .array .int) (by decide +kernel) rfl rfl rfl dX7_init_152 (fun H locs hW hS => ?_)
  have h00 : up2 ad16 1 17 q17 0 0 = ad 0 0 := (up2_k (by decide)).trans h00
  generalize up2 ad16 1 17 q17 = ad17 at hW h00
  refine lv_aload_n hx hb dX7_init_155 rfl (lv_at hl 0 rfl) ?_
  refine lv_bipush (v := 8) hx hb dX7_init_156 (by decide) ?_
  refine gz_newI 1 (j := 18) (N' := 8) (show nN 18 1 = 18 from rfl) hx hb (hts (.arrayClass .int) (by decide +kernel)) hK.1 hW hS hA (show ¬ (8 : Int32) < 0 by decide) rfl (by decide) (Nat.le_of_ble_eq_true rfl) (Nat.le_of_ble_eq_true rfl) dX7_init_158 (fun q18 H hW hS => ?_)
  refine n_put hx hb hts hX7 hown hK.1 hS hin hW rfl h00.symm 19 (by decide) (hts (.fieldLink RX7 66 "SharedRegistersModel" "nowEnough" "[I") (by decide +kernel)) rfl rfl (ty := .array .int) (by decide +kernel) rfl rfl rfl dX7_init_160 (fun H locs hW hS => ?_)
  have h00 : up2 ad17 1 18 q18 0 0 = ad 0 0 := (up2_k (by decide)).trans h00
  generalize up2 ad17 1 18 q18 = ad18 at hW h00
  refine lv_aload_n hx hb dX7_init_163 rfl (lv_at hl 0 rfl) ?_
  refine lv_iconst (v := 4) hx hb dX7_init_164 (by decide) ?_
  refine gz_newI 1 (j := 19) (N' := 4) (show nN 19 1 = 19 from rfl) hx hb (hts (.arrayClass .int) (by decide +kernel)) hK.1 hW hS hA (show ¬ (4 : Int32) < 0 by decide) rfl (by decide) (Nat.le_of_ble_eq_true rfl) (Nat.le_of_ble_eq_true rfl) dX7_init_165 (fun q19 H hW hS => ?_)
  refine n_put hx hb hts hX7 hown hK.1 hS hin hW rfl h00.symm 20 (by decide) (hts (.fieldLink RX7 69 "SharedRegistersModel" "now" "[I") (by decide +kernel)) rfl rfl (ty := .array .int) (by decide +kernel) rfl rfl rfl dX7_init_167 (fun H locs hW hS => ?_)
  have h00 : up2 ad18 1 19 q19 0 0 = ad 0 0 := (up2_k (by decide)).trans h00
  generalize up2 ad18 1 19 q19 = ad19 at hW h00
  refine lv_aload_n hx hb dX7_init_170 rfl (lv_at hl 0 rfl) ?_
  refine lv_iconst (v := 4) hx hb dX7_init_171 (by decide) ?_
  refine gz_newZ 1 (j := 20) (N' := 4) (show nN 20 1 = 20 from rfl) hx hb (hts (.arrayClass .boolean) (by decide +kernel)) hK.1 hW hS hA (show ¬ (4 : Int32) < 0 by decide) rfl (by decide) (Nat.le_of_ble_eq_true rfl) (Nat.le_of_ble_eq_true rfl) dX7_init_172 (fun q20 H hW hS => ?_)
  refine n_put hx hb hts hX7 hown hK.1 hS hin hW rfl h00.symm 21 (by decide) (hts (.fieldLink RX7 72 "SharedRegistersModel" "accepting" "[Z") (by decide +kernel)) rfl rfl (ty := .array .boolean) (by decide +kernel) rfl rfl rfl dX7_init_174 (fun H locs hW hS => ?_)
  have h00 : up2 ad19 1 20 q20 0 0 = ad 0 0 := (up2_k (by decide)).trans h00
  generalize up2 ad19 1 20 q20 = ad20 at hW h00
  refine lv_aload_n hx hb dX7_init_177 rfl (lv_at hl 0 rfl) ?_
  refine lv_iconst (v := 4) hx hb dX7_init_178 (by decide) ?_
  refine gz_newI 1 (j := 21) (N' := 4) (show nN 21 1 = 21 from rfl) hx hb (hts (.arrayClass .int) (by decide +kernel)) hK.1 hW hS hA (show ¬ (4 : Int32) < 0 by decide) rfl (by decide) (Nat.le_of_ble_eq_true rfl) (Nat.le_of_ble_eq_true rfl) dX7_init_179 (fun q21 H hW hS => ?_)
  refine n_put hx hb hts hX7 hown hK.1 hS hin hW rfl h00.symm 22 (by decide) (hts (.fieldLink RX7 75 "SharedRegistersModel" "answered" "[I") (by decide +kernel)) rfl rfl (ty := .array .int) (by decide +kernel) rfl rfl rfl dX7_init_181 (fun H locs hW hS => ?_)
  have h00 : up2 ad20 1 21 q21 0 0 = ad 0 0 := (up2_k (by decide)).trans h00
  generalize up2 ad20 1 21 q21 = ad21 at hW h00
  refine lv_aload_n hx hb dX7_init_184 rfl (lv_at hl 0 rfl) ?_
  refine lv_iconst (v := 4) hx hb dX7_init_185 (by decide) ?_
  refine gz_newI 1 (j := 22) (N' := 4) (show nN 22 1 = 22 from rfl) hx hb (hts (.arrayClass .int) (by decide +kernel)) hK.1 hW hS hA (show ¬ (4 : Int32) < 0 by decide) rfl (by decide) (Nat.le_of_ble_eq_true rfl) (Nat.le_of_ble_eq_true rfl) dX7_init_186 (fun q22 H hW hS => ?_)
  refine n_put hx hb hts hX7 hown hK.1 hS hin hW rfl h00.symm 23 (by decide) (hts (.fieldLink RX7 78 "SharedRegistersModel" "best" "[I") (by decide +kernel)) rfl rfl (ty := .array .int) (by decide +kernel) rfl rfl rfl dX7_init_188 (fun H locs hW hS => ?_)
  have h00 : up2 ad21 1 22 q22 0 0 = ad 0 0 := (up2_k (by decide)).trans h00
  generalize up2 ad21 1 22 q22 = ad22 at hW h00
  refine lv_aload_n hx hb dX7_init_191 rfl (lv_at hl 0 rfl) ?_
  refine lv_iconst (v := 4) hx hb dX7_init_192 (by decide) ?_
  refine gz_newZ 1 (j := 23) (N' := 4) (show nN 23 1 = 23 from rfl) hx hb (hts (.arrayClass .boolean) (by decide +kernel)) hK.1 hW hS hA (show ¬ (4 : Int32) < 0 by decide) rfl (by decide) (Nat.le_of_ble_eq_true rfl) (Nat.le_of_ble_eq_true rfl) dX7_init_193 (fun q23 H hW hS => ?_)
  refine n_put hx hb hts hX7 hown hK.1 hS hin hW rfl h00.symm 24 (by decide) (hts (.fieldLink RX7 81 "SharedRegistersModel" "has" "[Z") (by decide +kernel)) rfl rfl (ty := .array .boolean) (by decide +kernel) rfl rfl rfl dX7_init_195 (fun H locs hW hS => ?_)
  have h00 : up2 ad22 1 23 q23 0 0 = ad 0 0 := (up2_k (by decide)).trans h00
  generalize up2 ad22 1 23 q23 = ad23 at hW h00
  refine lv_aload_n hx hb dX7_init_198 rfl (lv_at hl 0 rfl) ?_
  refine lv_iconst (v := 4) hx hb dX7_init_199 (by decide) ?_
  refine gz_newI 1 (j := 24) (N' := 4) (show nN 24 1 = 24 from rfl) hx hb (hts (.arrayClass .int) (by decide +kernel)) hK.1 hW hS hA (show ¬ (4 : Int32) < 0 by decide) rfl (by decide) (Nat.le_of_ble_eq_true rfl) (Nat.le_of_ble_eq_true rfl) dX7_init_200 (fun q24 H hW hS => ?_)
  refine n_put hx hb hts hX7 hown hK.1 hS hin hW rfl h00.symm 25 (by decide) (hts (.fieldLink RX7 84 "SharedRegistersModel" "hasVersion" "[I") (by decide +kernel)) rfl rfl (ty := .array .int) (by decide +kernel) rfl rfl rfl dX7_init_202 (fun H locs hW hS => ?_)
  have h00 : up2 ad23 1 24 q24 0 0 = ad 0 0 := (up2_k (by decide)).trans h00
  generalize up2 ad23 1 24 q24 = ad24 at hW h00
  refine lv_aload_n hx hb dX7_init_205 rfl (lv_at hl 0 rfl) ?_
  refine lv_iconst (v := 4) hx hb dX7_init_206 (by decide) ?_
  refine gz_newJ 1 (j := 25) (N' := 4) (show nN 25 1 = 25 from rfl) hx hb (hts (.arrayClass .long) (by decide +kernel)) hK.1 hW hS hA (show ¬ (4 : Int32) < 0 by decide) rfl (by decide) (Nat.le_of_ble_eq_true rfl) (Nat.le_of_ble_eq_true rfl) dX7_init_207 (fun q25 H hW hS => ?_)
  refine n_put hx hb hts hX7 hown hK.1 hS hin hW rfl h00.symm 26 (by decide) (hts (.fieldLink RX7 87 "SharedRegistersModel" "hasValue" "[J") (by decide +kernel)) rfl rfl (ty := .array .long) (by decide +kernel) rfl rfl rfl dX7_init_209 (fun H locs hW hS => ?_)
  have h00 : up2 ad24 1 25 q25 0 0 = ad 0 0 := (up2_k (by decide)).trans h00
  generalize up2 ad24 1 25 q25 = ad25 at hW h00
  refine lv_aload_n hx hb dX7_init_212 rfl (lv_at hl 0 rfl) ?_
  refine lv_iconst (v := 4) hx hb dX7_init_213 (by decide) ?_
  refine gz_newZ 1 (j := 26) (N' := 4) (show nN 26 1 = 26 from rfl) hx hb (hts (.arrayClass .boolean) (by decide +kernel)) hK.1 hW hS hA (show ¬ (4 : Int32) < 0 by decide) rfl (by decide) (Nat.le_of_ble_eq_true rfl) (Nat.le_of_ble_eq_true rfl) dX7_init_214 (fun q26 H hW hS => ?_)
  refine n_put hx hb hts hX7 hown hK.1 hS hin hW rfl h00.symm 27 (by decide) (hts (.fieldLink RX7 90 "SharedRegistersModel" "failing" "[Z") (by decide +kernel)) rfl rfl (ty := .array .boolean) (by decide +kernel) rfl rfl rfl dX7_init_216 (fun H locs hW hS => ?_)
  have h00 : up2 ad25 1 26 q26 0 0 = ad 0 0 := (up2_k (by decide)).trans h00
  generalize up2 ad25 1 26 q26 = ad26 at hW h00
  refine lv_aload_n hx hb dX7_init_219 rfl (lv_at hl 0 rfl) ?_
  refine lv_sipush (v := 200) hx hb dX7_init_220 (by decide) ?_
  refine gz_newI 1 (j := 27) (N' := 200) (show nN 27 1 = 27 from rfl) hx hb (hts (.arrayClass .int) (by decide +kernel)) hK.1 hW hS hA (show ¬ (200 : Int32) < 0 by decide) rfl (by decide) (Nat.le_of_ble_eq_true rfl) (Nat.le_of_ble_eq_true rfl) dX7_init_223 (fun q27 H hW hS => ?_)
  refine n_put hx hb hts hX7 hown hK.1 hS hin hW rfl h00.symm 29 (by decide) (hts (.fieldLink RX7 93 "SharedRegistersModel" "key" "[I") (by decide +kernel)) rfl rfl (ty := .array .int) (by decide +kernel) rfl rfl rfl dX7_init_225 (fun H locs hW hS => ?_)
  have h00 : up2 ad26 1 27 q27 0 0 = ad 0 0 := (up2_k (by decide)).trans h00
  generalize up2 ad26 1 27 q27 = ad27 at hW h00
  refine lv_aload_n hx hb dX7_init_228 rfl (lv_at hl 0 rfl) ?_
  refine lv_sipush (v := 200) hx hb dX7_init_229 (by decide) ?_
  refine gz_newI 1 (j := 28) (N' := 200) (show nN 28 1 = 28 from rfl) hx hb (hts (.arrayClass .int) (by decide +kernel)) hK.1 hW hS hA (show ¬ (200 : Int32) < 0 by decide) rfl (by decide) (Nat.le_of_ble_eq_true rfl) (Nat.le_of_ble_eq_true rfl) dX7_init_232 (fun q28 H hW hS => ?_)
  refine n_put hx hb hts hX7 hown hK.1 hS hin hW rfl h00.symm 30 (by decide) (hts (.fieldLink RX7 96 "SharedRegistersModel" "change" "[I") (by decide +kernel)) rfl rfl (ty := .array .int) (by decide +kernel) rfl rfl rfl dX7_init_234 (fun H locs hW hS => ?_)
  have h00 : up2 ad27 1 28 q28 0 0 = ad 0 0 := (up2_k (by decide)).trans h00
  generalize up2 ad27 1 28 q28 = ad28 at hW h00
  refine lv_aload_n hx hb dX7_init_237 rfl (lv_at hl 0 rfl) ?_
  refine lv_sipush (v := 200) hx hb dX7_init_238 (by decide) ?_
  refine gz_newJ 1 (j := 29) (N' := 200) (show nN 29 1 = 29 from rfl) hx hb (hts (.arrayClass .long) (by decide +kernel)) hK.1 hW hS hA (show ¬ (200 : Int32) < 0 by decide) rfl (by decide) (Nat.le_of_ble_eq_true rfl) (Nat.le_of_ble_eq_true rfl) dX7_init_241 (fun q29 H hW hS => ?_)
  refine n_put hx hb hts hX7 hown hK.1 hS hin hW rfl h00.symm 31 (by decide) (hts (.fieldLink RX7 99 "SharedRegistersModel" "argument" "[J") (by decide +kernel)) rfl rfl (ty := .array .long) (by decide +kernel) rfl rfl rfl dX7_init_243 (fun H locs hW hS => ?_)
  have h00 : up2 ad28 1 29 q29 0 0 = ad 0 0 := (up2_k (by decide)).trans h00
  generalize up2 ad28 1 29 q29 = ad29 at hW h00
  refine lv_aload_n hx hb dX7_init_246 rfl (lv_at hl 0 rfl) ?_
  refine lv_sipush (v := 200) hx hb dX7_init_247 (by decide) ?_
  refine gz_newI 1 (j := 30) (N' := 200) (show nN 30 1 = 30 from rfl) hx hb (hts (.arrayClass .int) (by decide +kernel)) hK.1 hW hS hA (show ¬ (200 : Int32) < 0 by decide) rfl (by decide) (Nat.le_of_ble_eq_true rfl) (Nat.le_of_ble_eq_true rfl) dX7_init_250 (fun q30 H hW hS => ?_)
  refine n_put hx hb hts hX7 hown hK.1 hS hin hW rfl h00.symm 32 (by decide) (hts (.fieldLink RX7 102 "SharedRegistersModel" "its" "[I") (by decide +kernel)) rfl rfl (ty := .array .int) (by decide +kernel) rfl rfl rfl dX7_init_252 (fun H locs hW hS => ?_)
  have h00 : up2 ad29 1 30 q30 0 0 = ad 0 0 := (up2_k (by decide)).trans h00
  generalize up2 ad29 1 30 q30 = ad30 at hW h00
  refine lv_aload_n hx hb dX7_init_255 rfl (lv_at hl 0 rfl) ?_
  refine lv_sipush (v := 200) hx hb dX7_init_256 (by decide) ?_
  refine gz_newI 1 (j := 31) (N' := 200) (show nN 31 1 = 31 from rfl) hx hb (hts (.arrayClass .int) (by decide +kernel)) hK.1 hW hS hA (show ¬ (200 : Int32) < 0 by decide) rfl (by decide) (Nat.le_of_ble_eq_true rfl) (Nat.le_of_ble_eq_true rfl) dX7_init_259 (fun q31 H hW hS => ?_)
  refine n_put hx hb hts hX7 hown hK.1 hS hin hW rfl h00.symm 33 (by decide) (hts (.fieldLink RX7 105 "SharedRegistersModel" "ended" "[I") (by decide +kernel)) rfl rfl (ty := .array .int) (by decide +kernel) rfl rfl rfl dX7_init_261 (fun H locs hW hS => ?_)
  have h00 : up2 ad30 1 31 q31 0 0 = ad 0 0 := (up2_k (by decide)).trans h00
  generalize up2 ad30 1 31 q31 = ad31 at hW h00
  refine lv_aload_n hx hb dX7_init_264 rfl (lv_at hl 0 rfl) ?_
  refine lv_sipush (v := 200) hx hb dX7_init_265 (by decide) ?_
  refine gz_newZ 1 (j := 32) (N' := 200) (show nN 32 1 = 32 from rfl) hx hb (hts (.arrayClass .boolean) (by decide +kernel)) hK.1 hW hS hA (show ¬ (200 : Int32) < 0 by decide) rfl (by decide) (Nat.le_of_ble_eq_true rfl) (Nat.le_of_ble_eq_true rfl) dX7_init_268 (fun q32 H hW hS => ?_)
  refine n_put hx hb hts hX7 hown hK.1 hS hin hW rfl h00.symm 34 (by decide) (hts (.fieldLink RX7 108 "SharedRegistersModel" "failed" "[Z") (by decide +kernel)) rfl rfl (ty := .array .boolean) (by decide +kernel) rfl rfl rfl dX7_init_270 (fun H locs hW hS => ?_)
  have h00 : up2 ad31 1 32 q32 0 0 = ad 0 0 := (up2_k (by decide)).trans h00
  generalize up2 ad31 1 32 q32 = ad32 at hW h00
  refine lv_aload_n hx hb dX7_init_273 rfl (lv_at hl 0 rfl) ?_
  refine lv_sipush (v := 200) hx hb dX7_init_274 (by decide) ?_
  refine gz_newZ 1 (j := 33) (N' := 200) (show nN 33 1 = 33 from rfl) hx hb (hts (.arrayClass .boolean) (by decide +kernel)) hK.1 hW hS hA (show ¬ (200 : Int32) < 0 by decide) rfl (by decide) (Nat.le_of_ble_eq_true rfl) (Nat.le_of_ble_eq_true rfl) dX7_init_277 (fun q33 H hW hS => ?_)
  refine n_put hx hb hts hX7 hown hK.1 hS hin hW rfl h00.symm 35 (by decide) (hts (.fieldLink RX7 111 "SharedRegistersModel" "isThere" "[Z") (by decide +kernel)) rfl rfl (ty := .array .boolean) (by decide +kernel) rfl rfl rfl dX7_init_279 (fun H locs hW hS => ?_)
  have h00 : up2 ad32 1 33 q33 0 0 = ad 0 0 := (up2_k (by decide)).trans h00
  generalize up2 ad32 1 33 q33 = ad33 at hW h00
  refine lv_aload_n hx hb dX7_init_282 rfl (lv_at hl 0 rfl) ?_
  refine lv_sipush (v := 200) hx hb dX7_init_283 (by decide) ?_
  refine gz_newI 1 (j := 34) (N' := 200) (show nN 34 1 = 34 from rfl) hx hb (hts (.arrayClass .int) (by decide +kernel)) hK.1 hW hS hA (show ¬ (200 : Int32) < 0 by decide) rfl (by decide) (Nat.le_of_ble_eq_true rfl) (Nat.le_of_ble_eq_true rfl) dX7_init_286 (fun q34 H hW hS => ?_)
  refine n_put hx hb hts hX7 hown hK.1 hS hin hW rfl h00.symm 36 (by decide) (hts (.fieldLink RX7 114 "SharedRegistersModel" "endVersion" "[I") (by decide +kernel)) rfl rfl (ty := .array .int) (by decide +kernel) rfl rfl rfl dX7_init_288 (fun H locs hW hS => ?_)
  have h00 : up2 ad33 1 34 q34 0 0 = ad 0 0 := (up2_k (by decide)).trans h00
  generalize up2 ad33 1 34 q34 = ad34 at hW h00
  refine lv_aload_n hx hb dX7_init_291 rfl (lv_at hl 0 rfl) ?_
  refine lv_sipush (v := 200) hx hb dX7_init_292 (by decide) ?_
  refine gz_newJ 1 (j := 35) (N' := 200) (show nN 35 1 = 35 from rfl) hx hb (hts (.arrayClass .long) (by decide +kernel)) hK.1 hW hS hA (show ¬ (200 : Int32) < 0 by decide) rfl (by decide) (Nat.le_of_ble_eq_true rfl) (Nat.le_of_ble_eq_true rfl) dX7_init_295 (fun q35 H hW hS => ?_)
  refine n_put hx hb hts hX7 hown hK.1 hS hin hW rfl h00.symm 37 (by decide) (hts (.fieldLink RX7 117 "SharedRegistersModel" "endValue" "[J") (by decide +kernel)) rfl rfl (ty := .array .long) (by decide +kernel) rfl rfl rfl dX7_init_297 (fun H locs hW hS => ?_)
  have h00 : up2 ad34 1 35 q35 0 0 = ad 0 0 := (up2_k (by decide)).trans h00
  generalize up2 ad34 1 35 q35 = ad35 at hW h00
  have hW : mw D y (gA ad N s.heap.size) (zB ad35) H := gw.shape hW (fun k => by unfold mN nN; split <;> simp_all) (fun k i hi => ⟨rfl, by by_cases g : k = 0; (subst g; rfl); (have g1 : k = 1 := (by by_cases g1 : k = 1; exact g1; simp [nN, g, g1] at hi); subst g1; rfl)⟩)
  refine lv_iconst (v := 0) hx hb dX7_init_300 (by decide) ?_
  refine lv_istore_n (lv' := [(1, _), (0, _)]) hx hb dX7_init_301 rfl hl (by decide) rfl (fun ls hl => ?_)
  exact loopA 8 0 (zB ad35) H locs ls (by omega) ⟨fun _ _ _ _ _ => rfl, fun i hi => absurd hi (Nat.not_lt_zero _), fun _ _ => rfl⟩ h00 hW hS (by rw [show mA (zB ad35) 0 0 = ad 0 0 from h00]; exact hl)
