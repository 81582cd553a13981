/-- one request more, blank -/
def addR (z : CS) (q : Nat) : CS := (up2 z.1 3 (cNr z) q, (cNr z + 1, cNs z), (fun f i => if i = cNr z ∧ 12 ≤ f ∧ f ≤ 24 then 0 else z.2.2.1 f i), up2 z.2.2.2.1 0 (cNr z) 0, up2 z.2.2.2.2.1 3 (cNr z) none, z.2.2.2.2.2)
theorem addR_cA (z : CS) (q : Nat) : cA (addR z q) = up2 (cA z) 3 (cNr z) q := rfl
theorem addR_cNr (z : CS) (q : Nat) : cNr (addR z q) = cNr z + 1 := rfl
theorem addR_cNs (z : CS) (q : Nat) : cNs (addR z q) = cNs z := rfl
theorem addR_cI (z : CS) (q : Nat) : cI (addR z q) = fun f i => if i = cNr z ∧ 12 ≤ f ∧ f ≤ 24 then 0 else cI z f i := rfl
theorem addR_cJ (z : CS) (q : Nat) : cJ (addR z q) = up2 (cJ z) 0 (cNr z) 0 := rfl
theorem addR_cR (z : CS) (q : Nat) : cR (addR z q) = up2 (cR z) 3 (cNr z) none := rfl
theorem addR_cS (z : CS) (q : Nat) : cS (addR z q) = cS z := rfl
theorem addR_cE (z : CS) (q : Nat) : cE (addR z q) = cE z := rfl
theorem addR_cN (z : CS) (q : Nat) : cN (addR z q) = va_up (cN z) 3 (cNr z + 1) := by
  funext k
  unfold va_up
  by_cases hk : k = 3
  · subst hk; rfl
  · rw [if_neg hk]
    unfold cN
    split <;> first | rfl | omega
theorem addR_ad {z : CS} {q k i : Nat} (h : ¬ (k = 3 ∧ i = cNr z)) : cA (addR z q) k i = cA z k i := up2_n h
theorem addR_cC {y : Nat → ClassId} {z : CS} {q k i : Nat} (hV : cV z) (hi : i < cN z k) : cC y (addR z q) k i = cC y z k i := by
  obtain ⟨v0, v1, v2, v3, v4, v5, v6⟩ := hV
  have nA : ∀ k' i', k' ≠ 3 → cA (addR z q) k' i' = cA z k' i' := fun k' i' h => addR_ad (fun e => h e.1)
  have nB : ∀ r, r < cNr z → cA (addR z q) 3 r = cA z 3 r := fun r h => addR_ad (fun e => by omega)
  unfold cC
  split <;> try simp only [addR_cI, addR_cJ, addR_cR, addR_cS, addR_cE]
  · cases hr : cR z 1 i with
    | none => simp [up2, nA, hr]
    | some r => simp [up2, nA, hr, nB r (v4 i r hr)]
  · simp [nA]
  · simp [nA]
  · have h1 : i < cNr z := hi
    have h2 : i ≠ cNr z := by omega
    simp [up2, nA, h2, funext (fun j => nA 5 j (by decide))]
  · simp [nA]
  · simp [up2]
  · simp [nA]
  · simp
  · simp [nA]
  · simp [nA]
  · simp [nA]
  · congr 7
    funext j
    cases hr : cR z 6 j with
    | none => simp [up2, hr]
    | some r => simp [up2, hr, nB r (v5 j r hr)]
theorem cw_addR {D : va_G} {y : Nat → ClassId} {A : Nat → Prop} {z : CS} {q : Nat} {H : Heap} (hV : cV z) (h : gw D A (up2 (cA z) 3 (cN z 3) q) (va_up (cN z) 3 (cN z 3 + 1)) (up2 (cC y z) 3 (cN z 3) (.inr (3, [.int 0, .int 0, .int 0, .int 0, .long 0, .int 0, .int 0, .int 0, .int 0, .int 0, .int 0, .int 0, .null, .int 0, .int 0]))) H) : cw D y A (addR z q) H := by
  unfold cw
  rw [addR_cN, addR_cA]
  refine gw.eq h (fun k i hi => ?_)
  by_cases hk : k = 3 ∧ i = cNr z
  · obtain ⟨rfl, rfl⟩ := hk
    refine Eq.trans ?_ (up2_s (cC y z) 3 (cNr z) _).symm
    simp [cC, addR_cI, addR_cJ, addR_cR, up2, va_rf]
  · refine Eq.trans ?_ (up2_n hk).symm
    refine addR_cC hV ?_
    by_cases h5 : k = 3
    · subst h5
      have hi : i < cNr z + 1 := hi
      have : i ≠ cNr z := fun e => hk ⟨rfl, e⟩
      show i < cNr z
      omega
    · rw [va_up_ne _ _ h5] at hi
      exact hi
section NR
variable {p : Program} {l : Launch} {e : Env} {R : Room} {s : State} {m : MethodId} {args : Array Value} {below : List Frame} {meth : Method} {c : Code} {H : Heap} {locs : List Loc} {cells slots : Nat} {Q : State → Prop}
variable {cc : ByteArray} {pc : Nat} {ls : Array Slot} {rest : List Value} {D : va_G} {A : Nat → Prop} {y : Nat → ClassId} {z : CS} {H0 : Heap} {own : String} {index i : Nat} {Ts : List Cond}
theorem n_Request (hx : p.tables.exec = Jvm.exec) (hb : c.code = cc) (hts : ∀ w ∈ Ts, w.before args s = true) (hin : ∀ w ∈ wsX30, w ∈ Ts) (hown : s.vm.findClass own = some m.cls) (hcl : (Cond.classLink own index RX3).before args s = true) (hinst : (Cond.instantiable RX3 15).before args s = true) (hini : (Cond.initialized RX3).before args s = true) (hK : va_K D vwCl (ctys y) s) (hW : cw D y A z H) (hS : va_S A H0 H locs) (hA : ∀ q, H0.size ≤ q → A q) (hV : cV z) (hcells : cells + 1 ≤ R.cells) (hslots : slots + 15 ≤ R.slots) (hdg : decode cc pc = .ok (.new index, 3))
    (kk : ∀ (q : Nat) (H1 : Heap), cw D y A (addR z q) H1 → va_S A H0 H1 locs → W p l e R s m args below meth c H1 locs (cells + 1) (slots + 15) Q (F0 m (pc + 3) ls (.ref (cA (addR z q) 3 (cNr z)) :: rest))) : W p l e R s m args below meth c H locs cells slots Q (F0 m pc ls rest) := by
  refine gw_new (ci := 3) (C := RX3) (T := TX3) (Nf := 15) (fs := [.int 0, .int 0, .int 0, .int 0, .long 0, .int 0, .int 0, .int 0, .int 0, .int 0, .int 0, .int 0, .null, .int 0, .int 0]) hx hb hts hin tyX3 tyX3_ok hown hcl hinst hini hK hW hS hA rfl (fun j hj => by rcases (show j = 0 ∨ j = 1 ∨ j = 2 ∨ j = 3 ∨ j = 4 ∨ j = 5 ∨ j = 6 ∨ j = 7 ∨ j = 8 ∨ j = 9 ∨ j = 10 ∨ j = 11 ∨ j = 12 ∨ j = 13 ∨ j = 14 by omega) with rfl | rfl | rfl | rfl | rfl | rfl | rfl | rfl | rfl | rfl | rfl | rfl | rfl | rfl | rfl <;> rfl) hcells hslots hdg 3 (fun q H1 h1 h2 => ?_)
  have h3 := kk q H1 (cw_addR hV h1) h2
  rw [show cA (addR z q) 3 (cNr z) = q from up2_s _ _ _ _] at h3
  exact h3
end NR
/-- a request's fields as its constructor leaves them -/
def initR (z : CS) (r a : Nat) (num key chg : Int32) (arg : Int64) (st : Nat) : CS := sI (sI (sR (sI (sI (sI (sI (sI (sI (sI (sJ (sI (sI (sI (sI z 12 r num) 13 r (cI z 2 a)) 14 r key) 15 r chg) 0 r arg) 16 r (4 * cI z 3 a + cI z 2 a)) 17 r (cE z 1 a 0)) 18 r (cE z 0 a 1)) 19 r (cE z 1 a 1)) 20 r 0) 21 r 0) 22 r 0) 3 r (some st)) 23 r 0) 24 r 0
set_option maxHeartbeats 4000000 in
set_option maxRecDepth 100000 in
theorem m_Request_init (l : Launch) (D : va_G) (y : Nat → ClassId) (z : CS) (sz : Nat) (r a : Nat) (num key chg : Int32) (arg : Int64) (st : Nat) (hr0 : r < cNr z) (ha : a < 4)  : Met l yX3_init wsX3_init ({ frames := 1, cells := 0, slots := 0, locals := 12 }) (va_Pc [.ref (cA z 3 r), .int num, .ref (cA z 0 a), .int key, .int chg, .long arg, .ref (cA z 5 st)] (cPre D y z sz)) (cQ0 D y z sz (fun u => u = initR z r a num key chg arg st)) 0 0 (cF z sz) := by
  refine Met.ofW (cc := cX3_init) (maxL := 8) (ret := none) (by decide) rfl ?_
  intro p e s m args below meth c s₁ B hml hv
  obtain ⟨rfl, hsz, hW0, hK⟩ := hv
  have hx := B.exec
  have hb := B.bytes
  have hr := B.returns
  have hts := atoms_spec (ws := wsX3_init) B.pre
  have hown : s.vm.findClass RX3 = some m.cls := findClass_of_methodNamed B.named
  have hlocks := B.notSynchronized
  have hin : meth.name = "<init>" := (name_of_methodNamed B.named B.method).1
  subst hsz
  have hW := hW0.self (sz := s.heap.size)
  have hA : ∀ q, s.heap.size ≤ q → cF z s.heap.size q := fun q h => Or.inr h
  have hS : va_S (cF z s.heap.size) s.heap s.heap [] := va_S.rf
  have hl := lv_entry ([.ref (cA z 3 r), .int num, .ref (cA z 0 a), .int key, .int chg, .long arg, .ref (cA z 5 st)]) (n := 8) (Nat.le_of_ble_eq_true rfl)
  rw [lg_entry_eq]
  generalize (lg_sl ([.ref (cA z 3 r), .int num, .ref (cA z 0 a), .int key, .int chg, .long arg, .ref (cA z 5 st)]) ++ List.replicate (8 - (lg_sl ([.ref (cA z 3 r), .int num, .ref (cA z 0 a), .int key, .int chg, .long arg, .ref (cA z 5 st)])).length) Slot.unset).toArray = ls at hl ⊢
  have hl : lv_has ls 8 [(0, .ref (cA z 3 r)), (1, .int num), (2, .ref (cA z 0 a)), (3, .int key), (4, .int chg), (5, .long arg), (7, .ref (cA z 5 st))] := hl
  have hX3 : ∀ w ∈ wsX30, w ∈ wsX3_init := by decide +kernel
  have hX0 : ∀ w ∈ wsX00, w ∈ wsX3_init := by decide +kernel
  refine lv_aload_n hx hb dX3_init_0 rfl (lv_at hl 0 rfl) ?_
  refine W.objInit hx hb hown (hts (.methodLink RX3 3 objectInit) (by decide +kernel)) (hts (.instanceMethod objectInit) (by decide +kernel)) (hts (.code objectInit ⟨#[0xb1]⟩ 1 none) (by decide +kernel)) rfl (by rw [hml]; exact hl.1) rfl dX3_init_1 (Nat.le_of_ble_eq_true rfl) (Nat.le_of_ble_eq_true rfl) ?_
  refine W.eq (g2 := F0 m 4 ls []) rfl ?_
  refine lv_aload_n hx hb dX3_init_4 rfl (lv_at hl 0 rfl) ?_
  refine lv_iload_n hx hb dX3_init_5 rfl (lv_at hl 1 rfl) ?_
  refine pF_Request_number (i := r) hx hb hts hX3 hown hK.1 hW hS hin rfl (by simp only [sI_cA, sJ_cA, sR_cA]) (by simp only [sI_cNr, sJ_cNr, sR_cNr, hr0]) (hts (.fieldLink RX3 9 "SharedRegisters$Request" "number" "I") (by decide +kernel)) dX3_init_6 (fun H locs hW hS => ?_)
  refine lv_aload_n hx hb dX3_init_9 rfl (lv_at hl 0 rfl) ?_
  refine lv_aload_n hx hb dX3_init_10 rfl (lv_at hl 2 rfl) ?_
  refine gN_Asker_number (i := a) hx hb hts hX0 hown hK.1 hW (by simp only [sI_cA, sJ_cA, sR_cA]) ha (hK.2 _ (List.mem_of_getElem? (i := 4) rfl)) dX3_init_11 ?_
  rw [show cI (sI z 12 r num) 2 a = cI z 2 a from by simp [sI_cI, sJ_cI, sR_cI, up2]]
  refine pF_Request_asker (i := r) hx hb hts hX3 hown hK.1 hW hS hin rfl (by simp only [sI_cA, sJ_cA, sR_cA]) (by simp only [sI_cNr, sJ_cNr, sR_cNr, hr0]) (hts (.fieldLink RX3 18 "SharedRegisters$Request" "asker" "I") (by decide +kernel)) dX3_init_14 (fun H locs hW hS => ?_)
  refine lv_aload_n hx hb dX3_init_17 rfl (lv_at hl 0 rfl) ?_
  refine lv_iload_n hx hb dX3_init_18 rfl (lv_at hl 3 rfl) ?_
  refine pF_Request_key (i := r) hx hb hts hX3 hown hK.1 hW hS hin rfl (by simp only [sI_cA, sJ_cA, sR_cA]) (by simp only [sI_cNr, sJ_cNr, sR_cNr, hr0]) (hts (.fieldLink RX3 21 "SharedRegisters$Request" "key" "I") (by decide +kernel)) dX3_init_19 (fun H locs hW hS => ?_)
  refine lv_aload_n hx hb dX3_init_22 rfl (lv_at hl 0 rfl) ?_
  refine lv_iload hx hb dX3_init_23 (lv_at hl 4 rfl) ?_
  refine pF_Request_change (i := r) hx hb hts hX3 hown hK.1 hW hS hin rfl (by simp only [sI_cA, sJ_cA, sR_cA]) (by simp only [sI_cNr, sJ_cNr, sR_cNr, hr0]) (hts (.fieldLink RX3 24 "SharedRegisters$Request" "change" "I") (by decide +kernel)) dX3_init_25 (fun H locs hW hS => ?_)
  refine lv_aload_n hx hb dX3_init_28 rfl (lv_at hl 0 rfl) ?_
  refine lv_lload hx hb dX3_init_29 (lv_at hl 5 rfl) ?_
  refine pF_Request_argument (i := r) hx hb hts hX3 hown hK.1 hW hS hin rfl (by simp only [sI_cA, sJ_cA, sR_cA]) (by simp only [sI_cNr, sJ_cNr, sR_cNr, hr0]) (hts (.fieldLink RX3 27 "SharedRegisters$Request" "argument" "J") (by decide +kernel)) dX3_init_31 (fun H locs hW hS => ?_)
  refine lv_aload_n hx hb dX3_init_34 rfl (lv_at hl 0 rfl) ?_
  refine lv_iconst (v := 4) hx hb dX3_init_35 (by decide) ?_
  refine lv_aload_n hx hb dX3_init_36 rfl (lv_at hl 2 rfl) ?_
  refine gN_Asker_count (i := a) hx hb hts hX0 hown hK.1 hW (by simp only [sI_cA, sJ_cA, sR_cA]) ha (hK.2 _ (List.mem_of_getElem? (i := 9) rfl)) dX3_init_37 ?_
  rw [show cI (sJ (sI (sI (sI (sI z 12 r num) 13 r (cI z 2 a)) 14 r key) 15 r chg) 0 r arg) 3 a = cI z 3 a from by simp [sI_cI, sJ_cI, sR_cI, up2]]
  refine lv_imul hx hb dX3_init_40 ?_
  refine lv_aload_n hx hb dX3_init_41 rfl (lv_at hl 2 rfl) ?_
  refine gN_Asker_number (i := a) hx hb hts hX0 hown hK.1 hW (by simp only [sI_cA, sJ_cA, sR_cA]) ha (hK.2 _ (List.mem_of_getElem? (i := 4) rfl)) dX3_init_42 ?_
  rw [show cI (sJ (sI (sI (sI (sI z 12 r num) 13 r (cI z 2 a)) 14 r key) 15 r chg) 0 r arg) 2 a = cI z 2 a from by simp [sI_cI, sJ_cI, sR_cI, up2]]
  refine lv_iadd hx hb dX3_init_45 ?_
  refine pF_Request_ballot (i := r) hx hb hts hX3 hown hK.1 hW hS hin rfl (by simp only [sI_cA, sJ_cA, sR_cA]) (by simp only [sI_cNr, sJ_cNr, sR_cNr, hr0]) (hts (.fieldLink RX3 34 "SharedRegisters$Request" "ballot" "I") (by decide +kernel)) dX3_init_46 (fun H locs hW hS => ?_)
  refine lv_aload_n hx hb dX3_init_49 rfl (lv_at hl 0 rfl) ?_
  refine lv_aload_n hx hb dX3_init_50 rfl (lv_at hl 2 rfl) ?_
  refine gN_Asker_enough (i := a) hx hb hts hX0 hown hK.1 hW (by simp only [sI_cA, sJ_cA, sR_cA]) ha (hK.2 _ (List.mem_of_getElem? (i := 7) rfl)) dX3_init_51 ?_
  refine lv_iconst (v := 0) hx hb dX3_init_54 (by decide) ?_
  refine gl_enough (i := a) hx hb hK.1 hW (by simp only [sI_cA, sJ_cA, sR_cA]) ha (vp_in_nI (n := 0) (by decide) (by decide)) dX3_init_55 ?_
  simp only [sI_cE, sJ_cE, sR_cE]
  rw [show Int32.toNatClampNeg 0 = 0 from nI_clamp (n := 0) (by decide)]
  refine pF_Request_enoughPromised (i := r) hx hb hts hX3 hown hK.1 hW hS hin rfl (by simp only [sI_cA, sJ_cA, sR_cA]) (by simp only [sI_cNr, sJ_cNr, sR_cNr, hr0]) (hts (.fieldLink RX3 41 "SharedRegisters$Request" "enoughPromised" "I") (by decide +kernel)) dX3_init_56 (fun H locs hW hS => ?_)
  refine lv_aload_n hx hb dX3_init_59 rfl (lv_at hl 0 rfl) ?_
  refine lv_aload_n hx hb dX3_init_60 rfl (lv_at hl 2 rfl) ?_
  refine gN_Asker_sets (i := a) hx hb hts hX0 hown hK.1 hW (by simp only [sI_cA, sJ_cA, sR_cA]) ha (hK.2 _ (List.mem_of_getElem? (i := 5) rfl)) dX3_init_61 ?_
  refine lv_iconst (v := 1) hx hb dX3_init_64 (by decide) ?_
  refine gl_sets (i := a) hx hb hK.1 hW (by simp only [sI_cA, sJ_cA, sR_cA]) ha (vp_in_nI (n := 1) (by decide) (by decide)) dX3_init_65 ?_
  simp only [sI_cE, sJ_cE, sR_cE]
  rw [show Int32.toNatClampNeg 1 = 1 from nI_clamp (n := 1) (by decide)]
  refine pF_Request_acceptSet (i := r) hx hb hts hX3 hown hK.1 hW hS hin rfl (by simp only [sI_cA, sJ_cA, sR_cA]) (by simp only [sI_cNr, sJ_cNr, sR_cNr, hr0]) (hts (.fieldLink RX3 47 "SharedRegisters$Request" "acceptSet" "I") (by decide +kernel)) dX3_init_66 (fun H locs hW hS => ?_)
  refine lv_aload_n hx hb dX3_init_69 rfl (lv_at hl 0 rfl) ?_
  refine lv_aload_n hx hb dX3_init_70 rfl (lv_at hl 2 rfl) ?_
  refine gN_Asker_enough (i := a) hx hb hts hX0 hown hK.1 hW (by simp only [sI_cA, sJ_cA, sR_cA]) ha (hK.2 _ (List.mem_of_getElem? (i := 7) rfl)) dX3_init_71 ?_
  refine lv_iconst (v := 1) hx hb dX3_init_74 (by decide) ?_
  refine gl_enough (i := a) hx hb hK.1 hW (by simp only [sI_cA, sJ_cA, sR_cA]) ha (vp_in_nI (n := 1) (by decide) (by decide)) dX3_init_75 ?_
  simp only [sI_cE, sJ_cE, sR_cE]
  rw [show Int32.toNatClampNeg 1 = 1 from nI_clamp (n := 1) (by decide)]
  refine pF_Request_enoughTaken (i := r) hx hb hts hX3 hown hK.1 hW hS hin rfl (by simp only [sI_cA, sJ_cA, sR_cA]) (by simp only [sI_cNr, sJ_cNr, sR_cNr, hr0]) (hts (.fieldLink RX3 50 "SharedRegisters$Request" "enoughTaken" "I") (by decide +kernel)) dX3_init_76 (fun H locs hW hS => ?_)
  refine lv_aload_n hx hb dX3_init_79 rfl (lv_at hl 0 rfl) ?_
  refine lv_iconst (v := 0) hx hb dX3_init_80 (by decide) ?_
  refine p_Request_accepting (i := r) hx hb hts hX3 hown hK.1 hW hS (by simp only [sI_cA, sJ_cA, sR_cA]) (by simp only [sI_cNr, sJ_cNr, sR_cNr, hr0]) rfl rfl (hts (.fieldLink RX3 53 "SharedRegisters$Request" "accepting" "Z") (by decide +kernel)) dX3_init_81 (fun H locs hW hS => ?_)
  refine lv_aload_n hx hb dX3_init_84 rfl (lv_at hl 0 rfl) ?_
  refine lv_iconst (v := 0) hx hb dX3_init_85 (by decide) ?_
  refine p_Request_answered (i := r) hx hb hts hX3 hown hK.1 hW hS (by simp only [sI_cA, sJ_cA, sR_cA]) (by simp only [sI_cNr, sJ_cNr, sR_cNr, hr0]) (hts (.fieldLink RX3 57 "SharedRegisters$Request" "answered" "I") (by decide +kernel)) dX3_init_86 (fun H locs hW hS => ?_)
  refine lv_aload_n hx hb dX3_init_89 rfl (lv_at hl 0 rfl) ?_
  refine lv_iconst (v := 0) hx hb dX3_init_90 (by decide) ?_
  refine p_Request_toldBallot (i := r) hx hb hts hX3 hown hK.1 hW hS (by simp only [sI_cA, sJ_cA, sR_cA]) (by simp only [sI_cNr, sJ_cNr, sR_cNr, hr0]) (hts (.fieldLink RX3 60 "SharedRegisters$Request" "toldBallot" "I") (by decide +kernel)) dX3_init_91 (fun H locs hW hS => ?_)
  refine lv_aload_n hx hb dX3_init_94 rfl (lv_at hl 0 rfl) ?_
  refine lv_aload hx hb dX3_init_95 (lv_at hl 6 rfl) ?_
  refine p_Request_state (i := r) (v := some st) hx hb hts hX3 hown hK.1 hW hS (by simp only [sI_cA, sJ_cA, sR_cA]) (by simp only [sI_cNr, sJ_cNr, sR_cNr, hr0]) (by simp only [Option.map, va_rf, sI_cA, sJ_cA, sR_cA]) (hts (.fieldLink RX3 63 "SharedRegisters$Request" "state" "LSharedRegisters$State;") (by decide +kernel)) dX3_init_97 (fun H locs hW hS => ?_)
  refine lv_aload_n hx hb dX3_init_100 rfl (lv_at hl 0 rfl) ?_
  refine lv_iconst (v := 0) hx hb dX3_init_101 (by decide) ?_
  refine p_Request_failed (i := r) hx hb hts hX3 hown hK.1 hW hS (by simp only [sI_cA, sJ_cA, sR_cA]) (by simp only [sI_cNr, sJ_cNr, sR_cNr, hr0]) rfl rfl (hts (.fieldLink RX3 67 "SharedRegisters$Request" "failed" "Z") (by decide +kernel)) dX3_init_102 (fun H locs hW hS => ?_)
  refine lv_aload_n hx hb dX3_init_105 rfl (lv_at hl 0 rfl) ?_
  refine lv_iconst (v := 0) hx hb dX3_init_106 (by decide) ?_
  refine p_Request_ending (i := r) hx hb hts hX3 hown hK.1 hW hS (by simp only [sI_cA, sJ_cA, sR_cA]) (by simp only [sI_cNr, sJ_cNr, sR_cNr, hr0]) (hts (.fieldLink RX3 70 "SharedRegisters$Request" "ending" "I") (by decide +kernel)) dX3_init_107 (fun H locs hW hS => ?_)
  refine W.vret hx hb hr ?_ hS.2.2 dX3_init_110
  refine cq0 ?_ hW hS
  exact rfl
