theorem gz_newo {p : Program} {l : Launch} {e : Env} {R : Room} {s : State} {m : MethodId} {args : Array Value} {below : List Frame} {meth : Method} {c : Code} {H : Heap} {locs : List Loc} {cells slots : Nat} {Q : State → Prop} {cc : ByteArray} {pc : Nat} {ls : Array Slot} {rest : List Value} {D : va_G} {A : Nat → Prop} {ad : Nat → Nat → Nat} {N : Nat → Nat} {cell : Nat → Nat → va_E} {tys : List (ClassId × FieldType)} {H0 : Heap} (k : Nat) {j : Nat} (hj : N k = j) (hexec : p.tables.exec = Jvm.exec) (hb : c.code = cc) {own C : String} {T : u_T} {Nf ci index : Nat} {Ts : List Cond} (hts : ∀ w ∈ Ts, w.before args s = true) (hin : ∀ w ∈ u_ws C T Nf, w ∈ Ts) (ty : Nat → FieldType) (hty : ∀ k, k < Nf → parseFieldDescriptor (T k).2.2.1 = some (ty k)) (hown : s.vm.findClass own = some m.cls) (hcl : (Cond.classLink own index C).before args s = true) (hinst : (Cond.instantiable C Nf).before args s = true) (hini : (Cond.initialized C).before args s = true)
    (hK : va_K D vwCl tys s) (hW : gw D A ad N cell H) (hS : va_S A H0 H locs) (hA : ∀ q, H0.size ≤ q → A q) (hc : vwCl[ci]? = some (C, T, Nf)) {fs : List Value} (hfs : ∀ j, j < Nf → defaultValue (ty j) = vp_V fs j) (hcells : cells + 1 ≤ R.cells) (hslots : slots + Nf ≤ R.slots) (hdg : decode cc pc = .ok (.new index, 3))
    (kk : ∀ (q : Nat) (H1 : Heap), gw D A (up2 ad k j q) (va_up N k (j + 1)) (up2 cell k j (.inr (ci, fs))) H1 → va_S A H0 H1 locs →
      W p l e R s m args below meth c H1 locs (cells + 1) (slots + Nf) Q (F0 m (pc + 3) ls (.ref q :: rest))) : W p l e R s m args below meth c H locs cells slots Q (F0 m pc ls rest) := by
  subst hj
  exact gw_new hexec hb hts hin ty hty hown hcl hinst hini hK hW hS hA hc hfs hcells hslots hdg k kk
theorem arrV_low {cA : ClassId} {n : Nat} {f g : Nat → Value} (h : ∀ j, j < n → f j = g j) : arrV cA n f = arrV cA n g := by
  unfold arrV
  congr 1
  apply Array.ext
  · simp
  · intro i h1 h2
    simp only [Array.getElem_ofFn]
    exact h i (by simpa using h1)
theorem gw.at2 {D : va_G} {A : Nat → Prop} {ad ad' : Nat → Nat → Nat} {N N' : Nat → Nat} {cell cell' : Nat → Nat → va_E} {H : Heap} (h : gw D A ad N cell H) (hN : ∀ k, N' k = N k) (hc : ∀ k i, i < N k → ad' k i = ad k i ∧ (cell' k i = cell k i ∨ ∃ a b, cell' k i = .inl a ∧ cell k i = .inl b ∧ vp_cell a.1 a.2 = vp_cell b.1 b.2)) : gw D A ad' N' cell' H := by
  have : N' = N := funext hN
  subst this
  refine ⟨fun k i hi => ?_, fun k i k' i' h1 h2 e => by rw [(hc k i h1).1, (hc k' i' h2).1] at e; exact h.2 k i k' i' h1 h2 e⟩
  obtain ⟨h1, h2⟩ := h.1 k i hi
  obtain ⟨e1, e2⟩ := hc k i hi
  rw [e1]
  refine ⟨?_, h2⟩
  rcases e2 with e2 | ⟨a, b, e3, e4, e5⟩
  · rw [e2]; exact h1
  · rw [e3]
    rw [e4] at h1
    show H[ad k i]? = some (vp_cell a.1 a.2)
    rw [e5]; exact h1
/-- a row's world when n of its messages are made -/
def rN (N : Nat → Nat) (n : Nat) : Nat → Nat := fun k => if k = 11 then 1 else if k = 1 then n else N k
def rC (y : Nat → ClassId) (ad : Nat → Nat → Nat) (cell : Nat → Nat → va_E) (st n : Nat) : Nat → Nat → va_E := fun k i =>
  if k = 11 then .inl (y 4, 301, .inr (.inr (.inr (.inr (fun j => if j < n then some (ad 1 j) else none))))) else if k = 1 then .inr (1, [.int 0, .int 0, .int 0, .int 0, .int 0, .int 0, .ref st]) else if k = 4 then .inr (4, [.ref (ad 11 0), .int 0]) else cell k i
theorem rN_up (N : Nat → Nat) (n : Nat) : va_up (rN N n) 1 (n + 1) = rN N (n + 1) := by
  funext k; unfold va_up rN; by_cases h : k = 1
  · subst h; simp
  · simp [h]
set_option maxHeartbeats 4000000 in
set_option maxRecDepth 100000 in
theorem g_Row_init (l : Launch) (D : va_G) (y : Nat → ClassId) (ad : Nat → Nat → Nat) (N : Nat → Nat) (cell : Nat → Nat → va_E) (sz : Nat) (st : Nat) (h4 : N 4 = 1) (h11 : N 11 = 0) (h1 : N 1 = 0) (hc : cell 4 0 = .inr (4, [.null, .int 0])) : Met l yX4_init wsX4_init ({ frames := 2, cells := 302, slots := 2408, locals := 44 }) (va_Pc [.ref (ad 4 0), .ref st] (gPre D y ad N cell sz)) (gQ0 D ad N sz (fun ad' N' cell' => (∀ k i, i < N k → ad' k i = ad k i) ∧ N' = rN N 301 ∧ cell' = rC y ad' cell st 301)) 302 2408 (gA ad N sz) := by
  refine Met.ofW (cc := cX4_init) (maxL := 3) (ret := none) (by decide) rfl ?_
  intro p e s m args below meth c s₁ B hml hv
  obtain ⟨rfl, hsz, hW0, hK, hO⟩ := hv
  have hx := B.exec
  have hb := B.bytes
  have hr := B.returns
  have hts := atoms_spec (ws := wsX4_init) B.pre
  have hown : s.vm.findClass RX4 = some m.cls := findClass_of_methodNamed B.named
  have hin : meth.name = "<init>" := (name_of_methodNamed B.named B.method).1
  subst hsz
  have hW := hW0.self (sz := s.heap.size)
  have hA : ∀ q, s.heap.size ≤ q → gA ad N s.heap.size q := fun q h => Or.inr h
  have hS : va_S (gA ad N s.heap.size) s.heap s.heap [] := va_S.rf
  have hl := lv_entry ([.ref (ad 4 0), .ref st]) (n := 3) (Nat.le_of_ble_eq_true rfl)
  rw [lg_entry_eq]
  generalize (lg_sl ([.ref (ad 4 0), .ref st]) ++ List.replicate (3 - (lg_sl ([.ref (ad 4 0), .ref st])).length) Slot.unset).toArray = ls at hl ⊢
  have hl : lv_has ls 3 [(0, .ref (ad 4 0)), (1, .ref st)] := hl
  have hX4 : ∀ w ∈ wsX40, w ∈ wsX4_init := by decide +kernel
  have hX1 : ∀ w ∈ wsX10, w ∈ wsX4_init := by decide +kernel
  refine lv_aload_n hx hb dX4_init_0 rfl (lv_at hl 0 rfl) ?_
  refine W.objInit hx hb hown (hts (.methodLink RX4 3 objectInit) (by decide +kernel)) (hts (.instanceMethod objectInit) (by decide +kernel)) (hts (.code objectInit ⟨#[0xb1]⟩ 1 none) (by decide +kernel)) rfl (by rw [hml]; exact hl.1) rfl dX4_init_1 (Nat.le_of_ble_eq_true rfl) (Nat.le_of_ble_eq_true rfl) ?_
  refine W.eq (g2 := F0 m 4 ls []) rfl ?_
  refine lv_aload_n hx hb dX4_init_4 rfl (lv_at hl 0 rfl) ?_
  refine lv_sipush (v := 301) hx hb dX4_init_5 (by decide) ?_
  refine gz_newq 11 (t0 := 4) h11 hx hb hown (hts (.classLink RX4 9 RX1) (by decide +kernel)) (hO RX1 (by decide)).use hK.1 rfl hW hS hA (show ¬ (301 : Int32) < 0 by decide) (N' := 301) rfl (by decide) (Nat.le_of_ble_eq_true rfl) (Nat.le_of_ble_eq_true rfl) dX4_init_8 (fun q11 H hW hS => ?_)
  refine gz_putF (ci := 4) (C := RX4) (T := TX4) (Nf := 2) hx hb hts hX4 tyX4 tyX4_ok nmX4 hown hK.1 hW hS (k := 4) (i := 0) (show 0 < va_up N 11 1 4 by rw [va_up_ne _ _ (by decide)]; omega) (up2_k (by decide)).symm (fs := [.null, .int 0]) (by rw [up2_k (by decide)]; exact hc) rfl 0 (by decide) (hts (.fieldLink RX4 11 "SharedRegisters$Row" "messages" "[LSharedRegisters$Message;") (by decide +kernel)) (fun _ h9 => h9) rfl hin rfl (ty := .array (.object RX1)) (v := .ref q11) (by decide +kernel) rfl rfl (Nat.le_of_ble_eq_true rfl) dX4_init_11 (cell' := rC y (up2 ad 11 0 q11) cell st 0) (by unfold rC; rw [up2_s]; rfl) (fun k' i' hi' h => by
    unfold rC
    by_cases g11 : k' = 11
    · subst g11; rw [va_up_self] at hi'
      have : i' = 0 := by omega
      subst this
      simp [up2]
    · rw [if_neg g11]
      rw [va_up_ne _ _ g11] at hi'
      by_cases g1 : k' = 1
      · subst g1; omega
      · rw [if_neg g1]
        by_cases g4 : k' = 4
        · subst g4; exact absurd ⟨rfl, by omega⟩ h
        · rw [if_neg g4, up2_k g11]) (fun H locs hW hS => ?_)
  refine lv_iconst (v := 0) hx hb dX4_init_14 (by decide) ?_
  refine lv_istore_n (lv' := [(2, _), (0, _), (1, _)]) hx hb dX4_init_15 rfl hl (by decide) rfl (fun ls hl => ?_)
  have hW : gw D (gA ad N s.heap.size) (up2 ad 11 0 q11) (rN N 0) (rC y (up2 ad 11 0 q11) cell st 0) H := gw.shape hW (fun k => by unfold rN va_up; by_cases g1 : k = 1; (subst g1; simp [h1]); (simp [g1])) (fun k i hi => ⟨rfl, rfl⟩)
  have loop : ∀ (k n : Nat) (ax : Nat → Nat → Nat) (H : Heap) (locs : List Loc) (ls : Array Slot) (cs sl : Nat), n + k = 301 → cs = n + 1 → sl = 301 + 7 * n → (∀ k i, i < N k → ax k i = ad k i) → gw D (gA ad N s.heap.size) ax (rN N n) (rC y ax cell st n) H → va_S (gA ad N s.heap.size) s.heap H locs → lv_has ls 3 [(2, .int (nI n)), (0, .ref (ax 4 0)), (1, .ref st)] → W p l e (headSpec wsX4_init { frames := 2, cells := 302, slots := 2408, locals := 44 }).room s m #[.ref (ad 4 0), .ref st] below meth c H locs cs sl (MQ below (gQ0 D ad N s.heap.size (fun ad' N' cell' => (∀ k i, i < N k → ad' k i = ad k i) ∧ N' = rN N 301 ∧ cell' = rC y ad' cell st 301)) #[.ref (ad 4 0), .ref st] s 302 2408 (gA ad N s.heap.size)) (F0 m 16 ls []) := by
    intro k
    induction k with
    | zero =>
      intro n ax H locs ls cs sl hn hcs hsl hax hW hS hl
      refine lv_iload_n hx hb dX4_init_16 rfl (lv_at hl 0 rfl) ?_
      refine lv_aload_n hx hb dX4_init_17 rfl (lv_at hl 1 rfl) ?_
      refine gz_get (ci := 4) (C := RX4) (T := TX4) (Nf := 2) hx hb hts hX4 hown hK.1 hW (k := 4) (i := 0) (show 0 < rN N n 4 by show 0 < N 4; omega) rfl (fs := [.ref (ax 11 0), .int 0]) rfl rfl 0 (by decide) (hts (.fieldLink RX4 11 "SharedRegisters$Row" "messages" "[LSharedRegisters$Message;") (by decide +kernel)) (fun _ h9 => h9) (v := .ref (ax 11 0)) rfl dX4_init_18 ?_
      refine gz_len hx hb hK.1 hW (k := 11) (i := 0) (show 0 < rN N n 11 from Nat.zero_lt_one) rfl 4 rfl rfl (v := 301) rfl dX4_init_21 ?_
      refine lv_icmp_ge (tgt := 45) hx hb dX4_init_22 (by decide) (fun _ => ?_) (fun c_9 => absurd (show (301 : Int32) ≤ nI n from nI_le (a := 301) (by omega) (by omega)) c_9)
      have e9 : n = 301 := by omega
      subst e9
      refine lv_aload_n hx hb dX4_init_45 rfl (lv_at hl 1 rfl) ?_
      refine lv_iconst (v := 0) hx hb dX4_init_46 (by decide) ?_
      refine gz_put (ci := 4) (C := RX4) (T := TX4) (Nf := 2) hx hb hts hX4 tyX4 tyX4_ok nmX4 hown hK.1 hW hS (k := 4) (i := 0) (show 0 < rN N 301 4 by show 0 < N 4; omega) rfl (fs := [.ref (ax 11 0), .int 0]) rfl rfl 1 (by decide) (hts (.fieldLink RX4 20 "SharedRegisters$Row" "size" "I") (by decide +kernel)) (fun _ h9 => h9) rfl (ty := .int) (v := .int 0) (by decide +kernel) rfl rfl (Nat.le_of_ble_eq_true rfl) dX4_init_47 (cell' := rC y ax cell st 301) rfl (fun _ _ _ _ => rfl) (fun H locs hW hS => ?_)
      subst hcs; subst hsl
      refine W.widen (k := 302) (n := 2408) (Nat.le_of_ble_eq_true rfl) (Nat.le_of_ble_eq_true rfl) ?_
      refine W.vret hx hb hr ?_ hS.2.2 dX4_init_50
      refine gq0 ?_ hW hS
      exact ⟨hax, rfl, rfl⟩
    | succ k ih =>
      intro n ax H locs ls cs sl hn hcs hsl hax hW hS hl
      refine lv_iload_n hx hb dX4_init_16 rfl (lv_at hl 0 rfl) ?_
      refine lv_aload_n hx hb dX4_init_17 rfl (lv_at hl 1 rfl) ?_
      refine gz_get (ci := 4) (C := RX4) (T := TX4) (Nf := 2) hx hb hts hX4 hown hK.1 hW (k := 4) (i := 0) (show 0 < rN N n 4 by show 0 < N 4; omega) rfl (fs := [.ref (ax 11 0), .int 0]) rfl rfl 0 (by decide) (hts (.fieldLink RX4 11 "SharedRegisters$Row" "messages" "[LSharedRegisters$Message;") (by decide +kernel)) (fun _ h9 => h9) (v := .ref (ax 11 0)) rfl dX4_init_18 ?_
      refine gz_len hx hb hK.1 hW (k := 11) (i := 0) (show 0 < rN N n 11 from Nat.zero_lt_one) rfl 4 rfl rfl (v := 301) rfl dX4_init_21 ?_
      refine lv_icmp_ge (tgt := 45) hx hb dX4_init_22 (by decide) (fun c_9 => absurd c_9 (show ¬ (301 : Int32) ≤ nI n from nI_ge (b := 301) (by omega) (by decide))) (fun _ => ?_)
      refine lv_aload_n hx hb dX4_init_25 rfl (lv_at hl 1 rfl) ?_
      refine gz_get (ci := 4) (C := RX4) (T := TX4) (Nf := 2) hx hb hts hX4 hown hK.1 hW (k := 4) (i := 0) (show 0 < rN N n 4 by show 0 < N 4; omega) rfl (fs := [.ref (ax 11 0), .int 0]) rfl rfl 0 (by decide) (hts (.fieldLink RX4 11 "SharedRegisters$Row" "messages" "[LSharedRegisters$Message;") (by decide +kernel)) (fun _ h9 => h9) (v := .ref (ax 11 0)) rfl dX4_init_26 ?_
      refine lv_iload_n hx hb dX4_init_29 rfl (lv_at hl 0 rfl) ?_
      refine gz_newo 1 (ci := 1) (C := RX1) (T := TX1) (Nf := 7) (fs := [.int 0, .int 0, .int 0, .int 0, .int 0, .int 0, .null]) (j := n) (show rN N n 1 = n from rfl) hx hb hts hX1 tyX1 tyX1_ok hown (hts (.classLink RX4 9 RX1) (by decide +kernel)) (hts (.instantiable RX1 7) (by decide +kernel)) (hts (.initialized RX1) (by decide +kernel)) hK.1 hW hS hA rfl (fun j hj => by rcases (show j = 0 ∨ j = 1 ∨ j = 2 ∨ j = 3 ∨ j = 4 ∨ j = 5 ∨ j = 6 by omega) with rfl | rfl | rfl | rfl | rfl | rfl | rfl <;> rfl) (by subst hcs; show n + 1 + 1 ≤ 302; omega) (by subst hsl; show 301 + 7 * n + 7 ≤ 2408; omega) dX4_init_30 (fun q1 H hW hS => ?_)
      refine lv_dup hx hb dX4_init_33 rfl ?_
      refine lv_aload_n hx hb dX4_init_34 rfl (lv_at hl 2 rfl) ?_
      have hm1 := g_Message_init l D y (up2 ax 1 n q1) (va_up (rN N n) 1 (n + 1)) (up2 (rC y ax cell st n) 1 n (.inr (1, [.int 0, .int 0, .int 0, .int 0, .int 0, .int 0, .null]))) H.size n st (by rw [va_up_self]; omega) (up2_s _ _ _ _)
      rw [up2_s] at hm1
      refine gc0 (va_runIN (As := [.ref st]) (rest := [.ref q1, .int (nI n), .ref (ax 11 0)]) ⟨hx, hb, hml, hown, hts⟩ hm1 ⟨(va_cnB 1 hts gX4_init_X1_init_n17 rfl rfl rfl (hK.2 _ (List.mem_of_getElem? (i := 43) rfl)) (hts (.initialized RX1) (by decide +kernel)) (by decide +kernel) ⟨Nat.le_of_ble_eq_true rfl, Nat.le_of_ble_eq_true rfl⟩), rfl, hts (.instanceMethod yX1_init) (by decide +kernel)⟩ (gPreS hW hK hO (.ref q1 :: [.ref st])) rfl rfl hl.1 rfl (lv_room (Nat.le_of_ble_eq_true rfl)) dX4_init_35 ⟨by show cs + 1 + 0 ≤ 302; omega, by show sl + 7 + 0 ≤ 2408; omega⟩) hW hS hA (fun ad5 N5 cell5 H locs hu5 hW hS => ?_)
      obtain ⟨rfl, rfl, rfl⟩ := hu5
      refine gz_aast hx hb hK.1 hW hS (k := 11) (i := 0) (kv := 1) (iv := n) (by rw [va_up_ne _ _ (by decide)]; exact Nat.zero_lt_one) (by rw [va_up_self]; omega) (up2_k (by decide)).symm (up2_s _ _ _ _).symm 4 1 (f := fun j => if j < n then some (ax 1 j) else none) (n := 301) (by rw [up2_k (by decide), up2_k (by decide)]; rfl) (up2_s _ _ _ _) rfl rfl (vp_in_nI (n := n) (by omega) (by omega)) dX4_init_38 (cell' := rC y (up2 ax 1 n q1) cell st (n + 1)) (f' := fun j => if j < n + 1 then some (up2 ax 1 n q1 1 j) else none) rfl (fun j => ?_) (fun k' i' hi' h => ?_) (fun H locs hW hS => ?_)
      · rw [nI_clamp (n := n) (by omega), up2_s]
        by_cases e1 : j = n
        · subst e1; rw [if_pos (by omega), if_pos rfl, up2_s]
        · rw [if_neg e1]
          by_cases e2 : j < n
          · rw [if_pos (by omega), if_pos e2, up2_i e1]
          · rw [if_neg (by omega), if_neg e2]
      · by_cases g1 : k' = 1
        · subst g1
          by_cases e1 : i' = n
          · subst e1; rw [up2_s]; rfl
          · rw [up2_i e1, up2_i e1]; rfl
        · rw [up2_k g1, up2_k g1]
          rw [va_up_ne _ _ g1] at hi'
          unfold rC
          by_cases g11 : k' = 11
          · subst g11; exact absurd ⟨rfl, (by have h2 : i' < 1 := hi'; omega)⟩ h
          · rw [if_neg g11, if_neg g11, if_neg g1, if_neg g1]
            by_cases g4 : k' = 4
            · rw [if_pos g4, if_pos g4, up2_k (by decide)]
            · rw [if_neg g4, if_neg g4]
      refine lv_iinc (v := nI (n + 1)) (lv' := [(2, _), (0, _), (1, _)]) hx hb dX4_init_39 hl (k := 0) rfl (nI_1 n) (by decide) rfl (fun ls hl => ?_)
      refine lv_goto (tgt := 16) hx hb dX4_init_42 (by decide) ?_
      rw [rN_up] at hW
      exact ih (n + 1) (up2 ax 1 n q1) H locs ls _ _ (by omega) (by omega) (by omega) (fun k i hi => by rw [up2_n (fun e => by obtain ⟨e1, e2⟩ := e; subst e1; omega)]; exact hax k i hi) hW hS (by rw [show up2 ax 1 n q1 4 0 = ax 4 0 from up2_k (by decide)]; exact hl)
  exact loop 301 0 (up2 ad 11 0 q11) H locs ls _ _ (by omega) rfl rfl (fun k i hi => up2_n (fun e => by obtain ⟨e1, e2⟩ := e; subst e1; omega)) hW hS (by rw [show up2 ad 11 0 q11 4 0 = ad 4 0 from up2_k (by decide)]; exact hl)
