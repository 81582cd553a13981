/-! THE LAW'S WORLD: the class's, the reference's, the row out, all apart -/
def lA (s : State) : Nat → Prop := fun q => s.heap.size ≤ q
def LW (D : va_G) (y : Nat → ClassId) (A : Nat → Prop) (z : CS) (t : MS) (qo : Nat) (f : Nat → Int64) (H : Heap) : Prop :=
  cw D y A z H ∧ mw D y A t H ∧ va_at D vwCl (qo, oE y f) H ∧ A qo ∧ (∀ k i, i < cN z k → cA z k i ≠ qo) ∧ (∀ k i, i < mN t k → mA t k i ≠ qo) ∧ ∀ k i k' i', i < cN z k → i' < mN t k' → cA z k i ≠ mA t k' i'
def LX (p : Program) (l : Launch) (s : State) (m : MethodId) (c : Code) (b L : Nat) (xs : Nat → Int32) (D : va_G) (y : Nat → ClassId) : Prop :=
  p.tables.exec = Jvm.exec ∧ c.code = cL_law ∧ c.maxLocals = 8 ∧ s.vm.findClass RL = some m.cls ∧ (∀ w ∈ wsL_law, w.before #[Value.ref b] s = true) ∧ va_X b L xs s s.heap ∧ b < s.heap.size ∧ L ≤ 3072 ∧ kK D y s ∧ zS (lA s) s ∧ va_Nc cG_ cI_ s ∧ l.stackTraces = false
section LWS
variable {p : Program} {l : Launch} {e : Env} {R : Room} {s : State} {m : MethodId} {args : Array Value} {below : List Frame} {meth : Method} {c : Code} {H : Heap} {locs : List Loc} {cells slots : Nat} {Q : State → Prop}
variable {cc : ByteArray} {pc : Nat} {ls : Array Slot} {rest st0 : List Value} {a : Array Value} {D : va_G} {A : Nat → Prop} {y : Nat → ClassId} {z : CS} {t : MS} {qo : Nat} {f : Nat → Int64} {H0 : Heap} {mc ms : Nat}
theorem LW.nq (h : LW D y A z t qo f H) : ¬ cF z H.size qo := by
  obtain ⟨hW, hM, hO, hqA, d1, d2, d3⟩ := h
  rintro (⟨k, i, hi, e⟩ | h1)
  · exact d1 k i hi e.symm
  · have := hO.lt
    exact absurd (show qo < H.size from this) (Nat.not_lt.mpr h1)
theorem LW.pre (h : LW D y A z t qo f H) (hK : kK D y s) (hZ : zS A s) (hN : va_Nc cG_ cI_ s) (hS : va_S A s.heap H locs) (hA : ∀ q, s.heap.size ≤ q → A q) (As : List Value) : PreS s H (va_Pc As (lPre D y z qo H.size)) As :=
  lPreS h.1 ⟨f, h.2.2.1⟩ h.nq h.2.2.2.1 hK hZ hN hS hA As
theorem LW.preM (h : LW D y A z t qo f H) (hK : kK D y s) (As : List Value) : PreV s H RX7 (mA t 0 0) (va_Pc (.ref (mA t 0 0) :: As) (mPre D y t H.size)) As := mPreV (k := 0) (q := (RX7, TX7, 39)) h.2.1 hK (show 0 < 1 from Nat.zero_lt_one) rfl rfl As
theorem LW.preC (h : LW D y A z t qo f H) (hK : kK D y s) (As : List Value) : PreV s H RX6 (cA z 6 0) (va_Pc (.ref (cA z 6 0) :: As) (cPre D y z H.size)) As := cPreV (k := 6) (q := (RX6, TX6, 7)) h.1 hK (show 0 < 1 from Nat.zero_lt_one) rfl rfl As
/-- a call of the law's own method -/
theorem lc_h {post : Int32 → CS → Int64 → Prop} (hr : va_Run p l e R s m args below meth c H locs cells slots mc ms (F0 m pc ls st0) rest (lQ D y z qo H.size post a) (lF z qo H.size)) (hL : LW D y A z t qo f H) (hS : va_S A H0 H locs) (hA : ∀ q, H0.size ≤ q → A q)
    (kk : ∀ (v : Int32) (u : CS) (f1 : Nat → Int64) (H1 : Heap) (locs1 : List Loc), post v u (f1 0) → LW D y A u t qo f1 H1 → va_S A H0 H1 locs1 → W p l e R s m args below meth c H1 locs1 (cells + mc) (slots + ms) Q (F0 m (pc + 3) ls (.int v :: rest))) : W p l e R s m args below meth c H locs cells slots Q (F0 m pc ls st0) := by
  intro T hT X
  obtain ⟨v0, st₀, t9, T', L, h0, X', hL', e1, e2, ⟨⟨v, u, f1, hv, hp, hb, hO1⟩, hz, hk⟩, st⟩ := hr T hT X
  cases hv
  rw [h0] at hz hk
  obtain ⟨hW, hM, hO, hqA, d1, d2, d3⟩ := hL
  have hF : ∀ q, lF z qo H.size q → A q := fun q h => h.elim (hW.free hS hA q) (fun e => e ▸ hqA)
  have hqs : qo < H.size := hO.lt
  have hml : ∀ k i, i < mN t k → mA t k i < H.size := fun k i hi => (gw.at hM hi).lt
  have hmk : ∀ k i, i < mN t k → T'.heap[mA t k i]? = H[mA t k i]? := fun k i hi => by
    rw [e1]
    refine hk _ (hml k i hi) ?_
    rintro ((⟨k', i', hi', e⟩ | h1) | h1)
    · exact d3 k' i' k i hi' hi e.symm
    · exact absurd (hml k i hi) (Nat.not_lt.mpr h1)
    · exact d2 k i hi h1
  obtain ⟨t2, a1, b1⟩ := kk v u f1 T'.heap (locs ++ L) hp
    ⟨by rw [e1]; exact hb.weaken (fun q h => hF q (Or.inl h)), gw.kept hM hmk, by rw [e1]; exact hO1, hqA, fun k i hi e => by
      rcases gw.inA hb hi with ⟨k', i', hi', e'⟩ | h1
      · exact d1 k' i' hi' (e'.symm.trans e)
      · rw [e] at h1; exact absurd hqs (Nat.not_lt.mpr h1), d2, fun k i k' i' hi hi' e => by
      rcases gw.inA hb hi with ⟨k2, i2, hi2, e'⟩ | h1
      · exact d3 k2 i2 k' i' hi2 hi' (e'.symm.trans e)
      · rw [e] at h1; exact absurd (hml k' i' hi') (Nat.not_lt.mpr h1)⟩
    ⟨Nat.le_trans hS.1 (by rw [e1]; exact hz), fun q h1 h2 => by rw [e1, hk q (Nat.lt_of_lt_of_le h1 hS.1) (fun z9 => h2 (hF q z9))]; exact hS.2.1 q h1 h2, fun q hq => by
      rcases List.mem_append.mp hq with h | h
      · exact hS.2.2 q h
      · exact hF _ (hL' q h)⟩ T' rfl X'
  exact ⟨t2, st t2 a1, b1⟩
theorem lc_mk {t9 : State} {T' : State} {u : MS} (hL : LW D y A z t qo f H) (hS : va_S A H0 H locs) (hA : ∀ q, H0.size ≤ q → A q) (e1 : T'.heap = t9.heap) (hb : mw D y (mF t H.size) u t9.heap) (hz : H.size ≤ t9.heap.size) (hk : ∀ q, q < H.size → ¬ mF t H.size q → t9.heap[q]? = H[q]?) {L : List Loc} (hL' : ∀ q ∈ L, mF t H.size q.base) : LW D y A z u qo f T'.heap ∧ va_S A H0 T'.heap (locs ++ L) := by
  obtain ⟨hW, hM, hO, hqA, d1, d2, d3⟩ := hL
  have hF : ∀ q, mF t H.size q → A q := hM.free hS hA
  have hqs : qo < H.size := hO.lt
  have hcl : ∀ k i, i < cN z k → cA z k i < H.size := fun k i hi => (gw.at hW hi).lt
  have hck : ∀ k i, i < cN z k → T'.heap[cA z k i]? = H[cA z k i]? := fun k i hi => by
    rw [e1]
    refine hk _ (hcl k i hi) ?_
    rintro (⟨k', i', hi', e⟩ | h1)
    · exact d3 k i k' i' hi hi' e
    · exact absurd (hcl k i hi) (Nat.not_lt.mpr h1)
  have hok : T'.heap[qo]? = H[qo]? := by
    rw [e1]
    refine hk _ hqs ?_
    rintro (⟨k', i', hi', e⟩ | h1)
    · exact d2 k' i' hi' e.symm
    · exact absurd hqs (Nat.not_lt.mpr h1)
  refine ⟨⟨gw.kept hW hck, by rw [e1]; exact hb.weaken hF, hO.kept hok, hqA, d1, fun k i hi e => ?_, fun k i k' i' hi hi' e => ?_⟩, ⟨Nat.le_trans hS.1 (by rw [e1]; exact hz), fun q h1 h2 => by rw [e1, hk q (Nat.lt_of_lt_of_le h1 hS.1) (fun z9 => h2 (hF q z9))]; exact hS.2.1 q h1 h2, fun q hq => ?_⟩⟩
  · rcases gw.inA hb hi with ⟨k', i', hi', e'⟩ | h1
    · exact d2 k' i' hi' (e'.symm.trans e)
    · rw [e] at h1; exact absurd hqs (Nat.not_lt.mpr h1)
  · rcases gw.inA hb hi' with ⟨k2, i2, hi2, e'⟩ | h1
    · exact d3 k i k2 i2 hi hi2 (e.trans e')
    · rw [← e] at h1; exact absurd (hcl k i hi) (Nat.not_lt.mpr h1)
  · rcases List.mem_append.mp hq with h | h
    · exact hS.2.2 q h
    · exact hF _ (hL' q h)
/-- a call of the reference -/
theorem lc_m {post : Value → MS → Prop} (hr : va_Run p l e R s m args below meth c H locs cells slots mc ms (F0 m pc ls st0) rest (mQ1 D y t H.size post a) (mF t H.size)) (hL : LW D y A z t qo f H) (hS : va_S A H0 H locs) (hA : ∀ q, H0.size ≤ q → A q)
    (kk : ∀ (v : Value) (u : MS) (H1 : Heap) (locs1 : List Loc), post v u → LW D y A z u qo f H1 → va_S A H0 H1 locs1 → W p l e R s m args below meth c H1 locs1 (cells + mc) (slots + ms) Q (F0 m (pc + 3) ls (v :: rest))) : W p l e R s m args below meth c H locs cells slots Q (F0 m pc ls st0) := by
  intro T hT X
  obtain ⟨v0, st₀, t9, T', L, h0, X', hL', e1, e2, ⟨⟨v, u, hv, hp, hb⟩, hz, hk⟩, st⟩ := hr T hT X
  cases hv
  rw [h0] at hz hk
  obtain ⟨g1, g2⟩ := lc_mk hL hS hA e1 hb hz hk hL'
  obtain ⟨t2, a1, b1⟩ := kk v u T'.heap (locs ++ L) hp g1 g2 T' rfl X'
  exact ⟨t2, st t2 a1, b1⟩
theorem lc_m0 {post : MS → Prop} (hr : va_Run p l e R s m args below meth c H locs cells slots mc ms (F0 m pc ls st0) rest (mQ0 D y t H.size post a) (mF t H.size)) (hL : LW D y A z t qo f H) (hS : va_S A H0 H locs) (hA : ∀ q, H0.size ≤ q → A q)
    (kk : ∀ (u : MS) (H1 : Heap) (locs1 : List Loc), post u → LW D y A z u qo f H1 → va_S A H0 H1 locs1 → W p l e R s m args below meth c H1 locs1 (cells + mc) (slots + ms) Q (F0 m (pc + 3) ls rest)) : W p l e R s m args below meth c H locs cells slots Q (F0 m pc ls st0) := by
  intro T hT X
  obtain ⟨v0, st₀, t9, T', L, h0, X', hL', e1, e2, ⟨⟨u, hv, hp, hb⟩, hz, hk⟩, st⟩ := hr T hT X
  cases hv
  rw [h0] at hz hk
  obtain ⟨g1, g2⟩ := lc_mk hL hS hA e1 hb hz hk hL'
  obtain ⟨t2, a1, b1⟩ := kk u T'.heap (locs ++ L) hp g1 g2 T' rfl X'
  exact ⟨t2, st t2 a1, b1⟩
/-- a call of the class itself -/
theorem lc_c {post : Value → CS → Prop} (hr : va_Run p l e R s m args below meth c H locs cells slots mc ms (F0 m pc ls st0) rest (cQ1 D y z H.size post a) (cF z H.size)) (hL : LW D y A z t qo f H) (hS : va_S A H0 H locs) (hA : ∀ q, H0.size ≤ q → A q)
    (kk : ∀ (v : Value) (u : CS) (H1 : Heap) (locs1 : List Loc), post v u → LW D y A u t qo f H1 → va_S A H0 H1 locs1 → W p l e R s m args below meth c H1 locs1 (cells + mc) (slots + ms) Q (F0 m (pc + 3) ls (v :: rest))) : W p l e R s m args below meth c H locs cells slots Q (F0 m pc ls st0) := by
  intro T hT X
  obtain ⟨v0, st₀, t9, T', L, h0, X', hL', e1, e2, ⟨⟨v, u, hv, hp, hb⟩, hz, hk⟩, st⟩ := hr T hT X
  cases hv
  rw [h0] at hz hk
  have hqn := hL.nq
  obtain ⟨hW, hM, hO, hqA, d1, d2, d3⟩ := hL
  have hF : ∀ q, cF z H.size q → A q := hW.free hS hA
  have hqs : qo < H.size := hO.lt
  have hml : ∀ k i, i < mN t k → mA t k i < H.size := fun k i hi => (gw.at hM hi).lt
  have hmk : ∀ k i, i < mN t k → T'.heap[mA t k i]? = H[mA t k i]? := fun k i hi => by
    rw [e1]
    refine hk _ (hml k i hi) ?_
    rintro (⟨k', i', hi', e⟩ | h1)
    · exact d3 k' i' k i hi' hi e.symm
    · exact absurd (hml k i hi) (Nat.not_lt.mpr h1)
  obtain ⟨t2, a1, b1⟩ := kk v u T'.heap (locs ++ L) hp
    ⟨by rw [e1]; exact hb.weaken hF, gw.kept hM hmk, hO.kept (by rw [e1]; exact hk _ hqs hqn), hqA, fun k i hi e => by
      rcases gw.inA hb hi with ⟨k', i', hi', e'⟩ | h1
      · exact d1 k' i' hi' (e'.symm.trans e)
      · rw [e] at h1; exact absurd hqs (Nat.not_lt.mpr h1), d2, fun k i k' i' hi hi' e => by
      rcases gw.inA hb hi with ⟨k2, i2, hi2, e'⟩ | h1
      · exact d3 k2 i2 k' i' hi2 hi' (e'.symm.trans e)
      · rw [e] at h1; exact absurd (hml k' i' hi') (Nat.not_lt.mpr h1)⟩
    ⟨Nat.le_trans hS.1 (by rw [e1]; exact hz), fun q h1 h2 => by rw [e1, hk q (Nat.lt_of_lt_of_le h1 hS.1) (fun z9 => h2 (hF q z9))]; exact hS.2.1 q h1 h2, fun q hq => by
      rcases List.mem_append.mp hq with h | h
      · exact hS.2.2 q h
      · exact hF _ (hL' q h)⟩ T' rfl X'
  exact ⟨t2, st t2 a1, b1⟩
theorem s_ld (hexec : p.tables.exec = Jvm.exec) (hb : c.code = cc) {b L : Nat} {xs : Nat → Int32} (hX : va_X b L xs s H0) (hbl : b < H0.size) (hbA : ¬ A b) (hS : va_S A H0 H locs) {i : Int32} {k : Nat} (hi : i = nI k) (hk : k < L) (hL : L ≤ 3072) (hdg : decode cc pc = .ok (.iaload, 1))
    (kk : W p l e R s m args below meth c H locs cells slots Q (F0 m (pc + 1) ls (.int (xs k) :: rest))) : W p l e R s m args below meth c H locs cells slots Q (F0 m pc ls (.int i :: .ref b :: rest)) := by
  subst hi
  refine va_sld hexec hb hX hbl hbA hS (vp_in_nI hk (by omega)) hdg ?_
  rw [nI_clamp (by omega)]
  exact kk
theorem out_ld (hexec : p.tables.exec = Jvm.exec) (hb : c.code = cc) (hK : va_K D vwCl (ctys y) s) (hO : va_at D vwCl (qo, oE y f) H) (hdg : decode cc pc = .ok (.laload, 1))
    (kk : W p l e R s m args below meth c H locs cells slots Q (F0 m (pc + 1) ls (.long (f 0) :: rest))) : W p l e R s m args below meth c H locs cells slots Q (F0 m pc ls (.int 0 :: .ref qo :: rest)) := by
  exact W.lald (v := .long (f 0)) hexec hb hO ((hK.2 1 _ rfl).1 1 (fun j => .long (f j))) (fun q => by cases q) (by show ¬ ((0 : Int32) < 0 ∨ (arrV _ _ _).slots.size ≤ _); rw [arrV_size]; show ¬ ((0 : Int32) < 0 ∨ 1 ≤ Int32.toNatClampNeg 0); decide) (by show (arrV _ _ _).slots[0]? = _; rw [arrV_read _ _ (show 0 < 1 from Nat.zero_lt_one)]) rfl rfl hdg kk
end LWS
theorem and15k (x : Int32) : ∃ k, k < 16 ∧ x &&& 15 = nI k := by
  refine ⟨(x &&& 15).toBitVec.toNat, ?_, ?_⟩
  · rw [show (x &&& 15).toBitVec = x.toBitVec &&& 15#32 from rfl, BitVec.toNat_and]
    exact Nat.lt_of_le_of_lt Nat.and_le_right (by decide)
  · apply Int32.toBitVec_inj.1
    show (x &&& 15).toBitVec = BitVec.ofNat 32 _
    simp
