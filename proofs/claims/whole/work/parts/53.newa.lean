/-! RAW WORLDS: what constructors make -/
def aoL : List String := [RX0, RX1, RX2, RX3]
def aoK (U : State) : Prop := ∀ C ∈ aoL, va_AO C U
theorem aoK.moved {u U : State} (hvm : u.vm.Alike U.vm) (h : aoK u) : aoK U := fun C hC => (h C hC).moved hvm
def gPre (D : va_G) (y : Nat → ClassId) (ad : Nat → Nat → Nat) (N : Nat → Nat) (cell : Nat → Nat → va_E) (sz : Nat) (U : State) : Prop := U.heap.size = sz ∧ gw D (fun _ => True) ad N cell U.heap ∧ kK D y U ∧ aoK U
def gQ0 (D : va_G) (ad : Nat → Nat → Nat) (N : Nat → Nat) (sz : Nat) (post : (Nat → Nat → Nat) → (Nat → Nat) → (Nat → Nat → va_E) → Prop) : Array Value → State → Outcome → State → Prop := fun _ st oc t => (∃ (ad' : Nat → Nat → Nat) (N' : Nat → Nat) (cell' : Nat → Nat → va_E), oc = .returned none ∧ post ad' N' cell' ∧ gw D (gA ad N sz) ad' N' cell' t.heap) ∧ va_F (gA ad N sz) st t
section GX
variable {p : Program} {l : Launch} {e : Env} {R : Room} {s : State} {m : MethodId} {args : Array Value} {below : List Frame} {meth : Method} {c : Code} {H : Heap} {locs : List Loc} {cells slots : Nat} {Q : State → Prop}
variable {cc : ByteArray} {pc : Nat} {ls : Array Slot} {rest st0 : List Value} {D : va_G} {A : Nat → Prop} {y : Nat → ClassId} {ad : Nat → Nat → Nat} {N : Nat → Nat} {cell : Nat → Nat → va_E} {tys : List (ClassId × FieldType)} {H0 : Heap} {mc ms : Nat} {a : Array Value}
theorem gBlind (As : List Value) (sz : Nat) : FrameBlind (va_Pc As (gPre D y ad N cell sz)) := fun a U g mk h => ⟨h.1, h.2.1, h.2.2.1, h.2.2.2.1.call g mk a, aoK.moved (u := U) (U := U.calling g mk a) (Vm.Alike.refl U.vm) h.2.2.2.2⟩
theorem gPreS (hW : gw D A ad N cell H) (hK : kK D y s) (hO : aoK s) (As : List Value) : PreS s H (va_Pc As (gPre D y ad N cell H.size)) As := ⟨gBlind As H.size, fun U hU hw => ⟨rfl, by rw [hU], by rw [hU]; exact hW.all, hK.warm hw, hO.moved hw.alike⟩⟩
theorem gq0 {ad' : Nat → Nat → Nat} {N' : Nat → Nat} {cell' : Nat → Nat → va_E} {post : (Nat → Nat → Nat) → (Nat → Nat) → (Nat → Nat → va_E) → Prop} {args : Array Value} (hp : post ad' N' cell') (hW : gw D (gA ad N s.heap.size) ad' N' cell' H) (hS : va_S (gA ad N s.heap.size) s.heap H locs) : ∀ t : State, t.heap = H → s.WarmedH t.vm → gQ0 D ad N s.heap.size post args s (.returned none) t := fun t ht _ => ⟨⟨ad', N', cell', rfl, hp, by rw [ht]; exact hW⟩, hS.F ht⟩
theorem gc0 {post : (Nat → Nat → Nat) → (Nat → Nat) → (Nat → Nat → va_E) → Prop} (hr : va_Run p l e R s m args below meth c H locs cells slots mc ms (F0 m pc ls st0) rest (gQ0 D ad N H.size post a) (gA ad N H.size)) (hW : gw D A ad N cell H) (hS : va_S A H0 H locs) (hA : ∀ q, H0.size ≤ q → A q)
    (kk : ∀ (ad' : Nat → Nat → Nat) (N' : Nat → Nat) (cell' : Nat → Nat → va_E) (H1 : Heap) (locs1 : List Loc), post ad' N' cell' → gw D A ad' N' cell' H1 → va_S A H0 H1 locs1 → W p l e R s m args below meth c H1 locs1 (cells + mc) (slots + ms) Q (F0 m (pc + 3) ls rest)) : W p l e R s m args below meth c H locs cells slots Q (F0 m pc ls st0) := by
  intro T hT X
  obtain ⟨v0, st₀, t, T', L, h0, X', hL, e1, e2, ⟨⟨ad', N', cell', hv, hp, hb⟩, hz, hk⟩, st⟩ := hr T hT X
  cases hv
  rw [h0] at hz hk
  have hF := hW.free hS hA
  obtain ⟨t2, a1, b1⟩ := kk ad' N' cell' T'.heap (locs ++ L) hp (by rw [e1]; exact hb.weaken hF)
    ⟨Nat.le_trans hS.1 (by rw [e1]; exact hz), fun q h1 h2 => by rw [e1, hk q (Nat.lt_of_lt_of_le h1 hS.1) (fun z9 => h2 (hF q z9))]; exact hS.2.1 q h1 h2, fun q hq => by
      rcases List.mem_append.mp hq with h | h
      · exact hS.2.2 q h
      · exact hF _ (hL q h)⟩ T' rfl X'
  exact ⟨t2, st t2 a1, b1⟩
theorem gw_newa (hexec : p.tables.exec = Jvm.exec) (hb : c.code = cc) {atype : ArrayType} (harr : (Cond.arrayClass (newarray.typeOf atype)).before args s = true) {ty : FieldType} (hty : newarray.typeOf atype = ty) (hK : va_K D vwCl tys s) (t0 : Nat) {cA : ClassId} (ht : tys[t0]? = some (cA, ty)) (hra : va_RA s cA ty = (s.vm.findClass ("[" ++ ty.toString) = some cA)) (hW : gw D A ad N cell H) (hS : va_S A H0 H locs) (hA : ∀ q, H0.size ≤ q → A q)
    {n : Int32} {N' : Nat} {a0 : vp_A} (ha : ∀ cA : ClassId, vp_cell cA a0 = arrV cA N' (fun _ => defaultValue ty)) (hn : ¬ n < 0) (hN : n.toNatClampNeg = N') (hbytes : N' * componentBytes ty ≤ 536870912) (hcells : cells + 1 ≤ R.cells) (hslots : slots + N' ≤ R.slots) (hdg : decode cc pc = .ok (.newarray atype, 2)) (k : Nat)
    (kk : ∀ (q : Nat) (H1 : Heap), gw D A (up2 ad k (N k) q) (va_up N k (N k + 1)) (up2 cell k (N k) (.inl (cA, a0))) H1 → va_S A H0 H1 locs →
      W p l e R s m args below meth c H1 locs (cells + 1) (slots + N') Q (F0 m (pc + 2) ls (.ref q :: rest))) : W p l e R s m args below meth c H locs cells slots Q (F0 m pc ls (.int n :: rest)) := by
  subst hty
  refine va_newaK hexec hb harr rfl hdg rfl hn hN hbytes hcells hslots rfl fun H1 cA' e1 z1 o1 hAr hNm => ?_
  have h2 := (hK.2 t0 _ ht).2
  rw [hra] at h2
  have : cA' = cA := Option.some.inj (hNm.symm.trans h2)
  subst this
  refine kk H.size H1 (hW.push o1 (hA _ hS.1) ?_) ⟨Nat.le_trans hS.1 (by omega), fun x h1 h2 => (o1 x (Nat.lt_of_lt_of_le h1 hS.1)).trans (hS.2.1 x h1 h2), hS.2.2⟩
  show H1[H.size]? = some (vp_cell cA' a0)
  rw [ha]; exact e1
theorem gw_newq (hexec : p.tables.exec = Jvm.exec) (hb : c.code = cc) {own C : String} {index : Nat} (hown : s.vm.findClass own = some m.cls) (hclink : (Cond.classLink own index C).before args s = true) (hover : (Cond.arrayOver (.object C)).before args s = true) (hK : va_K D vwCl tys s) (t0 : Nat) {cA : ClassId} (ht : tys[t0]? = some (cA, .object C)) (hW : gw D A ad N cell H) (hS : va_S A H0 H locs) (hA : ∀ q, H0.size ≤ q → A q)
    {n : Int32} {N' : Nat} (hn : ¬ n < 0) (hN : n.toNatClampNeg = N') (hbytes : N' * 4 ≤ 536870912) (hcells : cells + 1 ≤ R.cells) (hslots : slots + N' ≤ R.slots) (hdg : decode cc pc = .ok (.anewarray index, 3)) (k : Nat)
    (kk : ∀ (q : Nat) (H1 : Heap), gw D A (up2 ad k (N k) q) (va_up N k (N k + 1)) (up2 cell k (N k) (.inl (cA, N', .inr (.inr (.inr (.inr (fun _ => none))))))) H1 → va_S A H0 H1 locs →
      W p l e R s m args below meth c H1 locs (cells + 1) (slots + N') Q (F0 m (pc + 3) ls (.ref q :: rest))) : W p l e R s m args below meth c H locs cells slots Q (F0 m pc ls (.int n :: rest)) := by
  subst hN
  refine W.anew hexec hb hown hclink hover rfl hdg rfl hn hbytes hcells hslots fun cA' kA comp f1 f2 f3 f4 => ?_
  obtain ⟨kA2, comp2, g1, g2, g3, g4⟩ := (hK.2 t0 _ ht).2
  have : cA' = cA := Option.some.inj (f1.symm.trans g4)
  subst this
  generalize hH1 : H.push ({ cls := cA', slots := Array.replicate n.toNatClampNeg .null, vm := .none } : Cell) = H1
  have z1 : H1.size = H.size + 1 := by rw [← hH1, Array.size_push]
  have e1 : H1[H.size]? = some (arrV cA' n.toNatClampNeg (fun _ => .null)) := by rw [← hH1, Array.getElem?_push_size, ← arrV_new]
  have o1 : ∀ q : Nat, q < H.size → H1[q]? = H[q]? := fun q hq => by rw [← hH1, Array.getElem?_push, if_neg (Nat.ne_of_lt hq)]
  refine kk H.size H1 (hW.push o1 (hA _ hS.1) ?_) ⟨Nat.le_trans hS.1 (by omega), fun x h1 h2 => (o1 x (Nat.lt_of_lt_of_le h1 hS.1)).trans (hS.2.1 x h1 h2), hS.2.2⟩
  show H1[H.size]? = some (vp_cell cA' _)
  rw [e1, vp_cell_q]
  rfl
end GX
section GR2
variable {p : Program} {l : Launch} {e : Env} {R : Room} {s : State} {m : MethodId} {args : Array Value} {below : List Frame} {meth : Method} {c : Code} {H : Heap} {locs : List Loc} {cells slots : Nat} {Q : State → Prop}
variable {cc : ByteArray} {pc : Nat} {ls : Array Slot} {rest : List Value} {D : va_G} {A : Nat → Prop} {ad : Nat → Nat → Nat} {N : Nat → Nat} {cell : Nat → Nat → va_E} {tys : List (ClassId × FieldType)} {H0 : Heap}
theorem gz_get {q : Nat} (hexec : p.tables.exec = Jvm.exec) (hb : c.code = cc) {own ref C : String} {T : u_T} {Nf ci index : Nat} {Ts : List Cond} (hts : ∀ w ∈ Ts, w.before args s = true) (hin : ∀ w ∈ u_ws C T Nf, w ∈ Ts) (hown : s.vm.findClass own = some m.cls) (hK : va_K D vwCl tys s) (hW : gw D A ad N cell H) {k i : Nat} (hi : i < N k) (hq : q = ad k i) {fs : List Value} (he : cell k i = .inr (ci, fs)) (hc : vwCl[ci]? = some (C, T, Nf)) (f : Nat) (hf : f < Nf) (hlink : (Cond.fieldLink own index ref (T f).2.1 (T f).2.2.1).before args s = true) (hsame : ∀ x, s.fieldFound? (T f).1 (T f).2.1 (T f).2.2.1 = some x → s.fieldFound? ref (T f).2.1 (T f).2.2.1 = some x) {v : Value} (hv : fs[f]? = some v) (hdg : decode cc pc = .ok (.getfield index, 3))
    (kk : W p l e R s m args below meth c H locs cells slots Q (F0 m (pc + 3) ls (v :: rest))) : W p l e R s m args below meth c H locs cells slots Q (F0 m pc ls (.ref q :: rest)) := by
  subst hq; exact gw_get hexec hb hts hin hown hK hW hi he hc f hf hlink hsame hv hdg kk
theorem gz_put {q : Nat} (hexec : p.tables.exec = Jvm.exec) (hb : c.code = cc) {own ref C : String} {T : u_T} {Nf ci index : Nat} {Ts : List Cond} (hts : ∀ w ∈ Ts, w.before args s = true) (hin : ∀ w ∈ u_ws C T Nf, w ∈ Ts) (ty0 : Nat → FieldType) (hty : ∀ k, k < Nf → parseFieldDescriptor (T k).2.2.1 = some (ty0 k)) (hnm : ∀ a, a < Nf → ∀ b, b < Nf → a ≠ b → (T a).2.1 ≠ (T b).2.1) (hown : s.vm.findClass own = some m.cls) (hK : va_K D vwCl tys s) (hW : gw D A ad N cell H) (hS0 : va_S A H0 H locs) {k i : Nat} (hi : i < N k) (hq : q = ad k i) {fs : List Value} (he : cell k i = .inr (ci, fs)) (hc : vwCl[ci]? = some (C, T, Nf)) (f : Nat) (hf : f < Nf) (hlink : (Cond.fieldLink own index ref (T f).2.1 (T f).2.2.1).before args s = true) (hsame : ∀ x, s.fieldFound? (T f).1 (T f).2.1 (T f).2.2.1 = some x → s.fieldFound? ref (T f).2.1 (T f).2.2.1 = some x) (hfin : (T f).2.2.2 = false) {ty : FieldType} {v : Value} (hd : parseFieldDescriptor (T f).2.2.1 = some ty) (hn : narrow ty v = v) (hfit : fits ty v = true) (hl : f < fs.length) (hdg : decode cc pc = .ok (.putfield index, 3))
    {cell' : Nat → Nat → va_E} (hc1 : cell' k i = .inr (ci, fs.set f v)) (hc2 : ∀ k' i' : Nat, i' < N k' → ¬ (k' = k ∧ i' = i) → cell' k' i' = cell k' i')
    (kk : ∀ (H1 : Heap) (locs1 : List Loc), gw D A ad N cell' H1 → va_S A H0 H1 locs1 → W p l e R s m args below meth c H1 locs1 cells slots Q (F0 m (pc + 3) ls rest)) : W p l e R s m args below meth c H locs cells slots Q (F0 m pc ls (v :: .ref q :: rest)) := by
  subst hq; exact gw_put hexec hb hts hin ty0 hty hnm hown hK hW hS0 hi he hc f hf hlink hsame hfin hd hn hfit hl hdg hc1 hc2 kk
theorem gz_putF {q : Nat} (hexec : p.tables.exec = Jvm.exec) (hb : c.code = cc) {own ref C : String} {T : u_T} {Nf ci index : Nat} {Ts : List Cond} (hts : ∀ w ∈ Ts, w.before args s = true) (hin : ∀ w ∈ u_ws C T Nf, w ∈ Ts) (ty0 : Nat → FieldType) (hty : ∀ k, k < Nf → parseFieldDescriptor (T k).2.2.1 = some (ty0 k)) (hnm : ∀ a, a < Nf → ∀ b, b < Nf → a ≠ b → (T a).2.1 ≠ (T b).2.1) (hown : s.vm.findClass own = some m.cls) (hK : va_K D vwCl tys s) (hW : gw D A ad N cell H) (hS0 : va_S A H0 H locs) {k i : Nat} (hi : i < N k) (hq : q = ad k i) {fs : List Value} (he : cell k i = .inr (ci, fs)) (hc : vwCl[ci]? = some (C, T, Nf)) (f : Nat) (hf : f < Nf) (hlink : (Cond.fieldLink own index ref (T f).2.1 (T f).2.2.1).before args s = true) (hsame : ∀ x, s.fieldFound? (T f).1 (T f).2.1 (T f).2.2.1 = some x → s.fieldFound? ref (T f).2.1 (T f).2.2.1 = some x) (hfin : (T f).2.2.2 = true) (hin2 : meth.name = "<init>") (hdecl : (T f).1 = own) {ty : FieldType} {v : Value} (hd : parseFieldDescriptor (T f).2.2.1 = some ty) (hn : narrow ty v = v) (hfit : fits ty v = true) (hl : f < fs.length) (hdg : decode cc pc = .ok (.putfield index, 3))
    {cell' : Nat → Nat → va_E} (hc1 : cell' k i = .inr (ci, fs.set f v)) (hc2 : ∀ k' i' : Nat, i' < N k' → ¬ (k' = k ∧ i' = i) → cell' k' i' = cell k' i')
    (kk : ∀ (H1 : Heap) (locs1 : List Loc), gw D A ad N cell' H1 → va_S A H0 H1 locs1 → W p l e R s m args below meth c H1 locs1 cells slots Q (F0 m (pc + 3) ls rest)) : W p l e R s m args below meth c H locs cells slots Q (F0 m pc ls (v :: .ref q :: rest)) := by
  subst hq; exact gw_putF hexec hb hts hin ty0 hty hnm hown hK hW hS0 hi he hc f hf hlink hsame hfin hin2 hdecl hd hn hfit hl hdg hc1 hc2 kk
theorem gz_iast {q : Nat} (hexec : p.tables.exec = Jvm.exec) (hb : c.code = cc) (hK : va_K D vwCl tys s) (hW : gw D A ad N cell H) (hS : va_S A H0 H locs) {k i : Nat} (hi : i < N k) (hq : q = ad k i) (t0 : Nat) {cA : ClassId} {n : Nat} {f : Nat → Int32} (ha : cell k i = .inl (cA, n, .inl f)) (ht : tys[t0]? = some (cA, .int)) {j x : Int32} (hin : vp_in j n) (hdg : decode cc pc = .ok (.iastore, 1))
    {cell' : Nat → Nat → va_E} {f' : Nat → Int32} (hc1 : cell' k i = .inl (cA, n, .inl f')) (hf : ∀ q, f' q = if q = j.toNatClampNeg then x else f q) (hc2 : ∀ k' i' : Nat, i' < N k' → ¬ (k' = k ∧ i' = i) → cell' k' i' = cell k' i')
    (kk : ∀ (H1 : Heap) (locs1 : List Loc), gw D A ad N cell' H1 → va_S A H0 H1 locs1 → W p l e R s m args below meth c H1 locs1 cells slots Q (F0 m (pc + 1) ls rest)) : W p l e R s m args below meth c H locs cells slots Q (F0 m pc ls (.int x :: .int j :: .ref q :: rest)) := by
  subst hq; exact gw_iast hexec hb hK hW hS hi t0 ha ht hin hdg hc1 hf hc2 kk
theorem gz_aast {q qv : Nat} (hexec : p.tables.exec = Jvm.exec) (hb : c.code = cc) (hK : va_K D vwCl tys s) (hW : gw D A ad N cell H) (hS : va_S A H0 H locs) {k i kv iv : Nat} (hi : i < N k) (hiv : iv < N kv) (hq : q = ad k i) (hqv : qv = ad kv iv) (t0 ci : Nat) {cA : ClassId} {r : vw_C} {vs : List Value} {n : Nat} {f : Nat → Option Nat} (ha : cell k i = .inl (cA, n, .inr (.inr (.inr (.inr f))))) (hv : cell kv iv = .inr (ci, vs)) (hc : vwCl[ci]? = some r) (ht : tys[t0]? = some (cA, .object r.1)) {j : Int32} (hin : vp_in j n) (hdg : decode cc pc = .ok (.aastore, 1))
    {cell' : Nat → Nat → va_E} {f' : Nat → Option Nat} (hc1 : cell' k i = .inl (cA, n, .inr (.inr (.inr (.inr f'))))) (hf : ∀ q, f' q = if q = j.toNatClampNeg then some (ad kv iv) else f q) (hc2 : ∀ k' i' : Nat, i' < N k' → ¬ (k' = k ∧ i' = i) → cell' k' i' = cell k' i')
    (kk : ∀ (H1 : Heap) (locs1 : List Loc), gw D A ad N cell' H1 → va_S A H0 H1 locs1 → W p l e R s m args below meth c H1 locs1 cells slots Q (F0 m (pc + 1) ls rest)) : W p l e R s m args below meth c H locs cells slots Q (F0 m pc ls (.ref qv :: .int j :: .ref q :: rest)) := by
  subst hq; subst hqv; exact gw_aast hexec hb hK hW hS hi hiv t0 ci ha hv hc ht hin hdg hc1 hf hc2 kk
theorem gz_len {q : Nat} (hexec : p.tables.exec = Jvm.exec) (hb : c.code = cc) (hK : va_K D vwCl tys s) (hW : gw D A ad N cell H) {k i : Nat} (hi : i < N k) (hq : q = ad k i) (t0 : Nat) {cA : ClassId} {x : vp_A} (ha : cell k i = .inl (cA, x)) {ty : FieldType} (ht : tys[t0]? = some (cA, ty)) {v : Int32} (hv : Int32.ofNat x.1 = v) (hdg : decode cc pc = .ok (.arraylength, 1))
    (kk : W p l e R s m args below meth c H locs cells slots Q (F0 m (pc + 1) ls (.int v :: rest))) : W p l e R s m args below meth c H locs cells slots Q (F0 m pc ls (.ref q :: rest)) := by
  subst hq; exact gw_len hexec hb hK hW hi t0 ha ht hv hdg kk
end GR2
theorem up2_up {α : Type} {f : Nat → Nat → α} {k i : Nat} {v w : α} : up2 (up2 f k i v) k i w = up2 f k i w := by
  funext x j; unfold up2; split <;> rfl
theorem gw.shape {D : va_G} {A : Nat → Prop} {ad ad' : Nat → Nat → Nat} {N N' : Nat → Nat} {cell cell' : Nat → Nat → va_E} {H : Heap} (h : gw D A ad N cell H) (hN : ∀ k, N' k = N k) (hc : ∀ k i, i < N k → ad' k i = ad k i ∧ cell' k i = cell k i) : gw D A ad' N' cell' H := by
  have : N' = N := funext hN
  subst this
  exact ⟨fun k i hi => by rw [(hc k i hi).1, (hc k i hi).2]; exact h.1 k i hi, fun k i k' i' h1 h2 e => by rw [(hc k i h1).1, (hc k' i' h2).1] at e; exact h.2 k i k' i' h1 h2 e⟩
theorem ha_int (n : Nat) (cA : ClassId) : vp_cell cA (n, .inl (fun _ => 0)) = arrV cA n (fun _ => defaultValue .int) := by rw [vp_cell_i]; rfl
theorem ha_boo (n : Nat) (cA : ClassId) : vp_cell cA (n, .inl (fun _ => 0)) = arrV cA n (fun _ => defaultValue .boolean) := by rw [vp_cell_i]; rfl
theorem ha_lon (n : Nat) (cA : ClassId) : vp_cell cA (n, .inr (.inl (fun _ => 0))) = arrV cA n (fun _ => defaultValue .long) := by rw [vp_cell_l]; rfl
theorem ra_int (s : State) (cA : ClassId) : va_RA s cA .int = (s.vm.findClass ("[" ++ FieldType.int.toString) = some cA) := rfl
theorem ra_boo (s : State) (cA : ClassId) : va_RA s cA .boolean = (s.vm.findClass ("[" ++ FieldType.boolean.toString) = some cA) := rfl
theorem ra_lon (s : State) (cA : ClassId) : va_RA s cA .long = (s.vm.findClass ("[" ++ FieldType.long.toString) = some cA) := rfl
section NEWA
variable {p : Program} {l : Launch} {e : Env} {R : Room} {s : State} {m : MethodId} {args : Array Value} {below : List Frame} {meth : Method} {c : Code} {H : Heap} {locs : List Loc} {cells slots : Nat} {Q : State → Prop}
variable {cc : ByteArray} {pc : Nat} {ls : Array Slot} {rest : List Value} {D : va_G} {y : Nat → ClassId} {A : Nat → Prop} {ad : Nat → Nat → Nat} {N : Nat → Nat} {cell : Nat → Nat → va_E} {H0 : Heap}
theorem gz_newI (k : Nat) {N' j : Nat} (hj : N k = j) (hexec : p.tables.exec = Jvm.exec) (hb : c.code = cc) (harr : (Cond.arrayClass .int).before args s = true) (hK : va_K D vwCl (ctys y) s) (hW : gw D A ad N cell H) (hS : va_S A H0 H locs) (hA : ∀ q, H0.size ≤ q → A q) {n : Int32} (hn : ¬ n < 0) (hN : n.toNatClampNeg = N') (hsm : N' ≤ 1000) (hcells : cells + 1 ≤ R.cells) (hslots : slots + N' ≤ R.slots) (hdg : decode cc pc = .ok (.newarray .int, 2))
    (kk : ∀ (q : Nat) (H1 : Heap), gw D A (up2 ad k j q) (va_up N k (j + 1)) (up2 cell k j (.inl (y 0, N', .inl (fun _ => 0)))) H1 → va_S A H0 H1 locs → W p l e R s m args below meth c H1 locs (cells + 1) (slots + N') Q (F0 m (pc + 2) ls (.ref q :: rest))) : W p l e R s m args below meth c H locs cells slots Q (F0 m pc ls (.int n :: rest)) := by
  subst hj
  exact gw_newa hexec hb (atype := .int) harr (ty := .int) rfl hK 0 rfl (ra_int s (y 0)) hW hS hA (ha_int N') hn hN (by show N' * 4 ≤ _; omega) hcells hslots hdg k kk
theorem gz_newZ (k : Nat) {N' j : Nat} (hj : N k = j) (hexec : p.tables.exec = Jvm.exec) (hb : c.code = cc) (harr : (Cond.arrayClass .boolean).before args s = true) (hK : va_K D vwCl (ctys y) s) (hW : gw D A ad N cell H) (hS : va_S A H0 H locs) (hA : ∀ q, H0.size ≤ q → A q) {n : Int32} (hn : ¬ n < 0) (hN : n.toNatClampNeg = N') (hsm : N' ≤ 1000) (hcells : cells + 1 ≤ R.cells) (hslots : slots + N' ≤ R.slots) (hdg : decode cc pc = .ok (.newarray .boolean, 2))
    (kk : ∀ (q : Nat) (H1 : Heap), gw D A (up2 ad k j q) (va_up N k (j + 1)) (up2 cell k j (.inl (y 2, N', .inl (fun _ => 0)))) H1 → va_S A H0 H1 locs → W p l e R s m args below meth c H1 locs (cells + 1) (slots + N') Q (F0 m (pc + 2) ls (.ref q :: rest))) : W p l e R s m args below meth c H locs cells slots Q (F0 m pc ls (.int n :: rest)) := by
  subst hj
  exact gw_newa hexec hb (atype := .boolean) harr (ty := .boolean) rfl hK 2 rfl (ra_boo s (y 2)) hW hS hA (ha_boo N') hn hN (by show N' * 1 ≤ _; omega) hcells hslots hdg k kk
theorem gz_newJ (k : Nat) {N' j : Nat} (hj : N k = j) (hexec : p.tables.exec = Jvm.exec) (hb : c.code = cc) (harr : (Cond.arrayClass .long).before args s = true) (hK : va_K D vwCl (ctys y) s) (hW : gw D A ad N cell H) (hS : va_S A H0 H locs) (hA : ∀ q, H0.size ≤ q → A q) {n : Int32} (hn : ¬ n < 0) (hN : n.toNatClampNeg = N') (hsm : N' ≤ 1000) (hcells : cells + 1 ≤ R.cells) (hslots : slots + N' ≤ R.slots) (hdg : decode cc pc = .ok (.newarray .long, 2))
    (kk : ∀ (q : Nat) (H1 : Heap), gw D A (up2 ad k j q) (va_up N k (j + 1)) (up2 cell k j (.inl (y 1, N', .inr (.inl (fun _ => 0))))) H1 → va_S A H0 H1 locs → W p l e R s m args below meth c H1 locs (cells + 1) (slots + N') Q (F0 m (pc + 2) ls (.ref q :: rest))) : W p l e R s m args below meth c H locs cells slots Q (F0 m pc ls (.int n :: rest)) := by
  subst hj
  exact gw_newa hexec hb (atype := .long) harr (ty := .long) rfl hK 1 rfl (ra_lon s (y 1)) hW hS hA (ha_lon N') hn hN (by show N' * 8 ≤ _; omega) hcells hslots hdg k kk
theorem gz_newq (k : Nat) {N' j t0 : Nat} (hj : N k = j) (hexec : p.tables.exec = Jvm.exec) (hb : c.code = cc) {own C : String} {index : Nat} (hown : s.vm.findClass own = some m.cls) (hclink : (Cond.classLink own index C).before args s = true) (hover : (Cond.arrayOver (.object C)).before args s = true) (hK : va_K D vwCl (ctys y) s) {cA : ClassId} (ht : (ctys y)[t0]? = some (cA, .object C)) (hW : gw D A ad N cell H) (hS : va_S A H0 H locs) (hA : ∀ q, H0.size ≤ q → A q)
    {n : Int32} (hn : ¬ n < 0) (hN : n.toNatClampNeg = N') (hsm : N' ≤ 1000) (hcells : cells + 1 ≤ R.cells) (hslots : slots + N' ≤ R.slots) (hdg : decode cc pc = .ok (.anewarray index, 3))
    (kk : ∀ (q : Nat) (H1 : Heap), gw D A (up2 ad k j q) (va_up N k (j + 1)) (up2 cell k j (.inl (cA, N', .inr (.inr (.inr (.inr (fun _ => none))))))) H1 → va_S A H0 H1 locs → W p l e R s m args below meth c H1 locs (cells + 1) (slots + N') Q (F0 m (pc + 3) ls (.ref q :: rest))) : W p l e R s m args below meth c H locs cells slots Q (F0 m pc ls (.int n :: rest)) := by
  subst hj
  exact gw_newq hexec hb hown hclink hover hK t0 ht hW hS hA hn hN (by omega) hcells hslots hdg k kk
end NEWA
