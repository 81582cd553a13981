/-! A WORLD NAMED BY KINDS AND NUMBERS: the thing number i of kind k lies at the address ad k i and holds cell k i; N k things of kind k are there. -/
def up2 {α : Type} (f : Nat → Nat → α) (k i : Nat) (v : α) : Nat → Nat → α := fun k' i' => if k' = k ∧ i' = i then v else f k' i'
theorem up2_s {α : Type} (f : Nat → Nat → α) (k i : Nat) (v : α) : up2 f k i v k i = v := by simp [up2]
theorem up2_n {α : Type} {f : Nat → Nat → α} {k i k' i' : Nat} {v : α} (h : ¬ (k' = k ∧ i' = i)) : up2 f k i v k' i' = f k' i' := by simp [up2, h]
theorem up2_k {α : Type} {f : Nat → Nat → α} {k i k' i' : Nat} {v : α} (h : k' ≠ k) : up2 f k i v k' i' = f k' i' := by simp [up2, h]
theorem up2_i {α : Type} {f : Nat → Nat → α} {k i k' i' : Nat} {v : α} (h : i' ≠ i) : up2 f k i v k' i' = f k' i' := by simp [up2, h]
def gw (D : va_G) (A : Nat → Prop) (ad : Nat → Nat → Nat) (N : Nat → Nat) (cell : Nat → Nat → va_E) (H : Heap) : Prop :=
  (∀ k i : Nat, i < N k → va_at D vwCl (ad k i, cell k i) H ∧ A (ad k i)) ∧ ∀ k i k' i' : Nat, i < N k → i' < N k' → ad k i = ad k' i' → k = k' ∧ i = i'
/-- the addresses of a world, and all from sz on -/
def gA (ad : Nat → Nat → Nat) (N : Nat → Nat) (sz : Nat) : Nat → Prop := fun q => (∃ k i : Nat, i < N k ∧ q = ad k i) ∨ sz ≤ q
section GW
variable {D : va_G} {A B : Nat → Prop} {ad ad' : Nat → Nat → Nat} {N N' : Nat → Nat} {cell cell' : Nat → Nat → va_E} {H H0 H1 : Heap} {locs : List Loc}
theorem gw.at (h : gw D A ad N cell H) {k i : Nat} (hi : i < N k) : va_at D vwCl (ad k i, cell k i) H := (h.1 k i hi).1
theorem gw.inA (h : gw D A ad N cell H) {k i : Nat} (hi : i < N k) : A (ad k i) := (h.1 k i hi).2
theorem gw.lt (h : gw D A ad N cell H) {k i : Nat} (hi : i < N k) : ad k i < H.size := (h.at hi).lt
theorem gw.ne (h : gw D A ad N cell H) {k i k' i' : Nat} (hi : i < N k) (hi' : i' < N k') (hn : ¬ (k' = k ∧ i' = i)) : ad k' i' ≠ ad k i := fun e => hn (h.2 k' i' k i hi' hi e)
theorem gw.upd (h : gw D A ad N cell H) {k i : Nat} (hi : i < N k) (hnew : va_at D vwCl (ad k i, cell' k i) H1) (oq : ∀ q : Nat, q ≠ ad k i → H1[q]? = H[q]?) (ho : ∀ k' i' : Nat, i' < N k' → ¬ (k' = k ∧ i' = i) → cell' k' i' = cell k' i') : gw D A ad N cell' H1 := by
  refine ⟨fun k' i' hi' => ?_, h.2⟩
  by_cases hq : k' = k ∧ i' = i
  · obtain ⟨rfl, rfl⟩ := hq
    exact ⟨hnew, h.inA hi'⟩
  · rw [ho k' i' hi' hq]
    exact ⟨(h.at hi').kept (oq _ (h.ne hi hi' hq)), h.inA hi'⟩
theorem gw.eq (h : gw D A ad N cell H) (he : ∀ k i : Nat, i < N k → cell' k i = cell k i) : gw D A ad N cell' H := ⟨fun k i hi => by rw [he k i hi]; exact h.1 k i hi, h.2⟩
theorem gw.kept (h : gw D A ad N cell H) (hk : ∀ k i : Nat, i < N k → H1[ad k i]? = H[ad k i]?) : gw D A ad N cell H1 := ⟨fun k i hi => ⟨(h.at hi).kept (hk k i hi), h.inA hi⟩, h.2⟩
theorem gw.weaken (h : gw D A ad N cell H) (hAB : ∀ q, A q → B q) : gw D B ad N cell H := ⟨fun k i hi => ⟨h.at hi, hAB _ (h.inA hi)⟩, h.2⟩
theorem gw.all (h : gw D A ad N cell H) : gw D (fun _ => True) ad N cell H := h.weaken (fun _ _ => trivial)
theorem gw.self {sz : Nat} (h : gw D A ad N cell H) : gw D (gA ad N sz) ad N cell H := ⟨fun k i hi => ⟨h.at hi, Or.inl ⟨k, i, hi, rfl⟩⟩, h.2⟩
theorem gw.free (h : gw D A ad N cell H) (hS : va_S A H0 H locs) (hA : ∀ q, H0.size ≤ q → A q) : ∀ q, gA ad N H.size q → A q := by
  intro q hq
  rcases hq with ⟨k, i, hi, rfl⟩ | hq
  · exact h.inA hi
  · exact hA q (Nat.le_trans hS.1 hq)
/-- one thing more of kind k -/
theorem gw.push (h : gw D A ad N cell H) {k : Nat} {e : va_E} (o1 : ∀ q : Nat, q < H.size → H1[q]? = H[q]?) (hA : A H.size) (hnew : va_at D vwCl (H.size, e) H1) :
    gw D A (up2 ad k (N k) H.size) (va_up N k (N k + 1)) (up2 cell k (N k) e) H1 := by
  have hcase : ∀ k' i' : Nat, i' < va_up N k (N k + 1) k' → (k' = k ∧ i' = N k) ∨ (i' < N k' ∧ ¬ (k' = k ∧ i' = N k)) := by
    intro k' i' hi
    by_cases hk : k' = k
    · subst hk
      rw [show va_up N k' (N k' + 1) k' = N k' + 1 from if_pos rfl] at hi
      by_cases hz : i' = N k'
      · exact Or.inl ⟨rfl, hz⟩
      · exact Or.inr ⟨by omega, fun q => hz q.2⟩
    · rw [va_up_ne _ _ hk] at hi
      exact Or.inr ⟨hi, fun q => hk q.1⟩
  refine ⟨fun k' i' hi => ?_, fun k1 i1 k2 i2 h1 h2 he => ?_⟩
  · rcases hcase k' i' hi with ⟨rfl, rfl⟩ | ⟨h1, h2⟩
    · rw [up2_s, up2_s]
      exact ⟨hnew, hA⟩
    · rw [up2_n h2, up2_n h2]
      exact ⟨(h.at h1).kept (o1 _ (h.lt h1)), h.inA h1⟩
  · rcases hcase k1 i1 h1 with ⟨rfl, rfl⟩ | ⟨a1, a2⟩ <;> rcases hcase k2 i2 h2 with ⟨b1, b2⟩ | ⟨b1, b2⟩
    · exact ⟨b1.symm, b2.symm⟩
    · rw [up2_s, up2_n b2] at he
      exact absurd (h.lt b1) (by omega)
    · obtain ⟨rfl, rfl⟩ := And.intro b1 b2
      rw [up2_s, up2_n a2] at he
      exact absurd (h.lt a1) (by omega)
    · rw [up2_n a2, up2_n b2] at he
      exact h.2 _ _ _ _ a1 b1 he
end GW
section GR
variable {p : Program} {l : Launch} {e : Env} {R : Room} {s : State} {m : MethodId} {args : Array Value} {below : List Frame} {meth : Method} {c : Code} {H : Heap} {locs : List Loc} {cells slots : Nat} {Q : State → Prop}
variable {cc : ByteArray} {pc : Nat} {ls : Array Slot} {rest : List Value} {D : va_G} {A : Nat → Prop} {ad : Nat → Nat → Nat} {N : Nat → Nat} {cell : Nat → Nat → va_E} {tys : List (ClassId × FieldType)} {H0 : Heap}
theorem gw_one (h : gw D A ad N cell H) {k i : Nat} (hi : i < N k) : va_P D vwCl [(ad k i, cell k i)] H := by
  intro j q hj
  match j, hj with
  | 0, hj => cases hj; exact h.at hi
  | j + 1, hj => simp at hj
theorem gw_get (hexec : p.tables.exec = Jvm.exec) (hb : c.code = cc) {own ref C : String} {T : u_T} {Nf ci index : Nat} {Ts : List Cond} (hts : ∀ w ∈ Ts, w.before args s = true) (hin : ∀ w ∈ u_ws C T Nf, w ∈ Ts) (hown : s.vm.findClass own = some m.cls) (hK : va_K D vwCl tys s) (hW : gw D A ad N cell H) {k i : Nat} (hi : i < N k) {fs : List Value} (he : cell k i = .inr (ci, fs)) (hc : vwCl[ci]? = some (C, T, Nf)) (f : Nat) (hf : f < Nf) (hlink : (Cond.fieldLink own index ref (T f).2.1 (T f).2.2.1).before args s = true) (hsame : ∀ x, s.fieldFound? (T f).1 (T f).2.1 (T f).2.2.1 = some x → s.fieldFound? ref (T f).2.1 (T f).2.2.1 = some x) {v : Value} (hv : fs[f]? = some v) (hdg : decode cc pc = .ok (.getfield index, 3))
    (kk : W p l e R s m args below meth c H locs cells slots Q (F0 m (pc + 3) ls (v :: rest))) : W p l e R s m args below meth c H locs cells slots Q (F0 m pc ls (.ref (ad k i) :: rest)) :=
  va_get hexec hb hts hin hown hK (gw_one hW hi) 0 (fs := fs) (by rw [he]; rfl) hc f hf hlink hsame hv hdg kk
theorem gw_getN (hexec : p.tables.exec = Jvm.exec) (hb : c.code = cc) {own ref C host : String} {T : u_T} {Nf ci index : Nat} {Ts : List Cond} (hts : ∀ w ∈ Ts, w.before args s = true) (hin : ∀ w ∈ u_ws C T Nf, w ∈ Ts) (hown : s.vm.findClass own = some m.cls) (hK : va_K D vwCl tys s) (hW : gw D A ad N cell H) {k i : Nat} (hi : i < N k) {fs : List Value} (he : cell k i = .inr (ci, fs)) (hc : vwCl[ci]? = some (C, T, Nf)) (f : Nat) (hf : f < Nf) (hlink : va_Nw (.fieldLinkNest own index ref (T f).2.1 (T f).2.2.1 host) s) (hsame : ∀ x, s.fieldFound? (T f).1 (T f).2.1 (T f).2.2.1 = some x → s.fieldFound? ref (T f).2.1 (T f).2.2.1 = some x) {v : Value} (hv : fs[f]? = some v) (hdg : decode cc pc = .ok (.getfield index, 3))
    (kk : W p l e R s m args below meth c H locs cells slots Q (F0 m (pc + 3) ls (v :: rest))) : W p l e R s m args below meth c H locs cells slots Q (F0 m pc ls (.ref (ad k i) :: rest)) :=
  va_getN hexec hb hts hin hown hK (gw_one hW hi) 0 (fs := fs) (by rw [he]; rfl) hc f hf (va_Nw.use rfl hlink) hsame hv hdg kk
theorem gw_put (hexec : p.tables.exec = Jvm.exec) (hb : c.code = cc) {own ref C : String} {T : u_T} {Nf ci index : Nat} {Ts : List Cond} (hts : ∀ w ∈ Ts, w.before args s = true) (hin : ∀ w ∈ u_ws C T Nf, w ∈ Ts) (ty0 : Nat → FieldType) (hty : ∀ k, k < Nf → parseFieldDescriptor (T k).2.2.1 = some (ty0 k)) (hnm : ∀ a, a < Nf → ∀ b, b < Nf → a ≠ b → (T a).2.1 ≠ (T b).2.1) (hown : s.vm.findClass own = some m.cls) (hK : va_K D vwCl tys s) (hW : gw D A ad N cell H) (hS0 : va_S A H0 H locs) {k i : Nat} (hi : i < N k) {fs : List Value} (he : cell k i = .inr (ci, fs)) (hc : vwCl[ci]? = some (C, T, Nf)) (f : Nat) (hf : f < Nf) (hlink : (Cond.fieldLink own index ref (T f).2.1 (T f).2.2.1).before args s = true) (hsame : ∀ x, s.fieldFound? (T f).1 (T f).2.1 (T f).2.2.1 = some x → s.fieldFound? ref (T f).2.1 (T f).2.2.1 = some x) (hfin : (T f).2.2.2 = false) {ty : FieldType} {v : Value} (hd : parseFieldDescriptor (T f).2.2.1 = some ty) (hn : narrow ty v = v) (hfit : fits ty v = true) (hl : f < fs.length) (hdg : decode cc pc = .ok (.putfield index, 3))
    {cell' : Nat → Nat → va_E} (hc1 : cell' k i = .inr (ci, fs.set f v)) (hc2 : ∀ k' i' : Nat, i' < N k' → ¬ (k' = k ∧ i' = i) → cell' k' i' = cell k' i')
    (kk : ∀ (H1 : Heap) (locs1 : List Loc), gw D A ad N cell' H1 → va_S A H0 H1 locs1 → W p l e R s m args below meth c H1 locs1 cells slots Q (F0 m (pc + 3) ls rest)) : W p l e R s m args below meth c H locs cells slots Q (F0 m pc ls (v :: .ref (ad k i) :: rest)) := by
  have hap := va_apart (own := own) hts hin ty0 hty hnm hK hc
  have hat := hW.at hi
  rw [he] at hat
  obtain ⟨r, h1, cell0, q1, q2, q3, q4⟩ := hat
  have hr : r = (C, T, Nf) := Option.some.inj (h1.symm.trans hc)
  subst hr
  obtain ⟨hS, hfc, kC, hkC, hkind⟩ := hK.1 ci _ hc
  obtain ⟨cf, kf, fi, fd, hfi, hsl⟩ := hS f hf
  have hlay := hts _ (hin _ (u_in_lay hf))
  unfold u_lay at hlay
  rw [if_neg (by rw [hfin]; decide)] at hlay
  have hst := (u_facts hfc hkC (u_lays hts hin hf) hfi).1
  have h6 := u_store hfc hkC hkind hlay hfi hd hn hfit
  refine W.putK hexec hb (f := fd) ⟨hown, hlink, ⟨_, _, _, hsame _ hfi⟩, hst⟩ (by rw [q2]; exact h6) q1 q3 (by rw [hsl]; exact k2_hasslot (q4 f hf)) rfl rfl hdg fun H' e1 e2 e3 => ?_
  rw [hsl] at e1 ⊢
  refine kk H' _ (hW.upd hi ?_ e3 hc2) (hS0.put e2 e3 (hW.inA hi))
  rw [hc1]
  exact ⟨_, hc, t_OB.to (V := updV (vp_V fs) f v) ⟨_, e1, q2, q3, t_set q4 hap hf v⟩ (fun j _ => vp_updV_set hl v j)⟩
theorem gw_putF (hexec : p.tables.exec = Jvm.exec) (hb : c.code = cc) {own ref C : String} {T : u_T} {Nf ci index : Nat} {Ts : List Cond} (hts : ∀ w ∈ Ts, w.before args s = true) (hin : ∀ w ∈ u_ws C T Nf, w ∈ Ts) (ty0 : Nat → FieldType) (hty : ∀ k, k < Nf → parseFieldDescriptor (T k).2.2.1 = some (ty0 k)) (hnm : ∀ a, a < Nf → ∀ b, b < Nf → a ≠ b → (T a).2.1 ≠ (T b).2.1) (hown : s.vm.findClass own = some m.cls) (hK : va_K D vwCl tys s) (hW : gw D A ad N cell H) (hS0 : va_S A H0 H locs) {k i : Nat} (hi : i < N k) {fs : List Value} (he : cell k i = .inr (ci, fs)) (hc : vwCl[ci]? = some (C, T, Nf)) (f : Nat) (hf : f < Nf) (hlink : (Cond.fieldLink own index ref (T f).2.1 (T f).2.2.1).before args s = true) (hsame : ∀ x, s.fieldFound? (T f).1 (T f).2.1 (T f).2.2.1 = some x → s.fieldFound? ref (T f).2.1 (T f).2.2.1 = some x) (hfin : (T f).2.2.2 = true) (hin2 : meth.name = "<init>") (hdecl : (T f).1 = own) {ty : FieldType} {v : Value} (hd : parseFieldDescriptor (T f).2.2.1 = some ty) (hn : narrow ty v = v) (hfit : fits ty v = true) (hl : f < fs.length) (hdg : decode cc pc = .ok (.putfield index, 3))
    {cell' : Nat → Nat → va_E} (hc1 : cell' k i = .inr (ci, fs.set f v)) (hc2 : ∀ k' i' : Nat, i' < N k' → ¬ (k' = k ∧ i' = i) → cell' k' i' = cell k' i')
    (kk : ∀ (H1 : Heap) (locs1 : List Loc), gw D A ad N cell' H1 → va_S A H0 H1 locs1 → W p l e R s m args below meth c H1 locs1 cells slots Q (F0 m (pc + 3) ls rest)) : W p l e R s m args below meth c H locs cells slots Q (F0 m pc ls (v :: .ref (ad k i) :: rest)) := by
  have hap := va_apart (own := own) hts hin ty0 hty hnm hK hc
  have hat := hW.at hi
  rw [he] at hat
  obtain ⟨r, h1, cell0, q1, q2, q3, q4⟩ := hat
  have hr : r = (C, T, Nf) := Option.some.inj (h1.symm.trans hc)
  subst hr
  obtain ⟨hS, hfc, kC, hkC, hkind⟩ := hK.1 ci _ hc
  obtain ⟨cf, kf, fi, fd, hfi, hsl⟩ := hS f hf
  have hlay := hts _ (hin _ (u_in_lay hf))
  unfold u_lay at hlay
  rw [if_pos hfin] at hlay
  have hst := (u_facts hfc hkC (u_lays hts hin hf) hfi).1
  have hcf : m.cls = cf := by
    obtain ⟨_, _, c', _, _, _, -, -, hf', -, -, -, hown2, -⟩ := Cond.laysFinal_spec hlay
    have e1 : c' = cf := by have := hfi.symm.trans hf'; simp at this; exact this.1.symm
    rw [hdecl] at hown2
    rw [← e1]; exact Option.some.inj (hown.symm.trans hown2)
  have h6 := u_fits hfc hkC hkind (Or.inr hlay) hfi hd hn hfit
  refine W.putFinK hexec hb hown hlink (hsame _ hfi) hst hcf hin2 (by rw [q2]; exact h6) q1 q3 (by rw [hsl]; exact k2_hasslot (q4 f hf)) rfl rfl hdg fun H' e1 e2 e3 => ?_
  rw [hsl] at e1 ⊢
  refine kk H' _ (hW.upd hi ?_ e3 hc2) (hS0.put e2 e3 (hW.inA hi))
  rw [hc1]
  exact ⟨_, hc, t_OB.to (V := updV (vp_V fs) f v) ⟨_, e1, q2, q3, t_set q4 hap hf v⟩ (fun j _ => vp_updV_set hl v j)⟩
theorem gw_new (hexec : p.tables.exec = Jvm.exec) (hb : c.code = cc) {own C : String} {T : u_T} {Nf ci index : Nat} {Ts : List Cond} (hts : ∀ w ∈ Ts, w.before args s = true) (hin : ∀ w ∈ u_ws C T Nf, w ∈ Ts) (ty : Nat → FieldType) (hty : ∀ k, k < Nf → parseFieldDescriptor (T k).2.2.1 = some (ty k)) (hown : s.vm.findClass own = some m.cls) (hcl : (Cond.classLink own index C).before args s = true) (hinst : (Cond.instantiable C Nf).before args s = true) (hini : (Cond.initialized C).before args s = true)
    (hK : va_K D vwCl tys s) (hW : gw D A ad N cell H) (hS : va_S A H0 H locs) (hA : ∀ q, H0.size ≤ q → A q) (hc : vwCl[ci]? = some (C, T, Nf)) {fs : List Value} (hfs : ∀ j, j < Nf → defaultValue (ty j) = vp_V fs j) (hcells : cells + 1 ≤ R.cells) (hslots : slots + Nf ≤ R.slots) (hdg : decode cc pc = .ok (.new index, 3)) (k : Nat)
    (kk : ∀ (q : Nat) (H1 : Heap), gw D A (up2 ad k (N k) q) (va_up N k (N k + 1)) (up2 cell k (N k) (.inr (ci, fs))) H1 → va_S A H0 H1 locs →
      W p l e R s m args below meth c H1 locs (cells + 1) (slots + Nf) Q (F0 m (pc + 3) ls (.ref q :: rest))) : W p l e R s m args below meth c H locs cells slots Q (F0 m pc ls rest) := by
  have hKn := hK.1 ci _ hc
  refine W.newcK hexec hb hown hcl hinst hini rfl hdg hcells hslots hKn.2.1 rfl fun H1 kC hkC e1 z1 o1 => ?_
  refine kk H.size H1 (hW.push o1 (hA _ hS.1) ⟨_, hc, (u_born ty hts hin hKn hkC e1 hty).to hfs⟩) ⟨Nat.le_trans hS.1 (by omega), fun x h1 h2 => (o1 x (Nat.lt_of_lt_of_le h1 hS.1)).trans (hS.2.1 x h1 h2), hS.2.2⟩
theorem gw_putN (hexec : p.tables.exec = Jvm.exec) (hb : c.code = cc) {own ref C host : String} {T : u_T} {Nf ci index : Nat} {Ts : List Cond} (hts : ∀ w ∈ Ts, w.before args s = true) (hin : ∀ w ∈ u_ws C T Nf, w ∈ Ts) (ty0 : Nat → FieldType) (hty : ∀ k, k < Nf → parseFieldDescriptor (T k).2.2.1 = some (ty0 k)) (hnm : ∀ a, a < Nf → ∀ b, b < Nf → a ≠ b → (T a).2.1 ≠ (T b).2.1) (hown : s.vm.findClass own = some m.cls) (hK : va_K D vwCl tys s) (hW : gw D A ad N cell H) (hS0 : va_S A H0 H locs) {k i : Nat} (hi : i < N k) {fs : List Value} (he : cell k i = .inr (ci, fs)) (hc : vwCl[ci]? = some (C, T, Nf)) (f : Nat) (hf : f < Nf) (hlink : va_Nw (.fieldLinkNest own index ref (T f).2.1 (T f).2.2.1 host) s) (hsame : ∀ x, s.fieldFound? (T f).1 (T f).2.1 (T f).2.2.1 = some x → s.fieldFound? ref (T f).2.1 (T f).2.2.1 = some x) (hfin : (T f).2.2.2 = false) {ty : FieldType} {v : Value} (hd : parseFieldDescriptor (T f).2.2.1 = some ty) (hn : narrow ty v = v) (hfit : fits ty v = true) (hl : f < fs.length) (hdg : decode cc pc = .ok (.putfield index, 3))
    {cell' : Nat → Nat → va_E} (hc1 : cell' k i = .inr (ci, fs.set f v)) (hc2 : ∀ k' i' : Nat, i' < N k' → ¬ (k' = k ∧ i' = i) → cell' k' i' = cell k' i')
    (kk : ∀ (H1 : Heap) (locs1 : List Loc), gw D A ad N cell' H1 → va_S A H0 H1 locs1 → W p l e R s m args below meth c H1 locs1 cells slots Q (F0 m (pc + 3) ls rest)) : W p l e R s m args below meth c H locs cells slots Q (F0 m pc ls (v :: .ref (ad k i) :: rest)) := by
  have hap := va_apart (own := own) hts hin ty0 hty hnm hK hc
  have hat := hW.at hi
  rw [he] at hat
  obtain ⟨r, h1, cell0, q1, q2, q3, q4⟩ := hat
  have hr : r = (C, T, Nf) := Option.some.inj (h1.symm.trans hc)
  subst hr
  obtain ⟨hS, hfc, kC, hkC, hkind⟩ := hK.1 ci _ hc
  obtain ⟨cf, kf, fi, fd, hfi, hsl⟩ := hS f hf
  have hlay := hts _ (hin _ (u_in_lay hf))
  unfold u_lay at hlay
  rw [if_neg (by rw [hfin]; decide)] at hlay
  have hst := (u_facts hfc hkC (u_lays hts hin hf) hfi).1
  have h6 := u_store hfc hkC hkind hlay hfi hd hn hfit
  refine va_WputK hexec hb (f := fd) hown (va_Nw.use rfl hlink) (hsame _ hfi) hst (by rw [q2]; exact h6) q1 q3 (by rw [hsl]; exact k2_hasslot (q4 f hf)) rfl rfl hdg fun H' e1 e2 e3 => ?_
  rw [hsl] at e1 ⊢
  refine kk H' _ (hW.upd hi ?_ e3 hc2) (hS0.put e2 e3 (hW.inA hi))
  rw [hc1]
  exact ⟨_, hc, t_OB.to (V := updV (vp_V fs) f v) ⟨_, e1, q2, q3, t_set q4 hap hf v⟩ (fun j _ => vp_updV_set hl v j)⟩
theorem gw_len (hexec : p.tables.exec = Jvm.exec) (hb : c.code = cc) (hK : va_K D vwCl tys s) (hW : gw D A ad N cell H) {k i : Nat} (hi : i < N k) (t0 : Nat) {cA : ClassId} {x : vp_A} (ha : cell k i = .inl (cA, x)) {ty : FieldType} (ht : tys[t0]? = some (cA, ty)) {v : Int32} (hv : Int32.ofNat x.1 = v) (hdg : decode cc pc = .ok (.arraylength, 1))
    (kk : W p l e R s m args below meth c H locs cells slots Q (F0 m (pc + 1) ls (.int v :: rest))) : W p l e R s m args below meth c H locs cells slots Q (F0 m pc ls (.ref (ad k i) :: rest)) :=
  va_alen hexec hb hK (gw_one hW hi) 0 t0 (by rw [ha]; rfl) ht hv hdg kk
theorem gw_iald (hexec : p.tables.exec = Jvm.exec) (hb : c.code = cc) (hK : va_K D vwCl tys s) (hW : gw D A ad N cell H) {k i : Nat} (hi : i < N k) (t0 : Nat) {cA : ClassId} {n : Nat} {f : Nat → Int32} (ha : cell k i = .inl (cA, n, .inl f)) (ht : tys[t0]? = some (cA, .int)) {j : Int32} (hin : vp_in j n) (hdg : decode cc pc = .ok (.iaload, 1))
    (kk : W p l e R s m args below meth c H locs cells slots Q (F0 m (pc + 1) ls (.int (f j.toNatClampNeg) :: rest))) : W p l e R s m args below meth c H locs cells slots Q (F0 m pc ls (.int j :: .ref (ad k i) :: rest)) :=
  va_iald hexec hb hK (gw_one hW hi) 0 t0 (by rw [ha]; rfl) ht hin hdg kk
theorem gw_zald (hexec : p.tables.exec = Jvm.exec) (hb : c.code = cc) (hK : va_K D vwCl tys s) (hW : gw D A ad N cell H) {k i : Nat} (hi : i < N k) (t0 : Nat) {cA : ClassId} {n : Nat} {f : Nat → Int32} (ha : cell k i = .inl (cA, n, .inl f)) (ht : tys[t0]? = some (cA, .boolean)) {j : Int32} (hin : vp_in j n) (hdg : decode cc pc = .ok (.baload, 1))
    (kk : W p l e R s m args below meth c H locs cells slots Q (F0 m (pc + 1) ls (.int (f j.toNatClampNeg) :: rest))) : W p l e R s m args below meth c H locs cells slots Q (F0 m pc ls (.int j :: .ref (ad k i) :: rest)) :=
  va_zald hexec hb hK (gw_one hW hi) 0 t0 (by rw [ha]; rfl) ht hin hdg kk
theorem gw_lald (hexec : p.tables.exec = Jvm.exec) (hb : c.code = cc) (hK : va_K D vwCl tys s) (hW : gw D A ad N cell H) {k i : Nat} (hi : i < N k) (t0 : Nat) {cA : ClassId} {n : Nat} {f : Nat → Int64} (ha : cell k i = .inl (cA, n, .inr (.inl f))) (ht : tys[t0]? = some (cA, .long)) {j : Int32} (hin : vp_in j n) (hdg : decode cc pc = .ok (.laload, 1))
    (kk : W p l e R s m args below meth c H locs cells slots Q (F0 m (pc + 1) ls (.long (f j.toNatClampNeg) :: rest))) : W p l e R s m args below meth c H locs cells slots Q (F0 m pc ls (.int j :: .ref (ad k i) :: rest)) :=
  va_lald hexec hb hK (gw_one hW hi) 0 t0 (by rw [ha]; rfl) ht hin hdg kk
theorem gw_aald (hexec : p.tables.exec = Jvm.exec) (hb : c.code = cc) (hK : va_K D vwCl tys s) (hW : gw D A ad N cell H) {k i : Nat} (hi : i < N k) (t0 : Nat) {cA : ClassId} {C : String} {n : Nat} {f : Nat → Option Nat} (ha : cell k i = .inl (cA, n, .inr (.inr (.inr (.inr f))))) (ht : tys[t0]? = some (cA, .object C)) {j : Int32} (hin : vp_in j n) (hdg : decode cc pc = .ok (.aaload, 1))
    (kk : W p l e R s m args below meth c H locs cells slots Q (F0 m (pc + 1) ls (va_rf (f j.toNatClampNeg) :: rest))) : W p l e R s m args below meth c H locs cells slots Q (F0 m pc ls (.int j :: .ref (ad k i) :: rest)) :=
  va_aldq hexec hb hK (gw_one hW hi) 0 t0 (by rw [ha]; rfl) ht hin hdg kk
theorem gw_iast (hexec : p.tables.exec = Jvm.exec) (hb : c.code = cc) (hK : va_K D vwCl tys s) (hW : gw D A ad N cell H) (hS : va_S A H0 H locs) {k i : Nat} (hi : i < N k) (t0 : Nat) {cA : ClassId} {n : Nat} {f : Nat → Int32} (ha : cell k i = .inl (cA, n, .inl f)) (ht : tys[t0]? = some (cA, .int)) {j x : Int32} (hin : vp_in j n) (hdg : decode cc pc = .ok (.iastore, 1))
    {cell' : Nat → Nat → va_E} {f' : Nat → Int32} (hc1 : cell' k i = .inl (cA, n, .inl f')) (hf : ∀ q, f' q = if q = j.toNatClampNeg then x else f q) (hc2 : ∀ k' i' : Nat, i' < N k' → ¬ (k' = k ∧ i' = i) → cell' k' i' = cell k' i')
    (kk : ∀ (H1 : Heap) (locs1 : List Loc), gw D A ad N cell' H1 → va_S A H0 H1 locs1 → W p l e R s m args below meth c H1 locs1 cells slots Q (F0 m (pc + 1) ls rest)) : W p l e R s m args below meth c H locs cells slots Q (F0 m pc ls (.int x :: .int j :: .ref (ad k i) :: rest)) := by
  have hat := hW.at hi
  rw [ha] at hat
  refine W.iast hexec hb hat ((hK.2 t0 _ ht).1 n (fun j => .int (f j))) (fun q => by cases q) (by show ¬ (j < 0 ∨ (arrV _ _ _).slots.size ≤ _); rw [arrV_size]; exact hin) rfl rfl hdg fun H1 e z oq => ?_
  refine kk H1 _ (hW.upd hi ?_ oq hc2) (hS.put z oq (hW.inA hi))
  rw [hc1]
  show H1[ad k i]? = some (vp_cell _ _)
  rw [e]
  rw [vp_cell_i, vp_cell_i, arrV_store]
  congr 2
  funext q
  by_cases hq : q = j.toNatClampNeg
  · subst hq
    simp [updV, hf]
  · simp [updV, hf, hq]
theorem gw_zast (hexec : p.tables.exec = Jvm.exec) (hb : c.code = cc) (hK : va_K D vwCl tys s) (hW : gw D A ad N cell H) (hS : va_S A H0 H locs) {k i : Nat} (hi : i < N k) (t0 : Nat) {cA : ClassId} {n : Nat} {f : Nat → Int32} (ha : cell k i = .inl (cA, n, .inl f)) (ht : tys[t0]? = some (cA, .boolean)) {j x : Int32} (hin : vp_in j n) (hdg : decode cc pc = .ok (.bastore, 1)) (hx : vp_nar .boolean x = x)
    {cell' : Nat → Nat → va_E} {f' : Nat → Int32} (hc1 : cell' k i = .inl (cA, n, .inl f')) (hf : ∀ q, f' q = if q = j.toNatClampNeg then x else f q) (hc2 : ∀ k' i' : Nat, i' < N k' → ¬ (k' = k ∧ i' = i) → cell' k' i' = cell k' i')
    (kk : ∀ (H1 : Heap) (locs1 : List Loc), gw D A ad N cell' H1 → va_S A H0 H1 locs1 → W p l e R s m args below meth c H1 locs1 cells slots Q (F0 m (pc + 1) ls rest)) : W p l e R s m args below meth c H locs cells slots Q (F0 m pc ls (.int x :: .int j :: .ref (ad k i) :: rest)) := by
  have hat := hW.at hi
  rw [ha] at hat
  refine W.zast hexec hb hat ((hK.2 t0 _ ht).1 n (fun j => .int (f j))) (fun q => by cases q) (by show ¬ (j < 0 ∨ (arrV _ _ _).slots.size ≤ _); rw [arrV_size]; exact hin) rfl rfl hdg fun H1 e z oq => ?_
  refine kk H1 _ (hW.upd hi ?_ oq hc2) (hS.put z oq (hW.inA hi))
  rw [hc1]
  show H1[ad k i]? = some (vp_cell _ _)
  rw [e]
  rw [vp_cell_i, vp_cell_i, arrV_store]
  congr 2
  funext q
  by_cases hq : q = j.toNatClampNeg
  · subst hq
    have h2 : narrow .boolean (.int x) = .int x := by
      have h3 := hx
      unfold vp_nar at h3
      cases h4 : narrow .boolean (.int x) <;> simp_all [narrow]
    simp [updV, hf, h2]
  · simp [updV, hf, hq]
theorem gw_last (hexec : p.tables.exec = Jvm.exec) (hb : c.code = cc) (hK : va_K D vwCl tys s) (hW : gw D A ad N cell H) (hS : va_S A H0 H locs) {k i : Nat} (hi : i < N k) (t0 : Nat) {cA : ClassId} {n : Nat} {f : Nat → Int64} (ha : cell k i = .inl (cA, n, .inr (.inl f))) (ht : tys[t0]? = some (cA, .long)) {j : Int32} {x : Int64} (hin : vp_in j n) (hdg : decode cc pc = .ok (.lastore, 1))
    {cell' : Nat → Nat → va_E} {f' : Nat → Int64} (hc1 : cell' k i = .inl (cA, n, .inr (.inl f'))) (hf : ∀ q, f' q = if q = j.toNatClampNeg then x else f q) (hc2 : ∀ k' i' : Nat, i' < N k' → ¬ (k' = k ∧ i' = i) → cell' k' i' = cell k' i')
    (kk : ∀ (H1 : Heap) (locs1 : List Loc), gw D A ad N cell' H1 → va_S A H0 H1 locs1 → W p l e R s m args below meth c H1 locs1 cells slots Q (F0 m (pc + 1) ls rest)) : W p l e R s m args below meth c H locs cells slots Q (F0 m pc ls (.long x :: .int j :: .ref (ad k i) :: rest)) := by
  have hat := hW.at hi
  rw [ha] at hat
  refine W.last hexec hb hat ((hK.2 t0 _ ht).1 n (fun j => .long (f j))) (fun q => by cases q) (by show ¬ (j < 0 ∨ (arrV _ _ _).slots.size ≤ _); rw [arrV_size]; exact hin) rfl rfl hdg fun H1 e z oq => ?_
  refine kk H1 _ (hW.upd hi ?_ oq hc2) (hS.put z oq (hW.inA hi))
  rw [hc1]
  show H1[ad k i]? = some (vp_cell _ _)
  rw [e]
  rw [vp_cell_l, vp_cell_l, arrV_store]
  congr 2
  funext q
  by_cases hq : q = j.toNatClampNeg
  · subst hq
    simp [updV, hf]
  · simp [updV, hf, hq]
/-- a reference to the thing kv, iv (of the class number ci) into an array of that class -/
theorem gw_aast (hexec : p.tables.exec = Jvm.exec) (hb : c.code = cc) (hK : va_K D vwCl tys s) (hW : gw D A ad N cell H) (hS : va_S A H0 H locs) {k i kv iv : Nat} (hi : i < N k) (hiv : iv < N kv) (t0 ci : Nat) {cA : ClassId} {r : vw_C} {vs : List Value} {n : Nat} {f : Nat → Option Nat} (ha : cell k i = .inl (cA, n, .inr (.inr (.inr (.inr f))))) (hv : cell kv iv = .inr (ci, vs)) (hc : vwCl[ci]? = some r) (ht : tys[t0]? = some (cA, .object r.1)) {j : Int32} (hin : vp_in j n) (hdg : decode cc pc = .ok (.aastore, 1))
    {cell' : Nat → Nat → va_E} {f' : Nat → Option Nat} (hc1 : cell' k i = .inl (cA, n, .inr (.inr (.inr (.inr f'))))) (hf : ∀ q, f' q = if q = j.toNatClampNeg then some (ad kv iv) else f q) (hc2 : ∀ k' i' : Nat, i' < N k' → ¬ (k' = k ∧ i' = i) → cell' k' i' = cell k' i')
    (kk : ∀ (H1 : Heap) (locs1 : List Loc), gw D A ad N cell' H1 → va_S A H0 H1 locs1 → W p l e R s m args below meth c H1 locs1 cells slots Q (F0 m (pc + 1) ls rest)) : W p l e R s m args below meth c H locs cells slots Q (F0 m pc ls (.ref (ad kv iv) :: .int j :: .ref (ad k i) :: rest)) := by
  have hat := hW.at hi
  rw [ha] at hat
  have hlt : j.toNatClampNeg < n := Nat.not_le.mp fun q => hin (Or.inr q)
  have h0 : ¬ j < 0 := fun q => hin (Or.inl q)
  have hav := hW.at hiv
  rw [hv] at hav
  obtain ⟨r', hr', cellV, g1, g2, g3, -⟩ := hav
  have hcls := (hK.1 ci r hc).2
  obtain ⟨kA, comp, k1, k2, k3, -⟩ := (hK.2 t0 _ ht).2
  have hcomp : comp = D.1 ci := Option.some.inj (k3.symm.trans hcls.1)
  subst hcomp
  obtain ⟨kC, hkC, -⟩ := hcls.2
  refine W.aast hexec hb hat (fun q h => by cases h) (fun h => by cases h) k1 k2 rfl hkC ⟨h0, by show _ < (arrV _ _ _).slots.size; rw [arrV_size]; exact hlt⟩ g1 (fun q h => by rw [g3] at h; cases h) (by rw [g2]; exact hkC) (by rw [g2]; exact va_assign hcls) rfl rfl hdg fun H1 e z oq => ?_
  refine kk H1 _ (hW.upd hi ?_ oq hc2) (hS.put z oq (hW.inA hi))
  rw [hc1]
  show H1[ad k i]? = some (vp_cell _ _)
  rw [e]
  rw [vp_cell_q, vp_cell_q, arrV_store]
  congr 2
  funext q
  by_cases hq : q = j.toNatClampNeg
  · subst hq
    simp [updV, hf, va_rf]
  · simp [updV, hf, hq]
end GR
