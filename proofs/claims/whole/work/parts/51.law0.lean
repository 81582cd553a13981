/-! THE LAW'S OWN METHODS: the class's world, the row out at qo -/
theorem zS.narrow {A B : Nat → Prop} {U : State} (h : zS A U) (hB : ∀ q, B q → A q) : zS B U := ⟨h.1, h.2.1, h.2.2.1.narrow hB, h.2.2.2.narrow hB⟩
theorem lh_ofWH {l : Launch} {y : MethodName} {ws ws' : List Cond} {rm : Room} {Pc : Array Value → State → Prop} {Qc : Array Value → State → Outcome → State → Prop} {mc ms : Nat} {free : Addr → Prop} {cc : ByteArray} {maxL : Nat} {ret : Option FieldType} {hh : List (Nat × Nat × Nat × Nat)}
    (hy : plainName y.cls = true) (hw : ws = Cond.codeWith y cc maxL ret hh :: ws')
    (body : ∀ p e s m args below meth c s₁, BodyLoose p l y (headSpec ws rm) cc maxL ret e s m args below meth c s₁ → c.maxLocals = maxL → Pc args s →
      W p l e (headSpec ws rm).room s m args below meth c s.heap [] 0 0 (MQ below Qc args s mc ms free) (entryFrame m args maxL)) : Met l y ws rm Pc Qc mc ms free := by
  refine MetFree.of_bodyS (code := cc) (maxLocals := maxL) (ret := ret) hy ?_ ?_
  · intro args s m h hn
    obtain ⟨m9, meth, c, hn9, h1, h2, h3, h4, -, h5, h6, -⟩ := Cond.codeWith_spec (atoms_spec (ws := ws) h _ (by rw [hw]; exact List.mem_cons_self))
    cases hn.symm.trans hn9
    exact ⟨meth, c, h1, h2, h3, h4, h5, h6⟩
  · intro p e s m args below meth c s₁ B hml hP _
    have hh0 : s₁.heap = s.heap := by rw [B.state]; rfl
    obtain ⟨t, a1, o, b1, b2, b3⟩ := body p e s m args below meth c s₁ B hml hP s₁ hh0 (Stand.of_body B)
    exact ⟨t, o, a1, b1, b2, b3⟩
def oE (y : Nat → ClassId) (f : Nat → Int64) : va_E := .inl (y 1, 1, .inr (.inl f))
def lF (z : CS) (qo sz : Nat) : Nat → Prop := fun q => cF z sz q ∨ q = qo
def lPre (D : va_G) (y : Nat → ClassId) (z : CS) (qo sz : Nat) (U : State) : Prop := U.heap.size = sz ∧ cw D y (fun _ => True) z U.heap ∧ (∃ f, va_at D vwCl (qo, oE y f) U.heap) ∧ ¬ cF z sz qo ∧ kK D y U ∧ zS (lF z qo sz) U ∧ va_Nc cG_ cI_ U
def lQ (D : va_G) (y : Nat → ClassId) (z : CS) (qo sz : Nat) (post : Int32 → CS → Int64 → Prop) : Array Value → State → Outcome → State → Prop := fun _ st oc t => (∃ (v : Int32) (u : CS) (f : Nat → Int64), oc = .returned (some (.int v)) ∧ post v u (f 0) ∧ cw D y (cF z sz) u t.heap ∧ va_at D vwCl (qo, oE y f) t.heap) ∧ va_F (lF z qo sz) st t
theorem lBlind {D : va_G} {y : Nat → ClassId} {z : CS} {qo : Nat} (As : List Value) (sz : Nat) : FrameBlind (va_Pc As (lPre D y z qo sz)) := fun a U g mk h => ⟨h.1, h.2.1, h.2.2.1, h.2.2.2.1, h.2.2.2.2.1, h.2.2.2.2.2.1.call g mk a, h.2.2.2.2.2.2.1.call g mk a, va_Nc.moved (u := U) (U := U.calling g mk a) (Vm.Alike.refl U.vm) h.2.2.2.2.2.2.2⟩
theorem lPreS {D : va_G} {y : Nat → ClassId} {A : Nat → Prop} {z : CS} {H : Heap} {locs : List Loc} {s : State} {qo : Nat} (hW : cw D y A z H) (hO : ∃ f, va_at D vwCl (qo, oE y f) H) (hq : ¬ cF z H.size qo) (hqA : A qo) (hK : kK D y s) (hZ : zS A s) (hN : va_Nc cG_ cI_ s) (hS : va_S A s.heap H locs) (hA : ∀ q, s.heap.size ≤ q → A q) (As : List Value) : PreS s H (va_Pc As (lPre D y z qo H.size)) As :=
  ⟨lBlind As H.size, fun U hU hw => ⟨rfl, by rw [hU], by rw [hU]; exact hW.all, by rw [hU]; exact hO, hq, hK.warm hw, hZ.go hS hU hw (fun q h => h.elim (hW.free hS hA q) (fun e => e ▸ hqA)), va_Nc.moved hw.alike hN⟩⟩
theorem lq {D : va_G} {y : Nat → ClassId} {z u : CS} {H : Heap} {locs : List Loc} {s : State} {qo : Nat} {post : Int32 → CS → Int64 → Prop} {v : Int32} {f : Nat → Int64} {args : Array Value} (hp : post v u (f 0)) (hW : cw D y (cF z s.heap.size) u H) (hO : va_at D vwCl (qo, oE y f) H) (hS : va_S (lF z qo s.heap.size) s.heap H locs) : ∀ t : State, t.heap = H → s.WarmedH t.vm → lQ D y z qo s.heap.size post args s (.returned (some (.int v))) t := fun t ht _ => ⟨⟨v, u, f, rfl, hp, by rw [ht]; exact hW, by rw [ht]; exact hO⟩, hS.F ht⟩
theorem lS {z : CS} {qo sz : Nat} {H0 H : Heap} {locs : List Loc} (hS : va_S (cF z sz) H0 H locs) : va_S (lF z qo sz) H0 H locs := ⟨hS.1, fun q h1 h2 => hS.2.1 q h1 (fun h => h2 (Or.inl h)), fun l h => Or.inl (hS.2.2 l h)⟩
section OUT
variable {p : Program} {l : Launch} {e : Env} {R : Room} {s : State} {m : MethodId} {args : Array Value} {below : List Frame} {meth : Method} {c : Code} {H : Heap} {locs : List Loc} {cells slots : Nat} {Q : State → Prop}
variable {cc : ByteArray} {pc : Nat} {ls : Array Slot} {rest : List Value} {D : va_G} {y : Nat → ClassId} {z u : CS} {H0 : Heap}
theorem out_st {sz qo : Nat} {f : Nat → Int64} {x : Int64} (hexec : p.tables.exec = Jvm.exec) (hb : c.code = cc) (hK : va_K D vwCl (ctys y) s) (hW : cw D y (cF z sz) u H) (hO : va_at D vwCl (qo, oE y f) H) (hq : ¬ cF z sz qo) (hS : va_S (cF z sz) H0 H locs) (hdg : decode cc pc = .ok (.lastore, 1))
    (kk : ∀ (H1 : Heap) (locs1 : List Loc), cw D y (cF z sz) u H1 → va_at D vwCl (qo, oE y (fun j => if j = 0 then x else f j)) H1 → va_S (lF z qo sz) H0 H1 locs1 → W p l e R s m args below meth c H1 locs1 cells slots Q (F0 m (pc + 1) ls rest)) : W p l e R s m args below meth c H locs cells slots Q (F0 m pc ls (.long x :: .int 0 :: .ref qo :: rest)) := by
  refine W.last hexec hb hO ((hK.2 1 _ rfl).1 1 (fun j => .long (f j))) (fun q => by cases q) (by show ¬ ((0 : Int32) < 0 ∨ (arrV _ _ _).slots.size ≤ _); rw [arrV_size]; show ¬ ((0 : Int32) < 0 ∨ 1 ≤ Int32.toNatClampNeg 0); decide) rfl rfl hdg fun H1 e z9 oq => ?_
  refine kk H1 _ (gw.kept hW (fun k i hi => oq _ (fun e9 => hq (by rw [← (show cA u k i = qo from e9)]; exact gw.inA hW hi)))) ?_ ((lS hS).put z9 oq (Or.inr rfl))
  show H1[qo]? = some (vp_cell _ _)
  rw [e]
  rw [vp_cell_l, vp_cell_l, arrV_store]
  congr 2
  funext q
  by_cases hq0 : q = 0
  · subst hq0; simp [updV]
  · have : q ≠ (0 : Int32).toNatClampNeg := hq0
    simp [updV, hq0]
end OUT
