def nestF : List (String × Nat × String × String × String × String) := [("SharedRegisters", 166, "SharedRegisters$State", "value", "J", "SharedRegisters"), ("SharedRegisters", 159, "SharedRegisters$Register", "promise", "I", "SharedRegisters"), ("SharedRegisters", 162, "SharedRegisters$Register", "ballot", "I", "SharedRegisters"), ("SharedRegisters", 163, "SharedRegisters$Register", "state", "LSharedRegisters$State;", "SharedRegisters"), ("SharedRegisters$Request", 15, "SharedRegisters$Asker", "number", "I", "SharedRegisters"), ("SharedRegisters$Request", 44, "SharedRegisters$Asker", "sets", "[I", "SharedRegisters"), ("SharedRegisters", 75, "SharedRegisters$Asker", "sets", "[I", "SharedRegisters"), ("SharedRegisters$Request", 37, "SharedRegisters$Asker", "enough", "[I", "SharedRegisters"), ("SharedRegisters", 96, "SharedRegisters$Asker", "enough", "[I", "SharedRegisters"), ("SharedRegisters$Request", 31, "SharedRegisters$Asker", "count", "I", "SharedRegisters"), ("SharedRegisters", 69, "SharedRegisters$Asker", "count", "I", "SharedRegisters"), ("SharedRegisters", 65, "SharedRegisters$Asker", "current", "LSharedRegisters$Request;", "SharedRegisters"), ("SharedRegisters$Row", 24, "SharedRegisters$Message", "sort", "I", "SharedRegisters"), ("SharedRegisters", 109, "SharedRegisters$Message", "sort", "I", "SharedRegisters"), ("SharedRegisters$Row", 27, "SharedRegisters$Message", "asker", "I", "SharedRegisters"), ("SharedRegisters", 118, "SharedRegisters$Message", "asker", "I", "SharedRegisters"), ("SharedRegisters$Row", 30, "SharedRegisters$Message", "keeper", "I", "SharedRegisters"), ("SharedRegisters", 121, "SharedRegisters$Message", "keeper", "I", "SharedRegisters"), ("SharedRegisters$Row", 33, "SharedRegisters$Message", "request", "I", "SharedRegisters"), ("SharedRegisters", 124, "SharedRegisters$Message", "request", "I", "SharedRegisters"), ("SharedRegisters$Row", 36, "SharedRegisters$Message", "key", "I", "SharedRegisters"), ("SharedRegisters", 127, "SharedRegisters$Message", "key", "I", "SharedRegisters"), ("SharedRegisters$Row", 39, "SharedRegisters$Message", "ballot", "I", "SharedRegisters"), ("SharedRegisters", 130, "SharedRegisters$Message", "ballot", "I", "SharedRegisters"), ("SharedRegisters$Row", 42, "SharedRegisters$Message", "state", "LSharedRegisters$State;", "SharedRegisters"), ("SharedRegisters", 133, "SharedRegisters$Message", "state", "LSharedRegisters$State;", "SharedRegisters"), ("SharedRegisters", 114, "SharedRegisters$Row", "messages", "[LSharedRegisters$Message;", "SharedRegisters"), ("SharedRegisters", 99, "SharedRegisters$Row", "size", "I", "SharedRegisters"), ("SharedRegisters", 83, "SharedRegisters$Request", "number", "I", "SharedRegisters"), ("SharedRegisters", 259, "SharedRegisters$Request", "asker", "I", "SharedRegisters"), ("SharedRegisters", 260, "SharedRegisters$Request", "key", "I", "SharedRegisters"), ("SharedRegisters", 190, "SharedRegisters$Request", "ballot", "I", "SharedRegisters"), ("SharedRegisters", 237, "SharedRegisters$Request", "enoughPromised", "I", "SharedRegisters"), ("SharedRegisters", 243, "SharedRegisters$Request", "acceptSet", "I", "SharedRegisters"), ("SharedRegisters", 246, "SharedRegisters$Request", "enoughTaken", "I", "SharedRegisters"), ("SharedRegisters", 170, "SharedRegisters$Request", "accepting", "Z", "SharedRegisters"), ("SharedRegisters", 189, "SharedRegisters$Request", "state", "LSharedRegisters$State;", "SharedRegisters"), ("SharedRegisters", 186, "SharedRegisters$Request", "failed", "Z", "SharedRegisters"), ("SharedRegisters", 183, "SharedRegisters$Request", "ending", "I", "SharedRegisters")]
def nestM : List (String × Nat × MethodName × String) := [("SharedRegisters", 9, ⟨"SharedRegisters$State", "<init>", "(ZIJ)V"⟩, "SharedRegisters"), ("SharedRegisters", 24, ⟨"SharedRegisters$Register", "<init>", "(LSharedRegisters$State;)V"⟩, "SharedRegisters"), ("SharedRegisters", 37, ⟨"SharedRegisters$Asker", "<init>", "(I)V"⟩, "SharedRegisters"), ("SharedRegisters", 48, ⟨"SharedRegisters$Row", "<init>", "(LSharedRegisters$State;)V"⟩, "SharedRegisters"), ("SharedRegisters$Row", 17, ⟨"SharedRegisters$Message", "<init>", "(LSharedRegisters$State;)V"⟩, "SharedRegisters"), ("SharedRegisters", 72, ⟨"SharedRegisters$Request", "<init>", "(ILSharedRegisters$Asker;IIJLSharedRegisters$State;)V"⟩, "SharedRegisters"), ("SharedRegisters", 136, ⟨"SharedRegisters$Row", "send", "(IIIIIILSharedRegisters$State;)V"⟩, "SharedRegisters"), ("SharedRegisters", 105, ⟨"SharedRegisters$Row", "drawOut", "(I)LSharedRegisters$Message;"⟩, "SharedRegisters"), ("SharedRegisters", 216, ⟨"SharedRegisters$Register", "greaterBallot", "()I"⟩, "SharedRegisters"), ("SharedRegisters", 255, ⟨"SharedRegisters$Request", "hasAnswer", "(I)Z"⟩, "SharedRegisters"), ("SharedRegisters", 231, ⟨"SharedRegisters$Request", "hearState", "(ILSharedRegisters$State;)V"⟩, "SharedRegisters"), ("SharedRegisters", 234, ⟨"SharedRegisters$Request", "countAnswer", "(I)V"⟩, "SharedRegisters"), ("SharedRegisters", 174, ⟨"SharedRegisters$Request", "answers", "()I"⟩, "SharedRegisters"), ("SharedRegisters", 240, ⟨"SharedRegisters$Request", "beginAccepting", "()V"⟩, "SharedRegisters"), ("SharedRegisters$Request", 79, ⟨"SharedRegisters$State", "fails", "(IJ)Z"⟩, "SharedRegisters"), ("SharedRegisters$Request", 85, ⟨"SharedRegisters$State", "changed", "(IJ)LSharedRegisters$State;"⟩, "SharedRegisters"), ("SharedRegisters", 223, ⟨"SharedRegisters$Register", "accept", "(ILSharedRegisters$State;)V"⟩, "SharedRegisters"), ("SharedRegisters", 144, ⟨"SharedRegisters$Register", "catchUp", "(LSharedRegisters$Register;)Z"⟩, "SharedRegisters"), ("SharedRegisters", 148, ⟨"SharedRegisters$State", "versionOrNone", "()I"⟩, "SharedRegisters")]
def nestW : List Cond := nestF.map (fun q => .fieldLinkNest q.1 q.2.1 q.2.2.1 q.2.2.2.1 q.2.2.2.2.1 q.2.2.2.2.2) ++ nestM.map (fun q => .methodLinkNest q.1 q.2.1 q.2.2.1 q.2.2.2)
/-- what the tables say that every method needs: the classes, the array classes, the links between nest mates -/
def kK (D : va_G) (y : Nat → ClassId) (U : State) : Prop := va_K D vwCl (ctys y) U ∧ ∀ w ∈ nestW, va_Nw w U
section KK
variable {D : va_G} {y : Nat → ClassId} {s U : State}
theorem kK.warm (h : kK D y s) (hW : s.WarmedH U.vm) : kK D y U := by
  refine ⟨va_K.moved hW.alike h.1, fun w hw => ?_⟩
  have h1 := h.2 w hw
  rcases List.mem_append.mp hw with h2 | h2
  · obtain ⟨q, -, rfl⟩ := List.mem_map.mp h2
    exact va_Nw.warmF hW h1
  · obtain ⟨q, -, rfl⟩ := List.mem_map.mp h2
    exact va_Nw.warmM hW h1
theorem kK.call (h : kK D y U) (g : JFrame) (mk : MethodId) (a : Array Value) : kK D y (U.calling g mk a) := by
  refine ⟨va_K.moved (u := U) (U := U.calling g mk a) (Vm.Alike.refl U.vm) h.1, fun w hw => ?_⟩
  have h1 := h.2 w hw
  rcases List.mem_append.mp hw with h2 | h2
  · obtain ⟨q, -, rfl⟩ := List.mem_map.mp h2
    exact va_Nw.same rfl (u := U) (U := U.calling g mk a) rfl h1
  · obtain ⟨q, -, rfl⟩ := List.mem_map.mp h2
    exact va_Nw.same rfl (u := U) (U := U.calling g mk a) rfl h1
end KK
def cF (z : CS) (sz : Nat) : Nat → Prop := gA (cA z) (cN z) sz
def cPre (D : va_G) (y : Nat → ClassId) (z : CS) (sz : Nat) (U : State) : Prop := U.heap.size = sz ∧ cw D y (fun _ => True) z U.heap ∧ kK D y U
def cQ1 (D : va_G) (y : Nat → ClassId) (z : CS) (sz : Nat) (post : Value → CS → Prop) : Array Value → State → Outcome → State → Prop := fun _ st oc t => (∃ (v : Value) (u : CS), oc = .returned (some v) ∧ post v u ∧ cw D y (cF z sz) u t.heap) ∧ va_F (cF z sz) st t
def cQ0 (D : va_G) (y : Nat → ClassId) (z : CS) (sz : Nat) (post : CS → Prop) : Array Value → State → Outcome → State → Prop := fun _ st oc t => (∃ u : CS, oc = .returned none ∧ post u ∧ cw D y (cF z sz) u t.heap) ∧ va_F (cF z sz) st t
section CW
variable {D : va_G} {y : Nat → ClassId} {A B : Nat → Prop} {z u : CS} {H H0 : Heap} {locs : List Loc} {s : State}
theorem cw.all (h : cw D y A z H) : cw D y (fun _ => True) z H := gw.all h
theorem cw.self {sz : Nat} (h : cw D y A z H) : cw D y (cF z sz) z H := gw.self h
theorem cw.weaken (h : cw D y A z H) (hAB : ∀ q, A q → B q) : cw D y B z H := gw.weaken h hAB
theorem cw.free (h : cw D y A z H) (hS : va_S A H0 H locs) (hA : ∀ q, H0.size ≤ q → A q) : ∀ q, cF z H.size q → A q := gw.free h hS hA
theorem cBlind (As : List Value) (sz : Nat) : FrameBlind (va_Pc As (cPre D y z sz)) := fun a U g mk h => ⟨h.1, h.2.1, h.2.2.1, h.2.2.2.call g mk a⟩
theorem cPreS (hW : cw D y A z H) (hK : kK D y s) (As : List Value) : PreS s H (va_Pc As (cPre D y z H.size)) As := ⟨cBlind As H.size, fun U hU hw => ⟨rfl, by rw [hU], by rw [hU]; exact hW.all, hK.warm hw⟩⟩
theorem cPreV (hW : cw D y A z H) (hK : kK D y s) {k i : Nat} (hi : i < cN z k) {fs : List Value} {q : vw_C} (he : cC y z k i = .inr (k, fs)) (hc : vwCl[k]? = some q) (As : List Value) : PreV s H q.1 (cA z k i) (va_Pc (.ref (cA z k i) :: As) (cPre D y z H.size)) As :=
  ⟨cBlind _ H.size, va_recv hK.1 (gw_one hW hi) (q0 := 0) hc (by rw [he]; rfl), fun U hU hw => ⟨rfl, by rw [hU], by rw [hU]; exact hW.all, hK.warm hw⟩⟩
theorem cq1 {post : Value → CS → Prop} {v : Value} {args : Array Value} (hp : post v u) (hW : cw D y (cF z s.heap.size) u H) (hS : va_S (cF z s.heap.size) s.heap H locs) : ∀ t : State, t.heap = H → s.WarmedH t.vm → cQ1 D y z s.heap.size post args s (.returned (some v)) t := fun t ht _ => ⟨⟨v, u, rfl, hp, by rw [ht]; exact hW⟩, hS.F ht⟩
theorem cq0 {post : CS → Prop} {args : Array Value} (hp : post u) (hW : cw D y (cF z s.heap.size) u H) (hS : va_S (cF z s.heap.size) s.heap H locs) : ∀ t : State, t.heap = H → s.WarmedH t.vm → cQ0 D y z s.heap.size post args s (.returned none) t := fun t ht _ => ⟨⟨u, rfl, hp, by rw [ht]; exact hW⟩, hS.F ht⟩
end CW
section CC
variable {p : Program} {l : Launch} {e : Env} {R : Room} {s : State} {m : MethodId} {args : Array Value} {below : List Frame} {meth : Method} {c : Code} {H : Heap} {locs : List Loc} {cells slots : Nat} {Q : State → Prop}
variable {pc : Nat} {ls : Array Slot} {rest st0 : List Value} {a : Array Value} {D : va_G} {A : Nat → Prop} {y : Nat → ClassId} {z : CS} {H0 : Heap} {mc ms : Nat}
theorem cc1 {post : Value → CS → Prop} (hr : va_Run p l e R s m args below meth c H locs cells slots mc ms (F0 m pc ls st0) rest (cQ1 D y z H.size post a) (cF z H.size)) (hW : cw D y A z H) (hS : va_S A H0 H locs) (hA : ∀ q, H0.size ≤ q → A q)
    (kk : ∀ (v : Value) (u : CS) (H1 : Heap) (locs1 : List Loc), post v u → cw D y A u H1 → va_S A H0 H1 locs1 → W p l e R s m args below meth c H1 locs1 (cells + mc) (slots + ms) Q (F0 m (pc + 3) ls (v :: rest))) : W p l e R s m args below meth c H locs cells slots Q (F0 m pc ls st0) := by
  intro T hT X
  obtain ⟨v0, st₀, t, T', L, h0, X', hL, e1, e2, ⟨⟨v, u, hv, hp, hb⟩, hz, hk⟩, st⟩ := hr T hT X
  cases hv
  rw [h0] at hz hk
  have hF := hW.free hS hA
  obtain ⟨t2, a1, b1⟩ := kk v u T'.heap (locs ++ L) hp (by rw [e1]; exact hb.weaken hF)
    ⟨Nat.le_trans hS.1 (by rw [e1]; exact hz), fun q h1 h2 => by rw [e1, hk q (Nat.lt_of_lt_of_le h1 hS.1) (fun z9 => h2 (hF q z9))]; exact hS.2.1 q h1 h2, fun q hq => by
      rcases List.mem_append.mp hq with h | h
      · exact hS.2.2 q h
      · exact hF _ (hL q h)⟩ T' rfl X'
  exact ⟨t2, st t2 a1, b1⟩
theorem cc0 {post : CS → Prop} (hr : va_Run p l e R s m args below meth c H locs cells slots mc ms (F0 m pc ls st0) rest (cQ0 D y z H.size post a) (cF z H.size)) (hW : cw D y A z H) (hS : va_S A H0 H locs) (hA : ∀ q, H0.size ≤ q → A q)
    (kk : ∀ (u : CS) (H1 : Heap) (locs1 : List Loc), post u → cw D y A u H1 → va_S A H0 H1 locs1 → W p l e R s m args below meth c H1 locs1 (cells + mc) (slots + ms) Q (F0 m (pc + 3) ls rest)) : W p l e R s m args below meth c H locs cells slots Q (F0 m pc ls st0) := by
  intro T hT X
  obtain ⟨v0, st₀, t, T', L, h0, X', hL, e1, e2, ⟨⟨u, hv, hp, hb⟩, hz, hk⟩, st⟩ := hr T hT X
  cases hv
  rw [h0] at hz hk
  have hF := hW.free hS hA
  obtain ⟨t2, a1, b1⟩ := kk u T'.heap (locs ++ L) hp (by rw [e1]; exact hb.weaken hF)
    ⟨Nat.le_trans hS.1 (by rw [e1]; exact hz), fun q h1 h2 => by rw [e1, hk q (Nat.lt_of_lt_of_le h1 hS.1) (fun z9 => h2 (hF q z9))]; exact hS.2.1 q h1 h2, fun q hq => by
      rcases List.mem_append.mp hq with h | h
      · exact hS.2.2 q h
      · exact hF _ (hL q h)⟩ T' rfl X'
  exact ⟨t2, st t2 a1, b1⟩
end CC
