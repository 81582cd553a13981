/-! WHAT A THROW NEEDS beside the words: castable, declares; the texts; two statics of Throwable, apart from what may be written -/
def cI_ : String := "java/lang/IndexOutOfBoundsException"
def cG_ : String := "java/lang/IllegalArgumentException"
def thC : List (String × String) := [("java/lang/IndexOutOfBoundsException", "java/lang/IndexOutOfBoundsException"), ("java/lang/IllegalArgumentException", "java/lang/IllegalArgumentException")]
def thD : List MethodName := [Jvm.Bundle.initS "java/lang/RuntimeException", Jvm.Bundle.initS "java/lang/Exception", Jvm.Bundle.initS "java/lang/Throwable"]
def thW : List Cond := thC.map (fun q => .castable q.1 q.2) ++ thD.map (fun q => .declares q)
def strW : List (Nat × String) := [(154, "a message has no such part"), (164, "a keeper has no such part"), (177, "an asker has no such part"), (191, "a request has no such part"), (193, "there is none such"), (197, "the number is out of its range")]
def zS (A : Nat → Prop) (U : State) : Prop := (∀ w ∈ thW, va_Nw w U) ∧ (∀ q ∈ strW, ∃ sa, vk_R RX6 q.1 q.2 sa U) ∧ vx_Zq Jvm.Bundle.tN "UNASSIGNED_STACK" Jvm.Bundle.steD A U U.heap ∧ vx_Zq Jvm.Bundle.tN "SUPPRESSED_SENTINEL" Jvm.Bundle.listD A U U.heap
theorem zS.go {A B : Nat → Prop} {s U : State} {H : Heap} {locs : List Loc} (h : zS A s) (hS : va_S A s.heap H locs) (hU : U.heap = H) (hw : s.WarmedH U.vm) (hB : ∀ q, B q → A q) : zS B U := by
  obtain ⟨h1, h2, h3, h4⟩ := h
  refine ⟨fun w hm => ?_, fun q hq => ?_, ?_, ?_⟩
  · have h5 := h1 w hm
    rcases List.mem_append.mp hm with h6 | h6
    · obtain ⟨q, -, rfl⟩ := List.mem_map.mp h6
      exact va_Nw.warmC hw h5
    · obtain ⟨q, -, rfl⟩ := List.mem_map.mp h6
      exact va_Nw.warmD hw h5
  · obtain ⟨sa, h5⟩ := h2 q hq
    exact ⟨sa, vk_R.warm hw h5⟩
  · rw [hU]; exact vx_Zq.narrow (vx_Zq.moved hw.alike (vx_Zq.kept h3 (fun a h5 h6 => hS.2.1 a h5 h6))) hB
  · rw [hU]; exact vx_Zq.narrow (vx_Zq.moved hw.alike (vx_Zq.kept h4 (fun a h5 h6 => hS.2.1 a h5 h6))) hB
theorem zS.call {A : Nat → Prop} {U : State} (h : zS A U) (g : JFrame) (mk : MethodId) (a : Array Value) : zS A (U.calling g mk a) := by
  obtain ⟨h1, h2, h3, h4⟩ := h
  refine ⟨fun w hm => ?_, fun q hq => ?_, ?_, ?_⟩
  · have h5 := h1 w hm
    rcases List.mem_append.mp hm with h6 | h6
    · obtain ⟨q, -, rfl⟩ := List.mem_map.mp h6
      exact va_Nw.same rfl (u := U) (U := U.calling g mk a) rfl h5
    · obtain ⟨q, -, rfl⟩ := List.mem_map.mp h6
      exact va_Nw.same rfl (u := U) (U := U.calling g mk a) rfl h5
  · obtain ⟨sa, h5⟩ := h2 q hq
    exact ⟨sa, vk_R.same (u := U) (U := U.calling g mk a) rfl h5⟩
  · exact vx_Zq.moved (u := U) (U := U.calling g mk a) (Vm.Alike.refl U.vm) h3
  · exact vx_Zq.moved (u := U) (U := U.calling g mk a) (Vm.Alike.refl U.vm) h4
def cPreX (D : va_G) (y : Nat → ClassId) (z : CS) (sz : Nat) (U : State) : Prop := U.heap.size = sz ∧ cw D y (fun _ => True) z U.heap ∧ kK D y U ∧ zS (cF z sz) U
/-- thrown: of the class E, the state as it was -/
def cX (D : va_G) (y : Nat → ClassId) (z : CS) (sz : Nat) (px : String → Prop) : String → State → State → Prop := fun E st t => px E ∧ cw D y (cF z sz) z t.heap ∧ va_F (cF z sz) st t
section CWX
variable {D : va_G} {y : Nat → ClassId} {A B : Nat → Prop} {z u : CS} {H H0 : Heap} {locs : List Loc} {s : State}
theorem cBlindX (As : List Value) (sz : Nat) : FrameBlind (va_Pc As (cPreX D y z sz)) := fun a U g mk h => ⟨h.1, h.2.1, h.2.2.1, h.2.2.2.1.call g mk a, h.2.2.2.2.call g mk a⟩
theorem cPreSX (hW : cw D y A z H) (hK : kK D y s) (hZ : zS A s) (hS : va_S A s.heap H locs) (hA : ∀ q, s.heap.size ≤ q → A q) (As : List Value) : PreS s H (va_Pc As (cPreX D y z H.size)) As := ⟨cBlindX As H.size, fun U hU hw => ⟨rfl, by rw [hU], by rw [hU]; exact hW.all, hK.warm hw, hZ.go hS hU hw (hW.free hS hA)⟩⟩
theorem cPreVX (hW : cw D y A z H) (hK : kK D y s) (hZ : zS A s) (hS : va_S A s.heap H locs) (hA : ∀ q, s.heap.size ≤ q → A q) {k i : Nat} (hi : i < cN z k) {fs : List Value} {q : vw_C} (he : cC y z k i = .inr (k, fs)) (hc : vwCl[k]? = some q) (As : List Value) : PreV s H q.1 (cA z k i) (va_Pc (.ref (cA z k i) :: As) (cPreX D y z H.size)) As :=
  ⟨cBlindX _ H.size, va_recv hK.1 (gw_one hW hi) (q0 := 0) hc (by rw [he]; rfl), fun U hU hw => ⟨rfl, by rw [hU], by rw [hU]; exact hW.all, hK.warm hw, hZ.go hS hU hw (hW.free hS hA)⟩⟩
end CWX
section CCX
variable {p : Program} {l : Launch} {e : Env} {R : Room} {s : State} {m : MethodId} {args : Array Value} {below : List Frame} {meth : Method} {c : Code} {H : Heap} {locs : List Loc} {cells slots : Nat} {Q : State → Prop}
variable {pc : Nat} {ls : Array Slot} {rest st0 : List Value} {a : Array Value} {D : va_G} {A : Nat → Prop} {y : Nat → ClassId} {z : CS} {H0 : Heap} {mc ms : Nat}
theorem cx0 {post : CS → Prop} {px : String → Prop} (hr : vx_Run p l e R s m args below meth c H locs cells slots mc ms (F0 m pc ls st0) rest (cQ0 D y z H.size post a) (cX D y z H.size px) (cF z H.size)) (hW : cw D y A z H) (hS : va_S A H0 H locs) (hA : ∀ q, H0.size ≤ q → A q)
    (kx : ∀ (E : String) (ce : Cell) (q9 : Addr) (H1 : Heap) (locs1 : List Loc), px E → cw D y A z H1 → va_S A H0 H1 locs1 → H1[q9]? = some ce → ce.vm = .none → s.vm.findClass E = some ce.cls → vx_W p l e R s m args below meth c H1 locs1 (cells + mc) (slots + ms) Q (F0 m pc ls rest) q9)
    (kk : ∀ (u : CS) (H1 : Heap) (locs1 : List Loc), post u → cw D y A u H1 → va_S A H0 H1 locs1 → W p l e R s m args below meth c H1 locs1 (cells + mc) (slots + ms) Q (F0 m (pc + 3) ls rest)) : W p l e R s m args below meth c H locs cells slots Q (F0 m pc ls st0) := by
  intro T hT X
  have hF := hW.free hS hA
  rcases hr T hT X with ⟨v0, st₀, t, T', L, h0, X', hL, e1, e2, ⟨⟨u, hv, hp, hb⟩, hz⟩, st⟩ | ⟨q, st₀, t, T', L, E, ce, h0, X', hL, e1, e2, ⟨hp, hb, hz⟩, hce, hcv, hcl, st⟩
  · cases hv
    obtain ⟨k1, k2, k3⟩ := vx_keep (A1 := cF z H.size) h0 e1 hS (fun q _ h => hF q h) hF hL hz
    obtain ⟨t2, a1, b1⟩ := kk u T'.heap (locs ++ L) hp (by rw [e1]; exact hb.weaken hF) k3 T' rfl X'
    exact ⟨t2, st t2 a1, b1⟩
  · obtain ⟨k1, k2, k3⟩ := vx_keep (A1 := cF z H.size) h0 e1 hS (fun q _ h => hF q h) hF hL hz
    obtain ⟨t2, a1, b1⟩ := kx E ce q T'.heap (locs ++ L) hp (by rw [e1]; exact hb.weaken hF) k3 (by rw [e1]; exact hce) hcv hcl T' rfl X'
    exact ⟨t2, st.trans a1, b1⟩
theorem cx1 {post : Value → CS → Prop} {px : String → Prop} (hr : vx_Run p l e R s m args below meth c H locs cells slots mc ms (F0 m pc ls st0) rest (cQ1 D y z H.size post a) (cX D y z H.size px) (cF z H.size)) (hW : cw D y A z H) (hS : va_S A H0 H locs) (hA : ∀ q, H0.size ≤ q → A q)
    (kx : ∀ (E : String) (ce : Cell) (q9 : Addr) (H1 : Heap) (locs1 : List Loc), px E → cw D y A z H1 → va_S A H0 H1 locs1 → H1[q9]? = some ce → ce.vm = .none → s.vm.findClass E = some ce.cls → vx_W p l e R s m args below meth c H1 locs1 (cells + mc) (slots + ms) Q (F0 m pc ls rest) q9)
    (kk : ∀ (v : Value) (u : CS) (H1 : Heap) (locs1 : List Loc), post v u → cw D y A u H1 → va_S A H0 H1 locs1 → W p l e R s m args below meth c H1 locs1 (cells + mc) (slots + ms) Q (F0 m (pc + 3) ls (v :: rest))) : W p l e R s m args below meth c H locs cells slots Q (F0 m pc ls st0) := by
  intro T hT X
  have hF := hW.free hS hA
  rcases hr T hT X with ⟨v0, st₀, t, T', L, h0, X', hL, e1, e2, ⟨⟨v, u, hv, hp, hb⟩, hz⟩, st⟩ | ⟨q, st₀, t, T', L, E, ce, h0, X', hL, e1, e2, ⟨hp, hb, hz⟩, hce, hcv, hcl, st⟩
  · cases hv
    obtain ⟨k1, k2, k3⟩ := vx_keep (A1 := cF z H.size) h0 e1 hS (fun q _ h => hF q h) hF hL hz
    obtain ⟨t2, a1, b1⟩ := kk v u T'.heap (locs ++ L) hp (by rw [e1]; exact hb.weaken hF) k3 T' rfl X'
    exact ⟨t2, st t2 a1, b1⟩
  · obtain ⟨k1, k2, k3⟩ := vx_keep (A1 := cF z H.size) h0 e1 hS (fun q _ h => hF q h) hF hL hz
    obtain ⟨t2, a1, b1⟩ := kx E ce q T'.heap (locs ++ L) hp (by rw [e1]; exact hb.weaken hF) k3 (by rw [e1]; exact hce) hcv hcl T' rfl X'
    exact ⟨t2, st.trans a1, b1⟩
/-- an exception that comes out of a callee goes on to the caller -/
theorem cxo {Qc : Array Value → State → Outcome → State → Prop} {px' : String → Prop} {E : String} {ce : Cell} {q9 : Addr} {mc' ms' : Nat} (hnt : ∀ x ∈ c.exceptionTable.toList, False) (hlocks : meth.locks = false) (hpx : px' E) (hW : cw D y (cF z s.heap.size) z H) (hS : va_S (cF z s.heap.size) s.heap H locs) (h1 : H[q9]? = some ce) (h2 : ce.vm = .none) (h3 : s.vm.findClass E = some ce.cls) (hc : cells ≤ mc') (hs : slots ≤ ms') :
    vx_W p l e R s m args below meth c H locs cells slots (vx_MQ below Qc (cX D y z s.heap.size px') args s mc' ms' (cF z s.heap.size)) (F0 m pc ls rest) q9 :=
  vx_out (fun x hx => (hnt x hx).elim) hlocks h1 h2 h3 (fun t ht _ => ⟨hpx, by rw [ht]; exact hW, hS.F ht⟩) hS.2.2 hc hs
end CCX
theorem thI_at {args : Array Value} {s : State} {A : Nat → Prop} (hZ : zS A s) (h : ∀ w ∈ (vx_atS RX6 156 "java/lang/IndexOutOfBoundsException" ["java/lang/RuntimeException", "java/lang/Exception"]).filter goodWord, w.before args s = true) : ∀ w ∈ vx_atS RX6 156 "java/lang/IndexOutOfBoundsException" ["java/lang/RuntimeException", "java/lang/Exception"], w.before args s = true :=
  vx_hat (B := thW) h (by decide +kernel) (fun w hw => by
    have h1 := hZ.1 w hw
    rcases List.mem_append.mp hw with h6 | h6
    · obtain ⟨q, -, rfl⟩ := List.mem_map.mp h6
      exact va_Nw.use rfl h1
    · obtain ⟨q, -, rfl⟩ := List.mem_map.mp h6
      exact va_Nw.use rfl h1)
theorem thG_at {args : Array Value} {s : State} {A : Nat → Prop} (hZ : zS A s) (h : ∀ w ∈ (vx_atS RX6 199 "java/lang/IllegalArgumentException" ["java/lang/RuntimeException", "java/lang/Exception"]).filter goodWord, w.before args s = true) : ∀ w ∈ vx_atS RX6 199 "java/lang/IllegalArgumentException" ["java/lang/RuntimeException", "java/lang/Exception"], w.before args s = true :=
  vx_hat (B := thW) h (by decide +kernel) (fun w hw => by
    have h1 := hZ.1 w hw
    rcases List.mem_append.mp hw with h6 | h6
    · obtain ⟨q, -, rfl⟩ := List.mem_map.mp h6
      exact va_Nw.use rfl h1
    · obtain ⟨q, -, rfl⟩ := List.mem_map.mp h6
      exact va_Nw.use rfl h1)
theorem thI_ot : ∀ w ∈ Cond.classLink RX6 152 "java/lang/IndexOutOfBoundsException" :: Cond.initialized "java/lang/IndexOutOfBoundsException" :: vx_atS RX6 156 "java/lang/IndexOutOfBoundsException" ["java/lang/RuntimeException", "java/lang/Exception"], vx_ot w = true := by decide +kernel
theorem thG_ot : ∀ w ∈ Cond.classLink RX6 195 "java/lang/IllegalArgumentException" :: Cond.initialized "java/lang/IllegalArgumentException" :: vx_atS RX6 199 "java/lang/IllegalArgumentException" ["java/lang/RuntimeException", "java/lang/Exception"], vx_ot w = true := by decide +kernel
