/-- every reference of the state is to a thing that is there -/
def cV (z : CS) : Prop := 0 < cNs z ∧ (∀ i, i < 36 → cS z 0 i < cNs z) ∧ (∀ i, i < 301 → cS z 2 i < cNs z) ∧ (∀ r st, r < cNr z → cR z 3 r = some st → st < cNs z) ∧ (∀ a r, cR z 1 a = some r → r < cNr z) ∧ (∀ j r, cR z 6 j = some r → r < cNr z) ∧ ∀ j, j < 301 → cS z 3 j < 301
/-- one state more, blank -/
def addS (z : CS) (q : Nat) : CS := (up2 z.1 5 (cNs z) q, (cNr z, cNs z + 1), up2 (up2 z.2.2.1 26 (cNs z) 0) 27 (cNs z) 0, up2 z.2.2.2.1 1 (cNs z) 0, z.2.2.2.2)
theorem addS_cA (z : CS) (q : Nat) : cA (addS z q) = up2 (cA z) 5 (cNs z) q := rfl
theorem addS_cNr (z : CS) (q : Nat) : cNr (addS z q) = cNr z := rfl
theorem addS_cNs (z : CS) (q : Nat) : cNs (addS z q) = cNs z + 1 := rfl
theorem addS_cI (z : CS) (q : Nat) : cI (addS z q) = up2 (up2 (cI z) 26 (cNs z) 0) 27 (cNs z) 0 := rfl
theorem addS_cJ (z : CS) (q : Nat) : cJ (addS z q) = up2 (cJ z) 1 (cNs z) 0 := rfl
theorem addS_cR (z : CS) (q : Nat) : cR (addS z q) = cR z := rfl
theorem addS_cS (z : CS) (q : Nat) : cS (addS z q) = cS z := rfl
theorem addS_cE (z : CS) (q : Nat) : cE (addS z q) = cE z := rfl
theorem addS_cN (z : CS) (q : Nat) : cN (addS z q) = va_up (cN z) 5 (cNs z + 1) := by
  funext k
  unfold va_up
  by_cases hk : k = 5
  · subst hk; rfl
  · rw [if_neg hk]
    unfold cN
    split <;> first | rfl | omega
theorem addS_ad {z : CS} {q k i : Nat} (h : ¬ (k = 5 ∧ i = cNs z)) : cA (addS z q) k i = cA z k i := up2_n h
theorem addS_cC {y : Nat → ClassId} {z : CS} {q k i : Nat} (hV : cV z) (hi : i < cN z k) : cC y (addS z q) k i = cC y z k i := by
  obtain ⟨v0, v1, v2, v3, v4, v5, v6⟩ := hV
  have nA : ∀ k' i', k' ≠ 5 → cA (addS z q) k' i' = cA z k' i' := fun k' i' h => addS_ad (fun e => h e.1)
  have nB : ∀ st, st < cNs z → cA (addS z q) 5 st = cA z 5 st := fun st h => addS_ad (fun e => by omega)
  have nM : ∀ (o : Option Nat), o.map (cA (addS z q) 3) = o.map (cA z 3) := fun o => by cases o <;> simp [nA]
  unfold cC
  split <;> try simp only [addS_cI, addS_cJ, addS_cR, addS_cS, addS_cE]
  · simp [up2, nA, nM]
  · have h1 : i < 301 := hi
    simp [up2, nB _ (v2 i h1)]
  · have h1 : i < 36 := hi
    simp [up2, nB _ (v1 i h1)]
  · have h1 : i < cNr z := hi
    cases hr : cR z 3 i with
    | none => simp [up2]
    | some st => simp [up2, nB _ (v3 i st h1 hr)]
  · simp [up2, nA]
  · have h1 : i < cNs z := hi
    have h2 : i ≠ cNs z := by omega
    simp [up2, h2]
  · simp [up2, nA, nB _ v0]
  · rw [show up2 (up2 (cI z) 26 (cNs z) 0) 27 (cNs z) 0 29 = cI z 29 from by funext j; simp [up2]]
  · simp [nA]
  · simp [nA]
  · simp [nA]
  · simp [nM]
theorem cw_addS {D : va_G} {y : Nat → ClassId} {A : Nat → Prop} {z : CS} {q : Nat} {H : Heap} (hV : cV z) (h : gw D A (up2 (cA z) 5 (cN z 5) q) (va_up (cN z) 5 (cN z 5 + 1)) (up2 (cC y z) 5 (cN z 5) (.inr (5, [.int 0, .int 0, .long 0]))) H) : cw D y A (addS z q) H := by
  unfold cw
  rw [addS_cN, addS_cA]
  refine gw.eq h (fun k i hi => ?_)
  by_cases hk : k = 5 ∧ i = cNs z
  · obtain ⟨rfl, rfl⟩ := hk
    refine Eq.trans ?_ (up2_s (cC y z) 5 (cNs z) (.inr (5, [.int 0, .int 0, .long 0]))).symm
    simp [cC, addS_cI, addS_cJ, up2]
  · refine Eq.trans ?_ (up2_n (v := (.inr (5, [.int 0, .int 0, .long 0]) : va_E)) hk).symm
    refine addS_cC hV ?_
    by_cases h5 : k = 5
    · subst h5
      have hi : i < cNs z + 1 := hi
      have : i ≠ cNs z := fun e => hk ⟨rfl, e⟩
      show i < cNs z
      omega
    · rw [va_up_ne _ _ h5] at hi
      exact hi
section NS
variable {p : Program} {l : Launch} {e : Env} {R : Room} {s : State} {m : MethodId} {args : Array Value} {below : List Frame} {meth : Method} {c : Code} {H : Heap} {locs : List Loc} {cells slots : Nat} {Q : State → Prop}
variable {cc : ByteArray} {pc : Nat} {ls : Array Slot} {rest : List Value} {D : va_G} {A : Nat → Prop} {y : Nat → ClassId} {z : CS} {H0 : Heap} {own : String} {index i : Nat} {Ts : List Cond}
theorem n_State (hx : p.tables.exec = Jvm.exec) (hb : c.code = cc) (hts : ∀ w ∈ Ts, w.before args s = true) (hin : ∀ w ∈ wsX50, w ∈ Ts) (hown : s.vm.findClass own = some m.cls) (hcl : (Cond.classLink own index RX5).before args s = true) (hinst : (Cond.instantiable RX5 3).before args s = true) (hini : (Cond.initialized RX5).before args s = true) (hK : va_K D vwCl (ctys y) s) (hW : cw D y A z H) (hS : va_S A H0 H locs) (hA : ∀ q, H0.size ≤ q → A q) (hV : cV z) (hcells : cells + 1 ≤ R.cells) (hslots : slots + 3 ≤ R.slots) (hdg : decode cc pc = .ok (.new index, 3))
    (kk : ∀ (q : Nat) (H1 : Heap), cw D y A (addS z q) H1 → va_S A H0 H1 locs → W p l e R s m args below meth c H1 locs (cells + 1) (slots + 3) Q (F0 m (pc + 3) ls (.ref (cA (addS z q) 5 (cNs z)) :: rest))) : W p l e R s m args below meth c H locs cells slots Q (F0 m pc ls rest) := by
  refine gw_new (ci := 5) (C := RX5) (T := TX5) (Nf := 3) (fs := [.int 0, .int 0, .long 0]) hx hb hts hin tyX5 tyX5_ok hown hcl hinst hini hK hW hS hA rfl (fun j hj => by rcases (show j = 0 ∨ j = 1 ∨ j = 2 by omega) with rfl | rfl | rfl <;> rfl) hcells hslots hdg 5 (fun q H1 h1 h2 => ?_)
  have h3 := kk q H1 (cw_addS hV h1) h2
  rw [show cA (addS z q) 5 (cNs z) = q from up2_s _ _ _ _] at h3
  exact h3
end NS
theorem bo_n {v : Int32} (h : v = 0 ∨ v = 1) : narrow .boolean (.int v) = .int v := by rcases h with rfl | rfl <;> rfl
theorem bo_f {v : Int32} (h : v = 0 ∨ v = 1) : fits .boolean (.int v) = true := by rcases h with rfl | rfl <;> rfl
/-- one state more, with its fields -/
def newS (z : CS) (q : Nat) (pr ve : Int32) (va : Int64) : CS := sJ (sI (sI (addS z q) 26 (cNs z) pr) 27 (cNs z) ve) 1 (cNs z) va
