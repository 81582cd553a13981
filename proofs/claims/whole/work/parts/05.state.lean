/-! THE CLASS'S STATE: addresses by kind and number; how many requests and states there are; ints, longs, references (may be null), numbers of things that are never null, elements of the small int arrays.
Kinds: 0 Asker 1 Message 2 Register 3 Request 4 Row 5 State 6 SharedRegisters 7 sets of an asker 8 enough of an asker 9 isDown 10 askers 11 messages 12 registers 13 requests -/
abbrev CS : Type := (Nat → Nat → Nat) × (Nat × Nat) × (Nat → Nat → Int32) × (Nat → Nat → Int64) × (Nat → Nat → Option Nat) × (Nat → Nat → Nat) × (Nat → Nat → Nat → Int32)
def cA (z : CS) : Nat → Nat → Nat := z.1
def cNr (z : CS) : Nat := z.2.1.1
def cNs (z : CS) : Nat := z.2.1.2
def cI (z : CS) : Nat → Nat → Int32 := z.2.2.1
def cJ (z : CS) : Nat → Nat → Int64 := z.2.2.2.1
def cR (z : CS) : Nat → Nat → Option Nat := z.2.2.2.2.1
def cS (z : CS) : Nat → Nat → Nat := z.2.2.2.2.2.1
def cE (z : CS) : Nat → Nat → Nat → Int32 := z.2.2.2.2.2.2
def sI (z : CS) (f i : Nat) (v : Int32) : CS := (z.1, z.2.1, up2 z.2.2.1 f i v, z.2.2.2)
def sJ (z : CS) (f i : Nat) (v : Int64) : CS := (z.1, z.2.1, z.2.2.1, up2 z.2.2.2.1 f i v, z.2.2.2.2)
def sR (z : CS) (f i : Nat) (v : Option Nat) : CS := (z.1, z.2.1, z.2.2.1, z.2.2.2.1, up2 z.2.2.2.2.1 f i v, z.2.2.2.2.2)
def sS (z : CS) (f i : Nat) (v : Nat) : CS := (z.1, z.2.1, z.2.2.1, z.2.2.2.1, z.2.2.2.2.1, up2 z.2.2.2.2.2.1 f i v, z.2.2.2.2.2.2)
def sE (z : CS) (f a j : Nat) (v : Int32) : CS := (z.1, z.2.1, z.2.2.1, z.2.2.2.1, z.2.2.2.2.1, z.2.2.2.2.2.1, fun f' a' j' => if f' = f ∧ a' = a ∧ j' = j then v else z.2.2.2.2.2.2 f' a' j')
def cN (z : CS) (k : Nat) : Nat := match k with
  | 0 => 4
  | 1 => 301
  | 2 => 36
  | 3 => cNr z
  | 4 => 1
  | 5 => cNs z
  | 6 => 1
  | 7 => 4
  | 8 => 4
  | 9 => 1
  | 10 => 1
  | 11 => 1
  | 12 => 1
  | 13 => 1
  | _ => 0
theorem sI_cA (z : CS) (f i : Nat) (v : Int32) : cA (sI z f i v) = cA z := rfl
theorem sI_cNr (z : CS) (f i : Nat) (v : Int32) : cNr (sI z f i v) = cNr z := rfl
theorem sI_cNs (z : CS) (f i : Nat) (v : Int32) : cNs (sI z f i v) = cNs z := rfl
theorem sI_cI (z : CS) (f i : Nat) (v : Int32) : cI (sI z f i v) = up2 (cI z) f i v := rfl
theorem sI_cJ (z : CS) (f i : Nat) (v : Int32) : cJ (sI z f i v) = cJ z := rfl
theorem sI_cR (z : CS) (f i : Nat) (v : Int32) : cR (sI z f i v) = cR z := rfl
theorem sI_cS (z : CS) (f i : Nat) (v : Int32) : cS (sI z f i v) = cS z := rfl
theorem sI_cE (z : CS) (f i : Nat) (v : Int32) : cE (sI z f i v) = cE z := rfl
theorem sI_cN (z : CS) (f i : Nat) (v : Int32) : cN (sI z f i v) = cN z := rfl
theorem sJ_cA (z : CS) (f i : Nat) (v : Int64) : cA (sJ z f i v) = cA z := rfl
theorem sJ_cNr (z : CS) (f i : Nat) (v : Int64) : cNr (sJ z f i v) = cNr z := rfl
theorem sJ_cNs (z : CS) (f i : Nat) (v : Int64) : cNs (sJ z f i v) = cNs z := rfl
theorem sJ_cI (z : CS) (f i : Nat) (v : Int64) : cI (sJ z f i v) = cI z := rfl
theorem sJ_cJ (z : CS) (f i : Nat) (v : Int64) : cJ (sJ z f i v) = up2 (cJ z) f i v := rfl
theorem sJ_cR (z : CS) (f i : Nat) (v : Int64) : cR (sJ z f i v) = cR z := rfl
theorem sJ_cS (z : CS) (f i : Nat) (v : Int64) : cS (sJ z f i v) = cS z := rfl
theorem sJ_cE (z : CS) (f i : Nat) (v : Int64) : cE (sJ z f i v) = cE z := rfl
theorem sJ_cN (z : CS) (f i : Nat) (v : Int64) : cN (sJ z f i v) = cN z := rfl
theorem sR_cA (z : CS) (f i : Nat) (v : Option Nat) : cA (sR z f i v) = cA z := rfl
theorem sR_cNr (z : CS) (f i : Nat) (v : Option Nat) : cNr (sR z f i v) = cNr z := rfl
theorem sR_cNs (z : CS) (f i : Nat) (v : Option Nat) : cNs (sR z f i v) = cNs z := rfl
theorem sR_cI (z : CS) (f i : Nat) (v : Option Nat) : cI (sR z f i v) = cI z := rfl
theorem sR_cJ (z : CS) (f i : Nat) (v : Option Nat) : cJ (sR z f i v) = cJ z := rfl
theorem sR_cR (z : CS) (f i : Nat) (v : Option Nat) : cR (sR z f i v) = up2 (cR z) f i v := rfl
theorem sR_cS (z : CS) (f i : Nat) (v : Option Nat) : cS (sR z f i v) = cS z := rfl
theorem sR_cE (z : CS) (f i : Nat) (v : Option Nat) : cE (sR z f i v) = cE z := rfl
theorem sR_cN (z : CS) (f i : Nat) (v : Option Nat) : cN (sR z f i v) = cN z := rfl
theorem sS_cA (z : CS) (f i : Nat) (v : Nat) : cA (sS z f i v) = cA z := rfl
theorem sS_cNr (z : CS) (f i : Nat) (v : Nat) : cNr (sS z f i v) = cNr z := rfl
theorem sS_cNs (z : CS) (f i : Nat) (v : Nat) : cNs (sS z f i v) = cNs z := rfl
theorem sS_cI (z : CS) (f i : Nat) (v : Nat) : cI (sS z f i v) = cI z := rfl
theorem sS_cJ (z : CS) (f i : Nat) (v : Nat) : cJ (sS z f i v) = cJ z := rfl
theorem sS_cR (z : CS) (f i : Nat) (v : Nat) : cR (sS z f i v) = cR z := rfl
theorem sS_cS (z : CS) (f i : Nat) (v : Nat) : cS (sS z f i v) = up2 (cS z) f i v := rfl
theorem sS_cE (z : CS) (f i : Nat) (v : Nat) : cE (sS z f i v) = cE z := rfl
theorem sS_cN (z : CS) (f i : Nat) (v : Nat) : cN (sS z f i v) = cN z := rfl
theorem sE_cA (z : CS) (f a j : Nat) (v : Int32) : cA (sE z f a j v) = cA z := rfl
theorem sE_cNr (z : CS) (f a j : Nat) (v : Int32) : cNr (sE z f a j v) = cNr z := rfl
theorem sE_cNs (z : CS) (f a j : Nat) (v : Int32) : cNs (sE z f a j v) = cNs z := rfl
theorem sE_cI (z : CS) (f a j : Nat) (v : Int32) : cI (sE z f a j v) = cI z := rfl
theorem sE_cJ (z : CS) (f a j : Nat) (v : Int32) : cJ (sE z f a j v) = cJ z := rfl
theorem sE_cR (z : CS) (f a j : Nat) (v : Int32) : cR (sE z f a j v) = cR z := rfl
theorem sE_cS (z : CS) (f a j : Nat) (v : Int32) : cS (sE z f a j v) = cS z := rfl
theorem sE_cE (z : CS) (f a j : Nat) (v : Int32) : cE (sE z f a j v) = fun f' a' j' => if f' = f ∧ a' = a ∧ j' = j then v else cE z f' a' j' := rfl
theorem sE_cN (z : CS) (f a j : Nat) (v : Int32) : cN (sE z f a j v) = cN z := rfl
/-- the classes of the arrays: 0 int, 1 long, 2 boolean, 3 Asker, 4 Message, 5 Register, 6 Request -/
abbrev ctys (y : Nat → ClassId) : List (ClassId × FieldType) := [(y 0, .int), (y 1, .long), (y 2, .boolean), (y 3, .object RX0), (y 4, .object RX1), (y 5, .object RX2), (y 6, .object RX3)]
def cC (y : Nat → ClassId) (z : CS) (k i : Nat) : va_E := match k with
  | 0 => .inr (0, [.int (cI z 2 i), .ref (cA z 7 i), .ref (cA z 8 i), .int (cI z 3 i), va_rf ((cR z 1 i).map (cA z 3))])
  | 1 => .inr (1, [.int (cI z 6 i), .int (cI z 7 i), .int (cI z 8 i), .int (cI z 9 i), .int (cI z 10 i), .int (cI z 11 i), .ref (cA z 5 (cS z 2 i))])
  | 2 => .inr (2, [.int (cI z 0 i), .int (cI z 1 i), .ref (cA z 5 (cS z 0 i))])
  | 3 => .inr (3, [.int (cI z 12 i), .int (cI z 13 i), .int (cI z 14 i), .int (cI z 15 i), .long (cJ z 0 i), .int (cI z 16 i), .int (cI z 17 i), .int (cI z 18 i), .int (cI z 19 i), .int (cI z 20 i), .int (cI z 21 i), .int (cI z 22 i), va_rf ((cR z 3 i).map (cA z 5)), .int (cI z 23 i), .int (cI z 24 i)])
  | 4 => .inr (4, [.ref (cA z 11 0), .int (cI z 25 i)])
  | 5 => .inr (5, [.int (cI z 26 i), .int (cI z 27 i), .long (cJ z 1 i)])
  | 6 => .inr (6, [.ref (cA z 5 0), .ref (cA z 12 0), .ref (cA z 9 0), .ref (cA z 10 0), .ref (cA z 13 0), .ref (cA z 4 0), .int (cI z 28 i)])
  | 7 => .inl (y 0, 2, .inl (cE z 0 i))
  | 8 => .inl (y 0, 2, .inl (cE z 1 i))
  | 9 => .inl (y 2, 9, .inl (cI z 29))
  | 10 => .inl (y 3, 4, .inr (.inr (.inr (.inr (fun j => some (cA z 0 j))))))
  | 11 => .inl (y 4, 301, .inr (.inr (.inr (.inr (fun j => some (cA z 1 (cS z 3 j)))))))
  | 12 => .inl (y 5, 36, .inr (.inr (.inr (.inr (fun j => some (cA z 2 j))))))
  | _ => .inl (y 6, 200, .inr (.inr (.inr (.inr (fun j => (cR z 6 j).map (cA z 3))))))
def cw (D : va_G) (y : Nat → ClassId) (A : Nat → Prop) (z : CS) (H : Heap) : Prop := gw D A (cA z) (cN z) (cC y z) H
theorem cp_Asker_count (y : Nat → ClassId) (z : CS) (i : Nat) (v : Int32) : cC y (sI z 3 i v) 0 i = .inr (0, List.set [.int (cI z 2 i), .ref (cA z 7 i), .ref (cA z 8 i), .int (cI z 3 i), va_rf ((cR z 1 i).map (cA z 3))] 3 (.int v)) := by
  simp [cC, sI_cI, sI_cA, sI_cJ, sI_cR, sI_cS, sJ_cI, sJ_cA, sJ_cJ, sJ_cR, sJ_cS, sR_cI, sR_cA, sR_cJ, sR_cR, sR_cS, sS_cI, sS_cA, sS_cJ, sS_cR, sS_cS, up2]
theorem co_Asker_count (y : Nat → ClassId) (z : CS) (i : Nat) (v : Int32) (k' i' : Nat) (h : ¬ (k' = 0 ∧ i' = i)) : cC y (sI z 3 i v) k' i' = cC y z k' i' := by
  unfold cC; split <;> simp_all [sI_cI, sI_cA, sI_cJ, sI_cR, sI_cS, sI_cE, sJ_cI, sJ_cA, sJ_cJ, sJ_cR, sJ_cS, sJ_cE, sR_cI, sR_cA, sR_cJ, sR_cR, sR_cS, sR_cE, sS_cI, sS_cA, sS_cJ, sS_cR, sS_cS, sS_cE, up2]; try rfl
theorem cp_Asker_current (y : Nat → ClassId) (z : CS) (i : Nat) (v : Option Nat) : cC y (sR z 1 i v) 0 i = .inr (0, List.set [.int (cI z 2 i), .ref (cA z 7 i), .ref (cA z 8 i), .int (cI z 3 i), va_rf ((cR z 1 i).map (cA z 3))] 4 (va_rf (v.map (cA z 3)))) := by
  simp [cC, sI_cI, sI_cA, sI_cJ, sI_cR, sI_cS, sJ_cI, sJ_cA, sJ_cJ, sJ_cR, sJ_cS, sR_cI, sR_cA, sR_cJ, sR_cR, sR_cS, sS_cI, sS_cA, sS_cJ, sS_cR, sS_cS, up2]
theorem co_Asker_current (y : Nat → ClassId) (z : CS) (i : Nat) (v : Option Nat) (k' i' : Nat) (h : ¬ (k' = 0 ∧ i' = i)) : cC y (sR z 1 i v) k' i' = cC y z k' i' := by
  unfold cC; split <;> simp_all [sI_cI, sI_cA, sI_cJ, sI_cR, sI_cS, sI_cE, sJ_cI, sJ_cA, sJ_cJ, sJ_cR, sJ_cS, sJ_cE, sR_cI, sR_cA, sR_cJ, sR_cR, sR_cS, sR_cE, sS_cI, sS_cA, sS_cJ, sS_cR, sS_cS, sS_cE, up2]; try rfl
theorem cp_Message_sort (y : Nat → ClassId) (z : CS) (i : Nat) (v : Int32) : cC y (sI z 6 i v) 1 i = .inr (1, List.set [.int (cI z 6 i), .int (cI z 7 i), .int (cI z 8 i), .int (cI z 9 i), .int (cI z 10 i), .int (cI z 11 i), .ref (cA z 5 (cS z 2 i))] 0 (.int v)) := by
  simp [cC, sI_cI, sI_cA, sI_cJ, sI_cR, sI_cS, sJ_cI, sJ_cA, sJ_cJ, sJ_cR, sJ_cS, sR_cI, sR_cA, sR_cJ, sR_cR, sR_cS, sS_cI, sS_cA, sS_cJ, sS_cR, sS_cS, up2]
theorem co_Message_sort (y : Nat → ClassId) (z : CS) (i : Nat) (v : Int32) (k' i' : Nat) (h : ¬ (k' = 1 ∧ i' = i)) : cC y (sI z 6 i v) k' i' = cC y z k' i' := by
  unfold cC; split <;> simp_all [sI_cI, sI_cA, sI_cJ, sI_cR, sI_cS, sI_cE, sJ_cI, sJ_cA, sJ_cJ, sJ_cR, sJ_cS, sJ_cE, sR_cI, sR_cA, sR_cJ, sR_cR, sR_cS, sR_cE, sS_cI, sS_cA, sS_cJ, sS_cR, sS_cS, sS_cE, up2]; try rfl
theorem cp_Message_asker (y : Nat → ClassId) (z : CS) (i : Nat) (v : Int32) : cC y (sI z 7 i v) 1 i = .inr (1, List.set [.int (cI z 6 i), .int (cI z 7 i), .int (cI z 8 i), .int (cI z 9 i), .int (cI z 10 i), .int (cI z 11 i), .ref (cA z 5 (cS z 2 i))] 1 (.int v)) := by
  simp [cC, sI_cI, sI_cA, sI_cJ, sI_cR, sI_cS, sJ_cI, sJ_cA, sJ_cJ, sJ_cR, sJ_cS, sR_cI, sR_cA, sR_cJ, sR_cR, sR_cS, sS_cI, sS_cA, sS_cJ, sS_cR, sS_cS, up2]
theorem co_Message_asker (y : Nat → ClassId) (z : CS) (i : Nat) (v : Int32) (k' i' : Nat) (h : ¬ (k' = 1 ∧ i' = i)) : cC y (sI z 7 i v) k' i' = cC y z k' i' := by
  unfold cC; split <;> simp_all [sI_cI, sI_cA, sI_cJ, sI_cR, sI_cS, sI_cE, sJ_cI, sJ_cA, sJ_cJ, sJ_cR, sJ_cS, sJ_cE, sR_cI, sR_cA, sR_cJ, sR_cR, sR_cS, sR_cE, sS_cI, sS_cA, sS_cJ, sS_cR, sS_cS, sS_cE, up2]; try rfl
theorem cp_Message_keeper (y : Nat → ClassId) (z : CS) (i : Nat) (v : Int32) : cC y (sI z 8 i v) 1 i = .inr (1, List.set [.int (cI z 6 i), .int (cI z 7 i), .int (cI z 8 i), .int (cI z 9 i), .int (cI z 10 i), .int (cI z 11 i), .ref (cA z 5 (cS z 2 i))] 2 (.int v)) := by
  simp [cC, sI_cI, sI_cA, sI_cJ, sI_cR, sI_cS, sJ_cI, sJ_cA, sJ_cJ, sJ_cR, sJ_cS, sR_cI, sR_cA, sR_cJ, sR_cR, sR_cS, sS_cI, sS_cA, sS_cJ, sS_cR, sS_cS, up2]
theorem co_Message_keeper (y : Nat → ClassId) (z : CS) (i : Nat) (v : Int32) (k' i' : Nat) (h : ¬ (k' = 1 ∧ i' = i)) : cC y (sI z 8 i v) k' i' = cC y z k' i' := by
  unfold cC; split <;> simp_all [sI_cI, sI_cA, sI_cJ, sI_cR, sI_cS, sI_cE, sJ_cI, sJ_cA, sJ_cJ, sJ_cR, sJ_cS, sJ_cE, sR_cI, sR_cA, sR_cJ, sR_cR, sR_cS, sR_cE, sS_cI, sS_cA, sS_cJ, sS_cR, sS_cS, sS_cE, up2]; try rfl
theorem cp_Message_request (y : Nat → ClassId) (z : CS) (i : Nat) (v : Int32) : cC y (sI z 9 i v) 1 i = .inr (1, List.set [.int (cI z 6 i), .int (cI z 7 i), .int (cI z 8 i), .int (cI z 9 i), .int (cI z 10 i), .int (cI z 11 i), .ref (cA z 5 (cS z 2 i))] 3 (.int v)) := by
  simp [cC, sI_cI, sI_cA, sI_cJ, sI_cR, sI_cS, sJ_cI, sJ_cA, sJ_cJ, sJ_cR, sJ_cS, sR_cI, sR_cA, sR_cJ, sR_cR, sR_cS, sS_cI, sS_cA, sS_cJ, sS_cR, sS_cS, up2]
theorem co_Message_request (y : Nat → ClassId) (z : CS) (i : Nat) (v : Int32) (k' i' : Nat) (h : ¬ (k' = 1 ∧ i' = i)) : cC y (sI z 9 i v) k' i' = cC y z k' i' := by
  unfold cC; split <;> simp_all [sI_cI, sI_cA, sI_cJ, sI_cR, sI_cS, sI_cE, sJ_cI, sJ_cA, sJ_cJ, sJ_cR, sJ_cS, sJ_cE, sR_cI, sR_cA, sR_cJ, sR_cR, sR_cS, sR_cE, sS_cI, sS_cA, sS_cJ, sS_cR, sS_cS, sS_cE, up2]; try rfl
theorem cp_Message_key (y : Nat → ClassId) (z : CS) (i : Nat) (v : Int32) : cC y (sI z 10 i v) 1 i = .inr (1, List.set [.int (cI z 6 i), .int (cI z 7 i), .int (cI z 8 i), .int (cI z 9 i), .int (cI z 10 i), .int (cI z 11 i), .ref (cA z 5 (cS z 2 i))] 4 (.int v)) := by
  simp [cC, sI_cI, sI_cA, sI_cJ, sI_cR, sI_cS, sJ_cI, sJ_cA, sJ_cJ, sJ_cR, sJ_cS, sR_cI, sR_cA, sR_cJ, sR_cR, sR_cS, sS_cI, sS_cA, sS_cJ, sS_cR, sS_cS, up2]
theorem co_Message_key (y : Nat → ClassId) (z : CS) (i : Nat) (v : Int32) (k' i' : Nat) (h : ¬ (k' = 1 ∧ i' = i)) : cC y (sI z 10 i v) k' i' = cC y z k' i' := by
  unfold cC; split <;> simp_all [sI_cI, sI_cA, sI_cJ, sI_cR, sI_cS, sI_cE, sJ_cI, sJ_cA, sJ_cJ, sJ_cR, sJ_cS, sJ_cE, sR_cI, sR_cA, sR_cJ, sR_cR, sR_cS, sR_cE, sS_cI, sS_cA, sS_cJ, sS_cR, sS_cS, sS_cE, up2]; try rfl
theorem cp_Message_ballot (y : Nat → ClassId) (z : CS) (i : Nat) (v : Int32) : cC y (sI z 11 i v) 1 i = .inr (1, List.set [.int (cI z 6 i), .int (cI z 7 i), .int (cI z 8 i), .int (cI z 9 i), .int (cI z 10 i), .int (cI z 11 i), .ref (cA z 5 (cS z 2 i))] 5 (.int v)) := by
  simp [cC, sI_cI, sI_cA, sI_cJ, sI_cR, sI_cS, sJ_cI, sJ_cA, sJ_cJ, sJ_cR, sJ_cS, sR_cI, sR_cA, sR_cJ, sR_cR, sR_cS, sS_cI, sS_cA, sS_cJ, sS_cR, sS_cS, up2]
theorem co_Message_ballot (y : Nat → ClassId) (z : CS) (i : Nat) (v : Int32) (k' i' : Nat) (h : ¬ (k' = 1 ∧ i' = i)) : cC y (sI z 11 i v) k' i' = cC y z k' i' := by
  unfold cC; split <;> simp_all [sI_cI, sI_cA, sI_cJ, sI_cR, sI_cS, sI_cE, sJ_cI, sJ_cA, sJ_cJ, sJ_cR, sJ_cS, sJ_cE, sR_cI, sR_cA, sR_cJ, sR_cR, sR_cS, sR_cE, sS_cI, sS_cA, sS_cJ, sS_cR, sS_cS, sS_cE, up2]; try rfl
theorem cp_Message_state (y : Nat → ClassId) (z : CS) (i : Nat) (v : Nat) : cC y (sS z 2 i v) 1 i = .inr (1, List.set [.int (cI z 6 i), .int (cI z 7 i), .int (cI z 8 i), .int (cI z 9 i), .int (cI z 10 i), .int (cI z 11 i), .ref (cA z 5 (cS z 2 i))] 6 (.ref (cA z 5 v))) := by
  simp [cC, sI_cI, sI_cA, sI_cJ, sI_cR, sI_cS, sJ_cI, sJ_cA, sJ_cJ, sJ_cR, sJ_cS, sR_cI, sR_cA, sR_cJ, sR_cR, sR_cS, sS_cI, sS_cA, sS_cJ, sS_cR, sS_cS, up2]
theorem co_Message_state (y : Nat → ClassId) (z : CS) (i : Nat) (v : Nat) (k' i' : Nat) (h : ¬ (k' = 1 ∧ i' = i)) : cC y (sS z 2 i v) k' i' = cC y z k' i' := by
  unfold cC; split <;> simp_all [sI_cI, sI_cA, sI_cJ, sI_cR, sI_cS, sI_cE, sJ_cI, sJ_cA, sJ_cJ, sJ_cR, sJ_cS, sJ_cE, sR_cI, sR_cA, sR_cJ, sR_cR, sR_cS, sR_cE, sS_cI, sS_cA, sS_cJ, sS_cR, sS_cS, sS_cE, up2]; try rfl
theorem cp_Register_promise (y : Nat → ClassId) (z : CS) (i : Nat) (v : Int32) : cC y (sI z 0 i v) 2 i = .inr (2, List.set [.int (cI z 0 i), .int (cI z 1 i), .ref (cA z 5 (cS z 0 i))] 0 (.int v)) := by
  simp [cC, sI_cI, sI_cA, sI_cJ, sI_cR, sI_cS, sJ_cI, sJ_cA, sJ_cJ, sJ_cR, sJ_cS, sR_cI, sR_cA, sR_cJ, sR_cR, sR_cS, sS_cI, sS_cA, sS_cJ, sS_cR, sS_cS, up2]
theorem co_Register_promise (y : Nat → ClassId) (z : CS) (i : Nat) (v : Int32) (k' i' : Nat) (h : ¬ (k' = 2 ∧ i' = i)) : cC y (sI z 0 i v) k' i' = cC y z k' i' := by
  unfold cC; split <;> simp_all [sI_cI, sI_cA, sI_cJ, sI_cR, sI_cS, sI_cE, sJ_cI, sJ_cA, sJ_cJ, sJ_cR, sJ_cS, sJ_cE, sR_cI, sR_cA, sR_cJ, sR_cR, sR_cS, sR_cE, sS_cI, sS_cA, sS_cJ, sS_cR, sS_cS, sS_cE, up2]; try rfl
theorem cp_Register_ballot (y : Nat → ClassId) (z : CS) (i : Nat) (v : Int32) : cC y (sI z 1 i v) 2 i = .inr (2, List.set [.int (cI z 0 i), .int (cI z 1 i), .ref (cA z 5 (cS z 0 i))] 1 (.int v)) := by
  simp [cC, sI_cI, sI_cA, sI_cJ, sI_cR, sI_cS, sJ_cI, sJ_cA, sJ_cJ, sJ_cR, sJ_cS, sR_cI, sR_cA, sR_cJ, sR_cR, sR_cS, sS_cI, sS_cA, sS_cJ, sS_cR, sS_cS, up2]
theorem co_Register_ballot (y : Nat → ClassId) (z : CS) (i : Nat) (v : Int32) (k' i' : Nat) (h : ¬ (k' = 2 ∧ i' = i)) : cC y (sI z 1 i v) k' i' = cC y z k' i' := by
  unfold cC; split <;> simp_all [sI_cI, sI_cA, sI_cJ, sI_cR, sI_cS, sI_cE, sJ_cI, sJ_cA, sJ_cJ, sJ_cR, sJ_cS, sJ_cE, sR_cI, sR_cA, sR_cJ, sR_cR, sR_cS, sR_cE, sS_cI, sS_cA, sS_cJ, sS_cR, sS_cS, sS_cE, up2]; try rfl
theorem cp_Register_state (y : Nat → ClassId) (z : CS) (i : Nat) (v : Nat) : cC y (sS z 0 i v) 2 i = .inr (2, List.set [.int (cI z 0 i), .int (cI z 1 i), .ref (cA z 5 (cS z 0 i))] 2 (.ref (cA z 5 v))) := by
  simp [cC, sI_cI, sI_cA, sI_cJ, sI_cR, sI_cS, sJ_cI, sJ_cA, sJ_cJ, sJ_cR, sJ_cS, sR_cI, sR_cA, sR_cJ, sR_cR, sR_cS, sS_cI, sS_cA, sS_cJ, sS_cR, sS_cS, up2]
theorem co_Register_state (y : Nat → ClassId) (z : CS) (i : Nat) (v : Nat) (k' i' : Nat) (h : ¬ (k' = 2 ∧ i' = i)) : cC y (sS z 0 i v) k' i' = cC y z k' i' := by
  unfold cC; split <;> simp_all [sI_cI, sI_cA, sI_cJ, sI_cR, sI_cS, sI_cE, sJ_cI, sJ_cA, sJ_cJ, sJ_cR, sJ_cS, sJ_cE, sR_cI, sR_cA, sR_cJ, sR_cR, sR_cS, sR_cE, sS_cI, sS_cA, sS_cJ, sS_cR, sS_cS, sS_cE, up2]; try rfl
theorem cp_Request_number (y : Nat → ClassId) (z : CS) (i : Nat) (v : Int32) : cC y (sI z 12 i v) 3 i = .inr (3, List.set [.int (cI z 12 i), .int (cI z 13 i), .int (cI z 14 i), .int (cI z 15 i), .long (cJ z 0 i), .int (cI z 16 i), .int (cI z 17 i), .int (cI z 18 i), .int (cI z 19 i), .int (cI z 20 i), .int (cI z 21 i), .int (cI z 22 i), va_rf ((cR z 3 i).map (cA z 5)), .int (cI z 23 i), .int (cI z 24 i)] 0 (.int v)) := by
  simp [cC, sI_cI, sI_cA, sI_cJ, sI_cR, sI_cS, sJ_cI, sJ_cA, sJ_cJ, sJ_cR, sJ_cS, sR_cI, sR_cA, sR_cJ, sR_cR, sR_cS, sS_cI, sS_cA, sS_cJ, sS_cR, sS_cS, up2]
theorem co_Request_number (y : Nat → ClassId) (z : CS) (i : Nat) (v : Int32) (k' i' : Nat) (h : ¬ (k' = 3 ∧ i' = i)) : cC y (sI z 12 i v) k' i' = cC y z k' i' := by
  unfold cC; split <;> simp_all [sI_cI, sI_cA, sI_cJ, sI_cR, sI_cS, sI_cE, sJ_cI, sJ_cA, sJ_cJ, sJ_cR, sJ_cS, sJ_cE, sR_cI, sR_cA, sR_cJ, sR_cR, sR_cS, sR_cE, sS_cI, sS_cA, sS_cJ, sS_cR, sS_cS, sS_cE, up2]; try rfl
theorem cp_Request_asker (y : Nat → ClassId) (z : CS) (i : Nat) (v : Int32) : cC y (sI z 13 i v) 3 i = .inr (3, List.set [.int (cI z 12 i), .int (cI z 13 i), .int (cI z 14 i), .int (cI z 15 i), .long (cJ z 0 i), .int (cI z 16 i), .int (cI z 17 i), .int (cI z 18 i), .int (cI z 19 i), .int (cI z 20 i), .int (cI z 21 i), .int (cI z 22 i), va_rf ((cR z 3 i).map (cA z 5)), .int (cI z 23 i), .int (cI z 24 i)] 1 (.int v)) := by
  simp [cC, sI_cI, sI_cA, sI_cJ, sI_cR, sI_cS, sJ_cI, sJ_cA, sJ_cJ, sJ_cR, sJ_cS, sR_cI, sR_cA, sR_cJ, sR_cR, sR_cS, sS_cI, sS_cA, sS_cJ, sS_cR, sS_cS, up2]
theorem co_Request_asker (y : Nat → ClassId) (z : CS) (i : Nat) (v : Int32) (k' i' : Nat) (h : ¬ (k' = 3 ∧ i' = i)) : cC y (sI z 13 i v) k' i' = cC y z k' i' := by
  unfold cC; split <;> simp_all [sI_cI, sI_cA, sI_cJ, sI_cR, sI_cS, sI_cE, sJ_cI, sJ_cA, sJ_cJ, sJ_cR, sJ_cS, sJ_cE, sR_cI, sR_cA, sR_cJ, sR_cR, sR_cS, sR_cE, sS_cI, sS_cA, sS_cJ, sS_cR, sS_cS, sS_cE, up2]; try rfl
theorem cp_Request_key (y : Nat → ClassId) (z : CS) (i : Nat) (v : Int32) : cC y (sI z 14 i v) 3 i = .inr (3, List.set [.int (cI z 12 i), .int (cI z 13 i), .int (cI z 14 i), .int (cI z 15 i), .long (cJ z 0 i), .int (cI z 16 i), .int (cI z 17 i), .int (cI z 18 i), .int (cI z 19 i), .int (cI z 20 i), .int (cI z 21 i), .int (cI z 22 i), va_rf ((cR z 3 i).map (cA z 5)), .int (cI z 23 i), .int (cI z 24 i)] 2 (.int v)) := by
  simp [cC, sI_cI, sI_cA, sI_cJ, sI_cR, sI_cS, sJ_cI, sJ_cA, sJ_cJ, sJ_cR, sJ_cS, sR_cI, sR_cA, sR_cJ, sR_cR, sR_cS, sS_cI, sS_cA, sS_cJ, sS_cR, sS_cS, up2]
theorem co_Request_key (y : Nat → ClassId) (z : CS) (i : Nat) (v : Int32) (k' i' : Nat) (h : ¬ (k' = 3 ∧ i' = i)) : cC y (sI z 14 i v) k' i' = cC y z k' i' := by
  unfold cC; split <;> simp_all [sI_cI, sI_cA, sI_cJ, sI_cR, sI_cS, sI_cE, sJ_cI, sJ_cA, sJ_cJ, sJ_cR, sJ_cS, sJ_cE, sR_cI, sR_cA, sR_cJ, sR_cR, sR_cS, sR_cE, sS_cI, sS_cA, sS_cJ, sS_cR, sS_cS, sS_cE, up2]; try rfl
theorem cp_Request_change (y : Nat → ClassId) (z : CS) (i : Nat) (v : Int32) : cC y (sI z 15 i v) 3 i = .inr (3, List.set [.int (cI z 12 i), .int (cI z 13 i), .int (cI z 14 i), .int (cI z 15 i), .long (cJ z 0 i), .int (cI z 16 i), .int (cI z 17 i), .int (cI z 18 i), .int (cI z 19 i), .int (cI z 20 i), .int (cI z 21 i), .int (cI z 22 i), va_rf ((cR z 3 i).map (cA z 5)), .int (cI z 23 i), .int (cI z 24 i)] 3 (.int v)) := by
  simp [cC, sI_cI, sI_cA, sI_cJ, sI_cR, sI_cS, sJ_cI, sJ_cA, sJ_cJ, sJ_cR, sJ_cS, sR_cI, sR_cA, sR_cJ, sR_cR, sR_cS, sS_cI, sS_cA, sS_cJ, sS_cR, sS_cS, up2]
theorem co_Request_change (y : Nat → ClassId) (z : CS) (i : Nat) (v : Int32) (k' i' : Nat) (h : ¬ (k' = 3 ∧ i' = i)) : cC y (sI z 15 i v) k' i' = cC y z k' i' := by
  unfold cC; split <;> simp_all [sI_cI, sI_cA, sI_cJ, sI_cR, sI_cS, sI_cE, sJ_cI, sJ_cA, sJ_cJ, sJ_cR, sJ_cS, sJ_cE, sR_cI, sR_cA, sR_cJ, sR_cR, sR_cS, sR_cE, sS_cI, sS_cA, sS_cJ, sS_cR, sS_cS, sS_cE, up2]; try rfl
theorem cp_Request_argument (y : Nat → ClassId) (z : CS) (i : Nat) (v : Int64) : cC y (sJ z 0 i v) 3 i = .inr (3, List.set [.int (cI z 12 i), .int (cI z 13 i), .int (cI z 14 i), .int (cI z 15 i), .long (cJ z 0 i), .int (cI z 16 i), .int (cI z 17 i), .int (cI z 18 i), .int (cI z 19 i), .int (cI z 20 i), .int (cI z 21 i), .int (cI z 22 i), va_rf ((cR z 3 i).map (cA z 5)), .int (cI z 23 i), .int (cI z 24 i)] 4 (.long v)) := by
  simp [cC, sI_cI, sI_cA, sI_cJ, sI_cR, sI_cS, sJ_cI, sJ_cA, sJ_cJ, sJ_cR, sJ_cS, sR_cI, sR_cA, sR_cJ, sR_cR, sR_cS, sS_cI, sS_cA, sS_cJ, sS_cR, sS_cS, up2]
theorem co_Request_argument (y : Nat → ClassId) (z : CS) (i : Nat) (v : Int64) (k' i' : Nat) (h : ¬ (k' = 3 ∧ i' = i)) : cC y (sJ z 0 i v) k' i' = cC y z k' i' := by
  unfold cC; split <;> simp_all [sI_cI, sI_cA, sI_cJ, sI_cR, sI_cS, sI_cE, sJ_cI, sJ_cA, sJ_cJ, sJ_cR, sJ_cS, sJ_cE, sR_cI, sR_cA, sR_cJ, sR_cR, sR_cS, sR_cE, sS_cI, sS_cA, sS_cJ, sS_cR, sS_cS, sS_cE, up2]; try rfl
theorem cp_Request_ballot (y : Nat → ClassId) (z : CS) (i : Nat) (v : Int32) : cC y (sI z 16 i v) 3 i = .inr (3, List.set [.int (cI z 12 i), .int (cI z 13 i), .int (cI z 14 i), .int (cI z 15 i), .long (cJ z 0 i), .int (cI z 16 i), .int (cI z 17 i), .int (cI z 18 i), .int (cI z 19 i), .int (cI z 20 i), .int (cI z 21 i), .int (cI z 22 i), va_rf ((cR z 3 i).map (cA z 5)), .int (cI z 23 i), .int (cI z 24 i)] 5 (.int v)) := by
  simp [cC, sI_cI, sI_cA, sI_cJ, sI_cR, sI_cS, sJ_cI, sJ_cA, sJ_cJ, sJ_cR, sJ_cS, sR_cI, sR_cA, sR_cJ, sR_cR, sR_cS, sS_cI, sS_cA, sS_cJ, sS_cR, sS_cS, up2]
theorem co_Request_ballot (y : Nat → ClassId) (z : CS) (i : Nat) (v : Int32) (k' i' : Nat) (h : ¬ (k' = 3 ∧ i' = i)) : cC y (sI z 16 i v) k' i' = cC y z k' i' := by
  unfold cC; split <;> simp_all [sI_cI, sI_cA, sI_cJ, sI_cR, sI_cS, sI_cE, sJ_cI, sJ_cA, sJ_cJ, sJ_cR, sJ_cS, sJ_cE, sR_cI, sR_cA, sR_cJ, sR_cR, sR_cS, sR_cE, sS_cI, sS_cA, sS_cJ, sS_cR, sS_cS, sS_cE, up2]; try rfl
theorem cp_Request_enoughPromised (y : Nat → ClassId) (z : CS) (i : Nat) (v : Int32) : cC y (sI z 17 i v) 3 i = .inr (3, List.set [.int (cI z 12 i), .int (cI z 13 i), .int (cI z 14 i), .int (cI z 15 i), .long (cJ z 0 i), .int (cI z 16 i), .int (cI z 17 i), .int (cI z 18 i), .int (cI z 19 i), .int (cI z 20 i), .int (cI z 21 i), .int (cI z 22 i), va_rf ((cR z 3 i).map (cA z 5)), .int (cI z 23 i), .int (cI z 24 i)] 6 (.int v)) := by
  simp [cC, sI_cI, sI_cA, sI_cJ, sI_cR, sI_cS, sJ_cI, sJ_cA, sJ_cJ, sJ_cR, sJ_cS, sR_cI, sR_cA, sR_cJ, sR_cR, sR_cS, sS_cI, sS_cA, sS_cJ, sS_cR, sS_cS, up2]
theorem co_Request_enoughPromised (y : Nat → ClassId) (z : CS) (i : Nat) (v : Int32) (k' i' : Nat) (h : ¬ (k' = 3 ∧ i' = i)) : cC y (sI z 17 i v) k' i' = cC y z k' i' := by
  unfold cC; split <;> simp_all [sI_cI, sI_cA, sI_cJ, sI_cR, sI_cS, sI_cE, sJ_cI, sJ_cA, sJ_cJ, sJ_cR, sJ_cS, sJ_cE, sR_cI, sR_cA, sR_cJ, sR_cR, sR_cS, sR_cE, sS_cI, sS_cA, sS_cJ, sS_cR, sS_cS, sS_cE, up2]; try rfl
theorem cp_Request_acceptSet (y : Nat → ClassId) (z : CS) (i : Nat) (v : Int32) : cC y (sI z 18 i v) 3 i = .inr (3, List.set [.int (cI z 12 i), .int (cI z 13 i), .int (cI z 14 i), .int (cI z 15 i), .long (cJ z 0 i), .int (cI z 16 i), .int (cI z 17 i), .int (cI z 18 i), .int (cI z 19 i), .int (cI z 20 i), .int (cI z 21 i), .int (cI z 22 i), va_rf ((cR z 3 i).map (cA z 5)), .int (cI z 23 i), .int (cI z 24 i)] 7 (.int v)) := by
  simp [cC, sI_cI, sI_cA, sI_cJ, sI_cR, sI_cS, sJ_cI, sJ_cA, sJ_cJ, sJ_cR, sJ_cS, sR_cI, sR_cA, sR_cJ, sR_cR, sR_cS, sS_cI, sS_cA, sS_cJ, sS_cR, sS_cS, up2]
theorem co_Request_acceptSet (y : Nat → ClassId) (z : CS) (i : Nat) (v : Int32) (k' i' : Nat) (h : ¬ (k' = 3 ∧ i' = i)) : cC y (sI z 18 i v) k' i' = cC y z k' i' := by
  unfold cC; split <;> simp_all [sI_cI, sI_cA, sI_cJ, sI_cR, sI_cS, sI_cE, sJ_cI, sJ_cA, sJ_cJ, sJ_cR, sJ_cS, sJ_cE, sR_cI, sR_cA, sR_cJ, sR_cR, sR_cS, sR_cE, sS_cI, sS_cA, sS_cJ, sS_cR, sS_cS, sS_cE, up2]; try rfl
theorem cp_Request_enoughTaken (y : Nat → ClassId) (z : CS) (i : Nat) (v : Int32) : cC y (sI z 19 i v) 3 i = .inr (3, List.set [.int (cI z 12 i), .int (cI z 13 i), .int (cI z 14 i), .int (cI z 15 i), .long (cJ z 0 i), .int (cI z 16 i), .int (cI z 17 i), .int (cI z 18 i), .int (cI z 19 i), .int (cI z 20 i), .int (cI z 21 i), .int (cI z 22 i), va_rf ((cR z 3 i).map (cA z 5)), .int (cI z 23 i), .int (cI z 24 i)] 8 (.int v)) := by
  simp [cC, sI_cI, sI_cA, sI_cJ, sI_cR, sI_cS, sJ_cI, sJ_cA, sJ_cJ, sJ_cR, sJ_cS, sR_cI, sR_cA, sR_cJ, sR_cR, sR_cS, sS_cI, sS_cA, sS_cJ, sS_cR, sS_cS, up2]
theorem co_Request_enoughTaken (y : Nat → ClassId) (z : CS) (i : Nat) (v : Int32) (k' i' : Nat) (h : ¬ (k' = 3 ∧ i' = i)) : cC y (sI z 19 i v) k' i' = cC y z k' i' := by
  unfold cC; split <;> simp_all [sI_cI, sI_cA, sI_cJ, sI_cR, sI_cS, sI_cE, sJ_cI, sJ_cA, sJ_cJ, sJ_cR, sJ_cS, sJ_cE, sR_cI, sR_cA, sR_cJ, sR_cR, sR_cS, sR_cE, sS_cI, sS_cA, sS_cJ, sS_cR, sS_cS, sS_cE, up2]; try rfl
theorem cp_Request_accepting (y : Nat → ClassId) (z : CS) (i : Nat) (v : Int32) : cC y (sI z 20 i v) 3 i = .inr (3, List.set [.int (cI z 12 i), .int (cI z 13 i), .int (cI z 14 i), .int (cI z 15 i), .long (cJ z 0 i), .int (cI z 16 i), .int (cI z 17 i), .int (cI z 18 i), .int (cI z 19 i), .int (cI z 20 i), .int (cI z 21 i), .int (cI z 22 i), va_rf ((cR z 3 i).map (cA z 5)), .int (cI z 23 i), .int (cI z 24 i)] 9 (.int v)) := by
  simp [cC, sI_cI, sI_cA, sI_cJ, sI_cR, sI_cS, sJ_cI, sJ_cA, sJ_cJ, sJ_cR, sJ_cS, sR_cI, sR_cA, sR_cJ, sR_cR, sR_cS, sS_cI, sS_cA, sS_cJ, sS_cR, sS_cS, up2]
theorem co_Request_accepting (y : Nat → ClassId) (z : CS) (i : Nat) (v : Int32) (k' i' : Nat) (h : ¬ (k' = 3 ∧ i' = i)) : cC y (sI z 20 i v) k' i' = cC y z k' i' := by
  unfold cC; split <;> simp_all [sI_cI, sI_cA, sI_cJ, sI_cR, sI_cS, sI_cE, sJ_cI, sJ_cA, sJ_cJ, sJ_cR, sJ_cS, sJ_cE, sR_cI, sR_cA, sR_cJ, sR_cR, sR_cS, sR_cE, sS_cI, sS_cA, sS_cJ, sS_cR, sS_cS, sS_cE, up2]; try rfl
theorem cp_Request_answered (y : Nat → ClassId) (z : CS) (i : Nat) (v : Int32) : cC y (sI z 21 i v) 3 i = .inr (3, List.set [.int (cI z 12 i), .int (cI z 13 i), .int (cI z 14 i), .int (cI z 15 i), .long (cJ z 0 i), .int (cI z 16 i), .int (cI z 17 i), .int (cI z 18 i), .int (cI z 19 i), .int (cI z 20 i), .int (cI z 21 i), .int (cI z 22 i), va_rf ((cR z 3 i).map (cA z 5)), .int (cI z 23 i), .int (cI z 24 i)] 10 (.int v)) := by
  simp [cC, sI_cI, sI_cA, sI_cJ, sI_cR, sI_cS, sJ_cI, sJ_cA, sJ_cJ, sJ_cR, sJ_cS, sR_cI, sR_cA, sR_cJ, sR_cR, sR_cS, sS_cI, sS_cA, sS_cJ, sS_cR, sS_cS, up2]
theorem co_Request_answered (y : Nat → ClassId) (z : CS) (i : Nat) (v : Int32) (k' i' : Nat) (h : ¬ (k' = 3 ∧ i' = i)) : cC y (sI z 21 i v) k' i' = cC y z k' i' := by
  unfold cC; split <;> simp_all [sI_cI, sI_cA, sI_cJ, sI_cR, sI_cS, sI_cE, sJ_cI, sJ_cA, sJ_cJ, sJ_cR, sJ_cS, sJ_cE, sR_cI, sR_cA, sR_cJ, sR_cR, sR_cS, sR_cE, sS_cI, sS_cA, sS_cJ, sS_cR, sS_cS, sS_cE, up2]; try rfl
theorem cp_Request_toldBallot (y : Nat → ClassId) (z : CS) (i : Nat) (v : Int32) : cC y (sI z 22 i v) 3 i = .inr (3, List.set [.int (cI z 12 i), .int (cI z 13 i), .int (cI z 14 i), .int (cI z 15 i), .long (cJ z 0 i), .int (cI z 16 i), .int (cI z 17 i), .int (cI z 18 i), .int (cI z 19 i), .int (cI z 20 i), .int (cI z 21 i), .int (cI z 22 i), va_rf ((cR z 3 i).map (cA z 5)), .int (cI z 23 i), .int (cI z 24 i)] 11 (.int v)) := by
  simp [cC, sI_cI, sI_cA, sI_cJ, sI_cR, sI_cS, sJ_cI, sJ_cA, sJ_cJ, sJ_cR, sJ_cS, sR_cI, sR_cA, sR_cJ, sR_cR, sR_cS, sS_cI, sS_cA, sS_cJ, sS_cR, sS_cS, up2]
theorem co_Request_toldBallot (y : Nat → ClassId) (z : CS) (i : Nat) (v : Int32) (k' i' : Nat) (h : ¬ (k' = 3 ∧ i' = i)) : cC y (sI z 22 i v) k' i' = cC y z k' i' := by
  unfold cC; split <;> simp_all [sI_cI, sI_cA, sI_cJ, sI_cR, sI_cS, sI_cE, sJ_cI, sJ_cA, sJ_cJ, sJ_cR, sJ_cS, sJ_cE, sR_cI, sR_cA, sR_cJ, sR_cR, sR_cS, sR_cE, sS_cI, sS_cA, sS_cJ, sS_cR, sS_cS, sS_cE, up2]; try rfl
theorem cp_Request_state (y : Nat → ClassId) (z : CS) (i : Nat) (v : Option Nat) : cC y (sR z 3 i v) 3 i = .inr (3, List.set [.int (cI z 12 i), .int (cI z 13 i), .int (cI z 14 i), .int (cI z 15 i), .long (cJ z 0 i), .int (cI z 16 i), .int (cI z 17 i), .int (cI z 18 i), .int (cI z 19 i), .int (cI z 20 i), .int (cI z 21 i), .int (cI z 22 i), va_rf ((cR z 3 i).map (cA z 5)), .int (cI z 23 i), .int (cI z 24 i)] 12 (va_rf (v.map (cA z 5)))) := by
  simp [cC, sI_cI, sI_cA, sI_cJ, sI_cR, sI_cS, sJ_cI, sJ_cA, sJ_cJ, sJ_cR, sJ_cS, sR_cI, sR_cA, sR_cJ, sR_cR, sR_cS, sS_cI, sS_cA, sS_cJ, sS_cR, sS_cS, up2]
theorem co_Request_state (y : Nat → ClassId) (z : CS) (i : Nat) (v : Option Nat) (k' i' : Nat) (h : ¬ (k' = 3 ∧ i' = i)) : cC y (sR z 3 i v) k' i' = cC y z k' i' := by
  unfold cC; split <;> simp_all [sI_cI, sI_cA, sI_cJ, sI_cR, sI_cS, sI_cE, sJ_cI, sJ_cA, sJ_cJ, sJ_cR, sJ_cS, sJ_cE, sR_cI, sR_cA, sR_cJ, sR_cR, sR_cS, sR_cE, sS_cI, sS_cA, sS_cJ, sS_cR, sS_cS, sS_cE, up2]; try rfl
theorem cp_Request_failed (y : Nat → ClassId) (z : CS) (i : Nat) (v : Int32) : cC y (sI z 23 i v) 3 i = .inr (3, List.set [.int (cI z 12 i), .int (cI z 13 i), .int (cI z 14 i), .int (cI z 15 i), .long (cJ z 0 i), .int (cI z 16 i), .int (cI z 17 i), .int (cI z 18 i), .int (cI z 19 i), .int (cI z 20 i), .int (cI z 21 i), .int (cI z 22 i), va_rf ((cR z 3 i).map (cA z 5)), .int (cI z 23 i), .int (cI z 24 i)] 13 (.int v)) := by
  simp [cC, sI_cI, sI_cA, sI_cJ, sI_cR, sI_cS, sJ_cI, sJ_cA, sJ_cJ, sJ_cR, sJ_cS, sR_cI, sR_cA, sR_cJ, sR_cR, sR_cS, sS_cI, sS_cA, sS_cJ, sS_cR, sS_cS, up2]
theorem co_Request_failed (y : Nat → ClassId) (z : CS) (i : Nat) (v : Int32) (k' i' : Nat) (h : ¬ (k' = 3 ∧ i' = i)) : cC y (sI z 23 i v) k' i' = cC y z k' i' := by
  unfold cC; split <;> simp_all [sI_cI, sI_cA, sI_cJ, sI_cR, sI_cS, sI_cE, sJ_cI, sJ_cA, sJ_cJ, sJ_cR, sJ_cS, sJ_cE, sR_cI, sR_cA, sR_cJ, sR_cR, sR_cS, sR_cE, sS_cI, sS_cA, sS_cJ, sS_cR, sS_cS, sS_cE, up2]; try rfl
theorem cp_Request_ending (y : Nat → ClassId) (z : CS) (i : Nat) (v : Int32) : cC y (sI z 24 i v) 3 i = .inr (3, List.set [.int (cI z 12 i), .int (cI z 13 i), .int (cI z 14 i), .int (cI z 15 i), .long (cJ z 0 i), .int (cI z 16 i), .int (cI z 17 i), .int (cI z 18 i), .int (cI z 19 i), .int (cI z 20 i), .int (cI z 21 i), .int (cI z 22 i), va_rf ((cR z 3 i).map (cA z 5)), .int (cI z 23 i), .int (cI z 24 i)] 14 (.int v)) := by
  simp [cC, sI_cI, sI_cA, sI_cJ, sI_cR, sI_cS, sJ_cI, sJ_cA, sJ_cJ, sJ_cR, sJ_cS, sR_cI, sR_cA, sR_cJ, sR_cR, sR_cS, sS_cI, sS_cA, sS_cJ, sS_cR, sS_cS, up2]
theorem co_Request_ending (y : Nat → ClassId) (z : CS) (i : Nat) (v : Int32) (k' i' : Nat) (h : ¬ (k' = 3 ∧ i' = i)) : cC y (sI z 24 i v) k' i' = cC y z k' i' := by
  unfold cC; split <;> simp_all [sI_cI, sI_cA, sI_cJ, sI_cR, sI_cS, sI_cE, sJ_cI, sJ_cA, sJ_cJ, sJ_cR, sJ_cS, sJ_cE, sR_cI, sR_cA, sR_cJ, sR_cR, sR_cS, sR_cE, sS_cI, sS_cA, sS_cJ, sS_cR, sS_cS, sS_cE, up2]; try rfl
theorem cp_Row_size (y : Nat → ClassId) (z : CS) (i : Nat) (v : Int32) : cC y (sI z 25 i v) 4 i = .inr (4, List.set [.ref (cA z 11 0), .int (cI z 25 i)] 1 (.int v)) := by
  simp [cC, sI_cI, sI_cA, sI_cJ, sI_cR, sI_cS, sJ_cI, sJ_cA, sJ_cJ, sJ_cR, sJ_cS, sR_cI, sR_cA, sR_cJ, sR_cR, sR_cS, sS_cI, sS_cA, sS_cJ, sS_cR, sS_cS, up2]
theorem co_Row_size (y : Nat → ClassId) (z : CS) (i : Nat) (v : Int32) (k' i' : Nat) (h : ¬ (k' = 4 ∧ i' = i)) : cC y (sI z 25 i v) k' i' = cC y z k' i' := by
  unfold cC; split <;> simp_all [sI_cI, sI_cA, sI_cJ, sI_cR, sI_cS, sI_cE, sJ_cI, sJ_cA, sJ_cJ, sJ_cR, sJ_cS, sJ_cE, sR_cI, sR_cA, sR_cJ, sR_cR, sR_cS, sR_cE, sS_cI, sS_cA, sS_cJ, sS_cR, sS_cS, sS_cE, up2]; try rfl
theorem cp_State_present (y : Nat → ClassId) (z : CS) (i : Nat) (v : Int32) : cC y (sI z 26 i v) 5 i = .inr (5, List.set [.int (cI z 26 i), .int (cI z 27 i), .long (cJ z 1 i)] 0 (.int v)) := by
  simp [cC, sI_cI, sI_cA, sI_cJ, sI_cR, sI_cS, sJ_cI, sJ_cA, sJ_cJ, sJ_cR, sJ_cS, sR_cI, sR_cA, sR_cJ, sR_cR, sR_cS, sS_cI, sS_cA, sS_cJ, sS_cR, sS_cS, up2]
theorem co_State_present (y : Nat → ClassId) (z : CS) (i : Nat) (v : Int32) (k' i' : Nat) (h : ¬ (k' = 5 ∧ i' = i)) : cC y (sI z 26 i v) k' i' = cC y z k' i' := by
  unfold cC; split <;> simp_all [sI_cI, sI_cA, sI_cJ, sI_cR, sI_cS, sI_cE, sJ_cI, sJ_cA, sJ_cJ, sJ_cR, sJ_cS, sJ_cE, sR_cI, sR_cA, sR_cJ, sR_cR, sR_cS, sR_cE, sS_cI, sS_cA, sS_cJ, sS_cR, sS_cS, sS_cE, up2]; try rfl
theorem cp_State_version (y : Nat → ClassId) (z : CS) (i : Nat) (v : Int32) : cC y (sI z 27 i v) 5 i = .inr (5, List.set [.int (cI z 26 i), .int (cI z 27 i), .long (cJ z 1 i)] 1 (.int v)) := by
  simp [cC, sI_cI, sI_cA, sI_cJ, sI_cR, sI_cS, sJ_cI, sJ_cA, sJ_cJ, sJ_cR, sJ_cS, sR_cI, sR_cA, sR_cJ, sR_cR, sR_cS, sS_cI, sS_cA, sS_cJ, sS_cR, sS_cS, up2]
theorem co_State_version (y : Nat → ClassId) (z : CS) (i : Nat) (v : Int32) (k' i' : Nat) (h : ¬ (k' = 5 ∧ i' = i)) : cC y (sI z 27 i v) k' i' = cC y z k' i' := by
  unfold cC; split <;> simp_all [sI_cI, sI_cA, sI_cJ, sI_cR, sI_cS, sI_cE, sJ_cI, sJ_cA, sJ_cJ, sJ_cR, sJ_cS, sJ_cE, sR_cI, sR_cA, sR_cJ, sR_cR, sR_cS, sR_cE, sS_cI, sS_cA, sS_cJ, sS_cR, sS_cS, sS_cE, up2]; try rfl
theorem cp_State_value (y : Nat → ClassId) (z : CS) (i : Nat) (v : Int64) : cC y (sJ z 1 i v) 5 i = .inr (5, List.set [.int (cI z 26 i), .int (cI z 27 i), .long (cJ z 1 i)] 2 (.long v)) := by
  simp [cC, sI_cI, sI_cA, sI_cJ, sI_cR, sI_cS, sJ_cI, sJ_cA, sJ_cJ, sJ_cR, sJ_cS, sR_cI, sR_cA, sR_cJ, sR_cR, sR_cS, sS_cI, sS_cA, sS_cJ, sS_cR, sS_cS, up2]
theorem co_State_value (y : Nat → ClassId) (z : CS) (i : Nat) (v : Int64) (k' i' : Nat) (h : ¬ (k' = 5 ∧ i' = i)) : cC y (sJ z 1 i v) k' i' = cC y z k' i' := by
  unfold cC; split <;> simp_all [sI_cI, sI_cA, sI_cJ, sI_cR, sI_cS, sI_cE, sJ_cI, sJ_cA, sJ_cJ, sJ_cR, sJ_cS, sJ_cE, sR_cI, sR_cA, sR_cJ, sR_cR, sR_cS, sR_cE, sS_cI, sS_cA, sS_cJ, sS_cR, sS_cS, sS_cE, up2]; try rfl
theorem cp_SharedRegisters_requestCount (y : Nat → ClassId) (z : CS) (i : Nat) (v : Int32) : cC y (sI z 28 i v) 6 i = .inr (6, List.set [.ref (cA z 5 0), .ref (cA z 12 0), .ref (cA z 9 0), .ref (cA z 10 0), .ref (cA z 13 0), .ref (cA z 4 0), .int (cI z 28 i)] 6 (.int v)) := by
  simp [cC, sI_cI, sI_cA, sI_cJ, sI_cR, sI_cS, sJ_cI, sJ_cA, sJ_cJ, sJ_cR, sJ_cS, sR_cI, sR_cA, sR_cJ, sR_cR, sR_cS, sS_cI, sS_cA, sS_cJ, sS_cR, sS_cS, up2]
theorem co_SharedRegisters_requestCount (y : Nat → ClassId) (z : CS) (i : Nat) (v : Int32) (k' i' : Nat) (h : ¬ (k' = 6 ∧ i' = i)) : cC y (sI z 28 i v) k' i' = cC y z k' i' := by
  unfold cC; split <;> simp_all [sI_cI, sI_cA, sI_cJ, sI_cR, sI_cS, sI_cE, sJ_cI, sJ_cA, sJ_cJ, sJ_cR, sJ_cS, sJ_cE, sR_cI, sR_cA, sR_cJ, sR_cR, sR_cS, sR_cE, sS_cI, sS_cA, sS_cJ, sS_cR, sS_cS, sS_cE, up2]; try rfl
