/-! THE REFERENCE'S STATE: addresses (kind 0: the object; kind 1: its arrays by their numbers), ints, longs. Arrays: 0 sort, 1 who, 2 whom, 3 about, 4 ballot, 5 tells, 6 version, 7 value, 8 isDown, 9 promise, 10 accepted, 11 there, 12 keptVersion, 13 keptValue, 14 count, 15 set, 16 enough, 17 nowSet, 18 nowEnough, 19 now, 20 accepting, 21 answered, 22 best, 23 has, 24 hasVersion, 25 hasValue, 26 failing, 27 key, 28 change, 29 argument, 30 its, 31 ended, 32 failed, 33 isThere, 34 endVersion, 35 endValue. Ints at place 0: 36 many, 37 requests, 38 thrown -/
abbrev MS : Type := (Nat → Nat → Nat) × (Nat → Nat → Int32) × (Nat → Nat → Int64)
def mA (z : MS) : Nat → Nat → Nat := z.1
def mI (z : MS) : Nat → Nat → Int32 := z.2.1
def mJ (z : MS) : Nat → Nat → Int64 := z.2.2
def tI (z : MS) (f i : Nat) (v : Int32) : MS := (z.1, up2 z.2.1 f i v, z.2.2)
def tJ (z : MS) (f i : Nat) (v : Int64) : MS := (z.1, z.2.1, up2 z.2.2 f i v)
theorem tI_mA (z : MS) (f i : Nat) (v : Int32) : mA (tI z f i v) = mA z := rfl
theorem tI_mI (z : MS) (f i : Nat) (v : Int32) : mI (tI z f i v) = up2 (mI z) f i v := rfl
theorem tI_mJ (z : MS) (f i : Nat) (v : Int32) : mJ (tI z f i v) = mJ z := rfl
theorem tJ_mA (z : MS) (f i : Nat) (v : Int64) : mA (tJ z f i v) = mA z := rfl
theorem tJ_mI (z : MS) (f i : Nat) (v : Int64) : mI (tJ z f i v) = mI z := rfl
theorem tJ_mJ (z : MS) (f i : Nat) (v : Int64) : mJ (tJ z f i v) = up2 (mJ z) f i v := rfl
def mN (_ : MS) (k : Nat) : Nat := match k with
  | 0 => 1
  | 1 => 36
  | _ => 0
def mTy (j : Nat) : Nat := match j with
  | 5 => 2
  | 7 => 1
  | 8 => 2
  | 11 => 2
  | 13 => 1
  | 20 => 2
  | 23 => 2
  | 25 => 1
  | 26 => 2
  | 29 => 1
  | 32 => 2
  | 33 => 2
  | 35 => 1
  | _ => 0
def mLen (j : Nat) : Nat := match j with
  | 0 => 301
  | 1 => 301
  | 2 => 301
  | 3 => 301
  | 4 => 301
  | 5 => 301
  | 6 => 301
  | 7 => 301
  | 8 => 9
  | 9 => 36
  | 10 => 36
  | 11 => 36
  | 12 => 36
  | 13 => 36
  | 14 => 4
  | 15 => 8
  | 16 => 8
  | 17 => 8
  | 18 => 8
  | 19 => 4
  | 20 => 4
  | 21 => 4
  | 22 => 4
  | 23 => 4
  | 24 => 4
  | 25 => 4
  | 26 => 4
  | 27 => 200
  | 28 => 200
  | 29 => 200
  | 30 => 200
  | 31 => 200
  | 32 => 200
  | 33 => 200
  | 34 => 200
  | 35 => 200
  | _ => 0
def mFs (z : MS) : List Value := [.int (mI z 36 0), .ref (mA z 1 0), .ref (mA z 1 1), .ref (mA z 1 2), .ref (mA z 1 3), .ref (mA z 1 4), .ref (mA z 1 5), .ref (mA z 1 6), .ref (mA z 1 7), .ref (mA z 1 8), .ref (mA z 1 9), .ref (mA z 1 10), .ref (mA z 1 11), .ref (mA z 1 12), .ref (mA z 1 13), .ref (mA z 1 14), .ref (mA z 1 15), .ref (mA z 1 16), .ref (mA z 1 17), .ref (mA z 1 18), .ref (mA z 1 19), .ref (mA z 1 20), .ref (mA z 1 21), .ref (mA z 1 22), .ref (mA z 1 23), .ref (mA z 1 24), .ref (mA z 1 25), .ref (mA z 1 26), .int (mI z 37 0), .ref (mA z 1 27), .ref (mA z 1 28), .ref (mA z 1 29), .ref (mA z 1 30), .ref (mA z 1 31), .ref (mA z 1 32), .ref (mA z 1 33), .ref (mA z 1 34), .ref (mA z 1 35), .int (mI z 38 0)]
def mC (y : Nat → ClassId) (z : MS) (k i : Nat) : va_E := match k with
  | 0 => .inr (7, mFs z)
  | _ => if mTy i = 1 then .inl (y 1, mLen i, .inr (.inl (mJ z i))) else .inl (y (mTy i), mLen i, .inl (mI z i))
def mw (D : va_G) (y : Nat → ClassId) (A : Nat → Prop) (z : MS) (H : Heap) : Prop := gw D A (mA z) (mN z) (mC y z) H
theorem up2_row {α : Type} {f : Nat → Nat → α} {k i k' : Nat} {v : α} (h : k' ≠ k) : up2 f k i v k' = f k' := by funext j; exact up2_k h
theorem mC_tI {y : Nat → ClassId} {z : MS} {j q : Nat} {v : Int32} (hj : j < 36) (k' i' : Nat) (hi' : i' < mN z k') (h : ¬ (k' = 1 ∧ i' = j)) : mC y (tI z j q v) k' i' = mC y z k' i' := by
  match k', hi', h with
  | 0, _, _ => simp [mC, mFs, tI_mI, tI_mA, up2, show ¬ (36 = j) by omega, show ¬ (37 = j) by omega, show ¬ (38 = j) by omega]
  | 1, _, h => simp only [mC, tI_mI, tI_mJ]; rw [up2_row (fun e => h ⟨rfl, e⟩)]
  | k + 2, hi', _ => exact absurd hi' (Nat.not_lt_zero _)
theorem mC_tJ {y : Nat → ClassId} {z : MS} {j q : Nat} {v : Int64} (k' i' : Nat) (hi' : i' < mN z k') (h : ¬ (k' = 1 ∧ i' = j)) : mC y (tJ z j q v) k' i' = mC y z k' i' := by
  match k', hi', h with
  | 0, _, _ => rfl
  | 1, _, h => simp only [mC, tJ_mI, tJ_mJ]; rw [up2_row (fun e => h ⟨rfl, e⟩)]
  | k + 2, hi', _ => exact absurd hi' (Nat.not_lt_zero _)
theorem mC_many {y : Nat → ClassId} {z : MS} {v : Int32} (k' i' : Nat) (hi' : i' < mN z k') (h : ¬ (k' = 0 ∧ i' = 0)) : mC y (tI z 36 0 v) k' i' = mC y z k' i' := by
  match k', hi', h with
  | 0, hi', h => exact absurd ⟨rfl, (show i' = 0 by have : i' < 1 := hi'; omega)⟩ h
  | 1, hi', _ => simp only [mC, tI_mI, tI_mJ]; rw [up2_row (show i' ≠ 36 by have : i' < 36 := hi'; omega)]
  | k + 2, hi', _ => exact absurd hi' (Nat.not_lt_zero _)
theorem mC_requests {y : Nat → ClassId} {z : MS} {v : Int32} (k' i' : Nat) (hi' : i' < mN z k') (h : ¬ (k' = 0 ∧ i' = 0)) : mC y (tI z 37 0 v) k' i' = mC y z k' i' := by
  match k', hi', h with
  | 0, hi', h => exact absurd ⟨rfl, (show i' = 0 by have : i' < 1 := hi'; omega)⟩ h
  | 1, hi', _ => simp only [mC, tI_mI, tI_mJ]; rw [up2_row (show i' ≠ 37 by have : i' < 36 := hi'; omega)]
  | k + 2, hi', _ => exact absurd hi' (Nat.not_lt_zero _)
theorem mC_thrown {y : Nat → ClassId} {z : MS} {v : Int32} (k' i' : Nat) (hi' : i' < mN z k') (h : ¬ (k' = 0 ∧ i' = 0)) : mC y (tI z 38 0 v) k' i' = mC y z k' i' := by
  match k', hi', h with
  | 0, hi', h => exact absurd ⟨rfl, (show i' = 0 by have : i' < 1 := hi'; omega)⟩ h
  | 1, hi', _ => simp only [mC, tI_mI, tI_mJ]; rw [up2_row (show i' ≠ 38 by have : i' < 36 := hi'; omega)]
  | k + 2, hi', _ => exact absurd hi' (Nat.not_lt_zero _)
section MR
variable {p : Program} {l : Launch} {e : Env} {R : Room} {s : State} {m : MethodId} {args : Array Value} {below : List Frame} {meth : Method} {c : Code} {H : Heap} {locs : List Loc} {cells slots : Nat} {Q : State → Prop}
variable {cc : ByteArray} {pc : Nat} {ls : Array Slot} {rest : List Value} {D : va_G} {A : Nat → Prop} {y : Nat → ClassId} {z : MS} {H0 : Heap} {index : Nat} {Ts : List Cond}
/-- a field of the reference is read: by its number -/
theorem gM (f : Nat) {v : Value} (hx : p.tables.exec = Jvm.exec) (hb : c.code = cc) (hts : ∀ w ∈ Ts, w.before args s = true) (hin : ∀ w ∈ wsX70, w ∈ Ts) (hown : s.vm.findClass RX7 = some m.cls) (hK : va_K D vwCl (ctys y) s) (hW : mw D y A z H) {q : Nat} (hq : q = mA z 0 0) (hf : f < 39) (hv : (mFs z)[f]? = some v) (hlink : (Cond.fieldLink RX7 index RX7 (TX7 f).2.1 (TX7 f).2.2.1).before args s = true) (hsame : (TX7 f).1 = RX7) (hdg : decode cc pc = .ok (.getfield index, 3))
    (kk : W p l e R s m args below meth c H locs cells slots Q (F0 m (pc + 3) ls (v :: rest))) : W p l e R s m args below meth c H locs cells slots Q (F0 m pc ls (.ref q :: rest)) := by
  subst hq
  exact gw_get (ci := 7) (C := RX7) (T := TX7) (Nf := 39) hx hb hts hin hown hK hW (k := 0) (i := 0) Nat.zero_lt_one (fs := mFs z) rfl rfl f hf hlink (fun x h9 => by rw [hsame] at h9; exact h9) hv hdg kk
theorem pM_many (hx : p.tables.exec = Jvm.exec) (hb : c.code = cc) (hts : ∀ w ∈ Ts, w.before args s = true) (hin : ∀ w ∈ wsX70, w ∈ Ts) (hown : s.vm.findClass RX7 = some m.cls) (hK : va_K D vwCl (ctys y) s) (hW : mw D y A z H) (hS : va_S A H0 H locs) {q : Nat} (hq : q = mA z 0 0) {v : Int32} (hlink : (Cond.fieldLink RX7 index "SharedRegistersModel" "many" "I").before args s = true) (hdg : decode cc pc = .ok (.putfield index, 3)) (kk : ∀ (H1 : Heap) (locs1 : List Loc), mw D y A (tI z 36 0 v) H1 → va_S A H0 H1 locs1 → W p l e R s m args below meth c H1 locs1 cells slots Q (F0 m (pc + 3) ls rest)) : W p l e R s m args below meth c H locs cells slots Q (F0 m pc ls (.int v :: .ref q :: rest)) := by
  subst hq
  exact gw_put (ci := 7) (C := RX7) (T := TX7) (Nf := 39) hx hb hts hin tyX7 tyX7_ok nmX7 hown hK hW hS (k := 0) (i := 0) Nat.zero_lt_one (fs := mFs z) rfl rfl 0 (by decide) hlink (fun _ h9 => h9) rfl (ty := .int) (by decide +kernel) rfl rfl (Nat.le_of_ble_eq_true rfl) hdg (cell' := mC y (tI z 36 0 v)) rfl (fun k' i' hi' h => mC_many k' i' hi' h) (fun H1 locs1 h1 h2 => kk H1 locs1 h1 h2)
theorem pM_requests (hx : p.tables.exec = Jvm.exec) (hb : c.code = cc) (hts : ∀ w ∈ Ts, w.before args s = true) (hin : ∀ w ∈ wsX70, w ∈ Ts) (hown : s.vm.findClass RX7 = some m.cls) (hK : va_K D vwCl (ctys y) s) (hW : mw D y A z H) (hS : va_S A H0 H locs) {q : Nat} (hq : q = mA z 0 0) {v : Int32} (hlink : (Cond.fieldLink RX7 index "SharedRegistersModel" "requests" "I").before args s = true) (hdg : decode cc pc = .ok (.putfield index, 3)) (kk : ∀ (H1 : Heap) (locs1 : List Loc), mw D y A (tI z 37 0 v) H1 → va_S A H0 H1 locs1 → W p l e R s m args below meth c H1 locs1 cells slots Q (F0 m (pc + 3) ls rest)) : W p l e R s m args below meth c H locs cells slots Q (F0 m pc ls (.int v :: .ref q :: rest)) := by
  subst hq
  exact gw_put (ci := 7) (C := RX7) (T := TX7) (Nf := 39) hx hb hts hin tyX7 tyX7_ok nmX7 hown hK hW hS (k := 0) (i := 0) Nat.zero_lt_one (fs := mFs z) rfl rfl 28 (by decide) hlink (fun _ h9 => h9) rfl (ty := .int) (by decide +kernel) rfl rfl (Nat.le_of_ble_eq_true rfl) hdg (cell' := mC y (tI z 37 0 v)) rfl (fun k' i' hi' h => mC_requests k' i' hi' h) (fun H1 locs1 h1 h2 => kk H1 locs1 h1 h2)
theorem pM_thrown (hx : p.tables.exec = Jvm.exec) (hb : c.code = cc) (hts : ∀ w ∈ Ts, w.before args s = true) (hin : ∀ w ∈ wsX70, w ∈ Ts) (hown : s.vm.findClass RX7 = some m.cls) (hK : va_K D vwCl (ctys y) s) (hW : mw D y A z H) (hS : va_S A H0 H locs) {q : Nat} (hq : q = mA z 0 0) {v : Int32} (hlink : (Cond.fieldLink RX7 index "SharedRegistersModel" "thrown" "I").before args s = true) (hdg : decode cc pc = .ok (.putfield index, 3)) (kk : ∀ (H1 : Heap) (locs1 : List Loc), mw D y A (tI z 38 0 v) H1 → va_S A H0 H1 locs1 → W p l e R s m args below meth c H1 locs1 cells slots Q (F0 m (pc + 3) ls rest)) : W p l e R s m args below meth c H locs cells slots Q (F0 m pc ls (.int v :: .ref q :: rest)) := by
  subst hq
  exact gw_put (ci := 7) (C := RX7) (T := TX7) (Nf := 39) hx hb hts hin tyX7 tyX7_ok nmX7 hown hK hW hS (k := 0) (i := 0) Nat.zero_lt_one (fs := mFs z) rfl rfl 38 (by decide) hlink (fun _ h9 => h9) rfl (ty := .int) (by decide +kernel) rfl rfl (Nat.le_of_ble_eq_true rfl) hdg (cell' := mC y (tI z 38 0 v)) rfl (fun k' i' hi' h => mC_thrown k' i' hi' h) (fun H1 locs1 h1 h2 => kk H1 locs1 h1 h2)
/-- arrays by their numbers: int, boolean, long -/
theorem mil (j : Nat) (hx : p.tables.exec = Jvm.exec) (hb : c.code = cc) (hK : va_K D vwCl (ctys y) s) (hW : mw D y A z H) {q : Nat} (hq : q = mA z 1 j) (hj : j < 36) (ht : mTy j = 0) {i : Int32} (hi : vp_in i (mLen j)) (hdg : decode cc pc = .ok (.iaload, 1)) (kk : W p l e R s m args below meth c H locs cells slots Q (F0 m (pc + 1) ls (.int (mI z j i.toNatClampNeg) :: rest))) : W p l e R s m args below meth c H locs cells slots Q (F0 m pc ls (.int i :: .ref q :: rest)) := by
  subst hq
  exact gw_iald hx hb hK hW (k := 1) (i := j) hj 0 (cA := y 0) (n := mLen j) (f := mI z j) (by simp [mC, ht]) rfl hi hdg kk
theorem mzl (j : Nat) (hx : p.tables.exec = Jvm.exec) (hb : c.code = cc) (hK : va_K D vwCl (ctys y) s) (hW : mw D y A z H) {q : Nat} (hq : q = mA z 1 j) (hj : j < 36) (ht : mTy j = 2) {i : Int32} (hi : vp_in i (mLen j)) (hdg : decode cc pc = .ok (.baload, 1)) (kk : W p l e R s m args below meth c H locs cells slots Q (F0 m (pc + 1) ls (.int (mI z j i.toNatClampNeg) :: rest))) : W p l e R s m args below meth c H locs cells slots Q (F0 m pc ls (.int i :: .ref q :: rest)) := by
  subst hq
  exact gw_zald hx hb hK hW (k := 1) (i := j) hj 2 (cA := y 2) (n := mLen j) (f := mI z j) (by simp [mC, ht]) rfl hi hdg kk
theorem mll (j : Nat) (hx : p.tables.exec = Jvm.exec) (hb : c.code = cc) (hK : va_K D vwCl (ctys y) s) (hW : mw D y A z H) {q : Nat} (hq : q = mA z 1 j) (hj : j < 36) (ht : mTy j = 1) {i : Int32} (hi : vp_in i (mLen j)) (hdg : decode cc pc = .ok (.laload, 1)) (kk : W p l e R s m args below meth c H locs cells slots Q (F0 m (pc + 1) ls (.long (mJ z j i.toNatClampNeg) :: rest))) : W p l e R s m args below meth c H locs cells slots Q (F0 m pc ls (.int i :: .ref q :: rest)) := by
  subst hq
  exact gw_lald hx hb hK hW (k := 1) (i := j) hj 1 (cA := y 1) (n := mLen j) (f := mJ z j) (by simp [mC, ht]) rfl hi hdg kk
theorem mis (j : Nat) (hx : p.tables.exec = Jvm.exec) (hb : c.code = cc) (hK : va_K D vwCl (ctys y) s) (hW : mw D y A z H) (hS : va_S A H0 H locs) {q : Nat} (hq : q = mA z 1 j) (hj : j < 36) (ht : mTy j = 0) {i x : Int32} (hi : vp_in i (mLen j)) (hdg : decode cc pc = .ok (.iastore, 1)) (kk : ∀ (H1 : Heap) (locs1 : List Loc), mw D y A (tI z j i.toNatClampNeg x) H1 → va_S A H0 H1 locs1 → W p l e R s m args below meth c H1 locs1 cells slots Q (F0 m (pc + 1) ls rest)) : W p l e R s m args below meth c H locs cells slots Q (F0 m pc ls (.int x :: .int i :: .ref q :: rest)) := by
  subst hq
  exact gw_iast hx hb hK hW hS (k := 1) (i := j) hj 0 (cA := y 0) (n := mLen j) (f := mI z j) (by simp [mC, ht]) rfl hi hdg (cell' := mC y (tI z j i.toNatClampNeg x)) (f' := up2 (mI z) j i.toNatClampNeg x j) (by simp [mC, ht, tI_mI]) (fun q => by simp [up2]) (fun k' i' hi' h => mC_tI hj k' i' hi' h) (fun H1 locs1 h1 h2 => kk H1 locs1 h1 h2)
theorem mzs (j : Nat) (hx : p.tables.exec = Jvm.exec) (hb : c.code = cc) (hK : va_K D vwCl (ctys y) s) (hW : mw D y A z H) (hS : va_S A H0 H locs) {q : Nat} (hq : q = mA z 1 j) (hj : j < 36) (ht : mTy j = 2) {i x : Int32} (hi : vp_in i (mLen j)) (hbo : x = 0 ∨ x = 1) (hdg : decode cc pc = .ok (.bastore, 1)) (kk : ∀ (H1 : Heap) (locs1 : List Loc), mw D y A (tI z j i.toNatClampNeg x) H1 → va_S A H0 H1 locs1 → W p l e R s m args below meth c H1 locs1 cells slots Q (F0 m (pc + 1) ls rest)) : W p l e R s m args below meth c H locs cells slots Q (F0 m pc ls (.int x :: .int i :: .ref q :: rest)) := by
  subst hq
  exact gw_zast hx hb hK hW hS (k := 1) (i := j) hj 2 (cA := y 2) (n := mLen j) (f := mI z j) (by simp [mC, ht]) rfl hi hdg (by rcases hbo with rfl | rfl <;> rfl) (cell' := mC y (tI z j i.toNatClampNeg x)) (f' := up2 (mI z) j i.toNatClampNeg x j) (by simp [mC, ht, tI_mI]) (fun q => by simp [up2]) (fun k' i' hi' h => mC_tI hj k' i' hi' h) (fun H1 locs1 h1 h2 => kk H1 locs1 h1 h2)
theorem mls (j : Nat) (hx : p.tables.exec = Jvm.exec) (hb : c.code = cc) (hK : va_K D vwCl (ctys y) s) (hW : mw D y A z H) (hS : va_S A H0 H locs) {q : Nat} (hq : q = mA z 1 j) (hj : j < 36) (ht : mTy j = 1) {i : Int32} {x : Int64} (hi : vp_in i (mLen j)) (hdg : decode cc pc = .ok (.lastore, 1)) (kk : ∀ (H1 : Heap) (locs1 : List Loc), mw D y A (tJ z j i.toNatClampNeg x) H1 → va_S A H0 H1 locs1 → W p l e R s m args below meth c H1 locs1 cells slots Q (F0 m (pc + 1) ls rest)) : W p l e R s m args below meth c H locs cells slots Q (F0 m pc ls (.long x :: .int i :: .ref q :: rest)) := by
  subst hq
  exact gw_last hx hb hK hW hS (k := 1) (i := j) hj 1 (cA := y 1) (n := mLen j) (f := mJ z j) (by simp [mC, ht]) rfl hi hdg (cell' := mC y (tJ z j i.toNatClampNeg x)) (f' := up2 (mJ z) j i.toNatClampNeg x j) (by simp [mC, ht, tJ_mJ]) (fun q => by simp [up2]) (fun k' i' hi' h => mC_tJ k' i' hi' h) (fun H1 locs1 h1 h2 => kk H1 locs1 h1 h2)
theorem mil_n (j : Nat) (hx : p.tables.exec = Jvm.exec) (hb : c.code = cc) (hK : va_K D vwCl (ctys y) s) (hW : mw D y A z H) {q : Nat} (hq : q = mA z 1 j) (hj : j < 36) (ht : mTy j = 0) {i : Nat} (hi : i < mLen j) (hl3 : mLen j < 2 ^ 31) (hdg : decode cc pc = .ok (.iaload, 1)) (kk : W p l e R s m args below meth c H locs cells slots Q (F0 m (pc + 1) ls (.int (mI z j i) :: rest))) : W p l e R s m args below meth c H locs cells slots Q (F0 m pc ls (.int (nI i) :: .ref q :: rest)) := by
  refine mil j hx hb hK hW hq hj ht (vp_in_nI hi hl3) hdg ?_
  rw [nI_clamp (Nat.lt_trans hi hl3)]; exact kk
theorem mzl_n (j : Nat) (hx : p.tables.exec = Jvm.exec) (hb : c.code = cc) (hK : va_K D vwCl (ctys y) s) (hW : mw D y A z H) {q : Nat} (hq : q = mA z 1 j) (hj : j < 36) (ht : mTy j = 2) {i : Nat} (hi : i < mLen j) (hl3 : mLen j < 2 ^ 31) (hdg : decode cc pc = .ok (.baload, 1)) (kk : W p l e R s m args below meth c H locs cells slots Q (F0 m (pc + 1) ls (.int (mI z j i) :: rest))) : W p l e R s m args below meth c H locs cells slots Q (F0 m pc ls (.int (nI i) :: .ref q :: rest)) := by
  refine mzl j hx hb hK hW hq hj ht (vp_in_nI hi hl3) hdg ?_
  rw [nI_clamp (Nat.lt_trans hi hl3)]; exact kk
theorem mll_n (j : Nat) (hx : p.tables.exec = Jvm.exec) (hb : c.code = cc) (hK : va_K D vwCl (ctys y) s) (hW : mw D y A z H) {q : Nat} (hq : q = mA z 1 j) (hj : j < 36) (ht : mTy j = 1) {i : Nat} (hi : i < mLen j) (hl3 : mLen j < 2 ^ 31) (hdg : decode cc pc = .ok (.laload, 1)) (kk : W p l e R s m args below meth c H locs cells slots Q (F0 m (pc + 1) ls (.long (mJ z j i) :: rest))) : W p l e R s m args below meth c H locs cells slots Q (F0 m pc ls (.int (nI i) :: .ref q :: rest)) := by
  refine mll j hx hb hK hW hq hj ht (vp_in_nI hi hl3) hdg ?_
  rw [nI_clamp (Nat.lt_trans hi hl3)]; exact kk
theorem mis_n (j : Nat) (hx : p.tables.exec = Jvm.exec) (hb : c.code = cc) (hK : va_K D vwCl (ctys y) s) (hW : mw D y A z H) (hS : va_S A H0 H locs) {q : Nat} (hq : q = mA z 1 j) (hj : j < 36) (ht : mTy j = 0) {i : Nat} {x : Int32} (hi : i < mLen j) (hl3 : mLen j < 2 ^ 31) (hdg : decode cc pc = .ok (.iastore, 1)) (kk : ∀ (H1 : Heap) (locs1 : List Loc), mw D y A (tI z j i x) H1 → va_S A H0 H1 locs1 → W p l e R s m args below meth c H1 locs1 cells slots Q (F0 m (pc + 1) ls rest)) : W p l e R s m args below meth c H locs cells slots Q (F0 m pc ls (.int x :: .int (nI i) :: .ref q :: rest)) := by
  refine mis j hx hb hK hW hS hq hj ht (vp_in_nI hi hl3) hdg (fun H1 locs1 h1 h2 => ?_)
  rw [nI_clamp (Nat.lt_trans hi hl3)] at h1; exact kk H1 locs1 h1 h2
theorem mzs_n (j : Nat) (hx : p.tables.exec = Jvm.exec) (hb : c.code = cc) (hK : va_K D vwCl (ctys y) s) (hW : mw D y A z H) (hS : va_S A H0 H locs) {q : Nat} (hq : q = mA z 1 j) (hj : j < 36) (ht : mTy j = 2) {i : Nat} {x : Int32} (hi : i < mLen j) (hl3 : mLen j < 2 ^ 31) (hbo : x = 0 ∨ x = 1) (hdg : decode cc pc = .ok (.bastore, 1)) (kk : ∀ (H1 : Heap) (locs1 : List Loc), mw D y A (tI z j i x) H1 → va_S A H0 H1 locs1 → W p l e R s m args below meth c H1 locs1 cells slots Q (F0 m (pc + 1) ls rest)) : W p l e R s m args below meth c H locs cells slots Q (F0 m pc ls (.int x :: .int (nI i) :: .ref q :: rest)) := by
  refine mzs j hx hb hK hW hS hq hj ht (vp_in_nI hi hl3) hbo hdg (fun H1 locs1 h1 h2 => ?_)
  rw [nI_clamp (Nat.lt_trans hi hl3)] at h1; exact kk H1 locs1 h1 h2
theorem mls_n (j : Nat) (hx : p.tables.exec = Jvm.exec) (hb : c.code = cc) (hK : va_K D vwCl (ctys y) s) (hW : mw D y A z H) (hS : va_S A H0 H locs) {q : Nat} (hq : q = mA z 1 j) (hj : j < 36) (ht : mTy j = 1) {i : Nat} {x : Int64} (hi : i < mLen j) (hl3 : mLen j < 2 ^ 31) (hdg : decode cc pc = .ok (.lastore, 1)) (kk : ∀ (H1 : Heap) (locs1 : List Loc), mw D y A (tJ z j i x) H1 → va_S A H0 H1 locs1 → W p l e R s m args below meth c H1 locs1 cells slots Q (F0 m (pc + 1) ls rest)) : W p l e R s m args below meth c H locs cells slots Q (F0 m pc ls (.long x :: .int (nI i) :: .ref q :: rest)) := by
  refine mls j hx hb hK hW hS hq hj ht (vp_in_nI hi hl3) hdg (fun H1 locs1 h1 h2 => ?_)
  rw [nI_clamp (Nat.lt_trans hi hl3)] at h1; exact kk H1 locs1 h1 h2
end MR
def mF (z : MS) (sz : Nat) : Nat → Prop := gA (mA z) (mN z) sz
def mPre (D : va_G) (y : Nat → ClassId) (z : MS) (sz : Nat) (U : State) : Prop := U.heap.size = sz ∧ mw D y (fun _ => True) z U.heap ∧ kK D y U
def mQ1 (D : va_G) (y : Nat → ClassId) (z : MS) (sz : Nat) (post : Value → MS → Prop) : Array Value → State → Outcome → State → Prop := fun _ st oc t => (∃ (v : Value) (u : MS), oc = .returned (some v) ∧ post v u ∧ mw D y (mF z sz) u t.heap) ∧ va_F (mF z sz) st t
def mQ0 (D : va_G) (y : Nat → ClassId) (z : MS) (sz : Nat) (post : MS → Prop) : Array Value → State → Outcome → State → Prop := fun _ st oc t => (∃ u : MS, oc = .returned none ∧ post u ∧ mw D y (mF z sz) u t.heap) ∧ va_F (mF z sz) st t
section MW
variable {D : va_G} {y : Nat → ClassId} {A B : Nat → Prop} {z u : MS} {H H0 : Heap} {locs : List Loc} {s : State}
theorem mw.all (h : mw D y A z H) : mw D y (fun _ => True) z H := gw.all h
theorem mw.self {sz : Nat} (h : mw D y A z H) : mw D y (mF z sz) z H := gw.self h
theorem mw.weaken (h : mw D y A z H) (hAB : ∀ q, A q → B q) : mw D y B z H := gw.weaken h hAB
theorem mw.free (h : mw D y A z H) (hS : va_S A H0 H locs) (hA : ∀ q, H0.size ≤ q → A q) : ∀ q, mF z H.size q → A q := gw.free h hS hA
theorem mBlind (As : List Value) (sz : Nat) : FrameBlind (va_Pc As (mPre D y z sz)) := fun a U g mk h => ⟨h.1, h.2.1, h.2.2.1, h.2.2.2.call g mk a⟩
theorem mPreS (hW : mw D y A z H) (hK : kK D y s) (As : List Value) : PreS s H (va_Pc As (mPre D y z H.size)) As := ⟨mBlind As H.size, fun U hU hw => ⟨rfl, by rw [hU], by rw [hU]; exact hW.all, hK.warm hw⟩⟩
theorem mPreV (hW : mw D y A z H) (hK : kK D y s) {k i : Nat} (hi : i < mN z k) {fs : List Value} {q : vw_C} {ci : Nat} (he : mC y z k i = .inr (ci, fs)) (hc : vwCl[ci]? = some q) (As : List Value) : PreV s H q.1 (mA z k i) (va_Pc (.ref (mA z k i) :: As) (mPre D y z H.size)) As :=
  ⟨mBlind _ H.size, va_recv hK.1 (gw_one hW hi) (q0 := 0) hc (by rw [he]; rfl), fun U hU hw => ⟨rfl, by rw [hU], by rw [hU]; exact hW.all, hK.warm hw⟩⟩
theorem mq1 {post : Value → MS → Prop} {v : Value} {args : Array Value} (hp : post v u) (hW : mw D y (mF z s.heap.size) u H) (hS : va_S (mF z s.heap.size) s.heap H locs) : ∀ t : State, t.heap = H → s.WarmedH t.vm → mQ1 D y z s.heap.size post args s (.returned (some v)) t := fun t ht _ => ⟨⟨v, u, rfl, hp, by rw [ht]; exact hW⟩, hS.F ht⟩
theorem mq0 {post : MS → Prop} {args : Array Value} (hp : post u) (hW : mw D y (mF z s.heap.size) u H) (hS : va_S (mF z s.heap.size) s.heap H locs) : ∀ t : State, t.heap = H → s.WarmedH t.vm → mQ0 D y z s.heap.size post args s (.returned none) t := fun t ht _ => ⟨⟨u, rfl, hp, by rw [ht]; exact hW⟩, hS.F ht⟩
end MW
section MCC
variable {p : Program} {l : Launch} {e : Env} {R : Room} {s : State} {m : MethodId} {args : Array Value} {below : List Frame} {meth : Method} {c : Code} {H : Heap} {locs : List Loc} {cells slots : Nat} {Q : State → Prop}
variable {pc : Nat} {ls : Array Slot} {rest st0 : List Value} {a : Array Value} {D : va_G} {A : Nat → Prop} {y : Nat → ClassId} {z : MS} {H0 : Heap} {mc ms : Nat}
theorem mc1 {post : Value → MS → Prop} (hr : va_Run p l e R s m args below meth c H locs cells slots mc ms (F0 m pc ls st0) rest (mQ1 D y z H.size post a) (mF z H.size)) (hW : mw D y A z H) (hS : va_S A H0 H locs) (hA : ∀ q, H0.size ≤ q → A q)
    (kk : ∀ (v : Value) (u : MS) (H1 : Heap) (locs1 : List Loc), post v u → mw D y A u H1 → va_S A H0 H1 locs1 → W p l e R s m args below meth c H1 locs1 (cells + mc) (slots + ms) Q (F0 m (pc + 3) ls (v :: rest))) : W p l e R s m args below meth c H locs cells slots Q (F0 m pc ls st0) := by
  intro T hT X
  obtain ⟨v0, st₀, t, T', L, h0, X', hL, e1, e2, ⟨⟨v, u, hv, hp, hb⟩, hz, hk⟩, st⟩ := hr T hT X
  cases hv
  rw [h0] at hz hk
  have hF := hW.free hS hA
  obtain ⟨t2, a1, b1⟩ := kk v u T'.heap (locs ++ L) hp (by rw [e1]; exact hb.weaken hF)
    ⟨Nat.le_trans hS.1 (by rw [e1]; exact hz), fun q h1 h2 => by rw [e1, hk q (Nat.lt_of_lt_of_le h1 hS.1) (fun z9 => h2 (hF q z9))]; exact hS.2.1 q h1 h2, fun q hq => by
      rcases List.mem_append.mp hq with h | h
      · exact hS.2.2 q h
      · exact hF _ (hL q h)⟩ T' rfl X'
  exact ⟨t2, st t2 a1, b1⟩
theorem mc0 {post : MS → Prop} (hr : va_Run p l e R s m args below meth c H locs cells slots mc ms (F0 m pc ls st0) rest (mQ0 D y z H.size post a) (mF z H.size)) (hW : mw D y A z H) (hS : va_S A H0 H locs) (hA : ∀ q, H0.size ≤ q → A q)
    (kk : ∀ (u : MS) (H1 : Heap) (locs1 : List Loc), post u → mw D y A u H1 → va_S A H0 H1 locs1 → W p l e R s m args below meth c H1 locs1 (cells + mc) (slots + ms) Q (F0 m (pc + 3) ls rest)) : W p l e R s m args below meth c H locs cells slots Q (F0 m pc ls st0) := by
  intro T hT X
  obtain ⟨v0, st₀, t, T', L, h0, X', hL, e1, e2, ⟨⟨u, hv, hp, hb⟩, hz, hk⟩, st⟩ := hr T hT X
  cases hv
  rw [h0] at hz hk
  have hF := hW.free hS hA
  obtain ⟨t2, a1, b1⟩ := kk u T'.heap (locs ++ L) hp (by rw [e1]; exact hb.weaken hF)
    ⟨Nat.le_trans hS.1 (by rw [e1]; exact hz), fun q h1 h2 => by rw [e1, hk q (Nat.lt_of_lt_of_le h1 hS.1) (fun z9 => h2 (hF q z9))]; exact hS.2.1 q h1 h2, fun q hq => by
      rcases List.mem_append.mp hq with h | h
      · exact hS.2.2 q h
      · exact hF _ (hL q h)⟩ T' rfl X'
  exact ⟨t2, st t2 a1, b1⟩
end MCC

