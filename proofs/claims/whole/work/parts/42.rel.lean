def small (x : Int32) : Prop := ∃ v : Nat, v < 512 ∧ x = nI v
set_option maxRecDepth 100000 in
theorem sm_bits : ∀ v : Fin 512, fBC (nI v.val) = mBits 9 (nI v.val) 0 0 := by decide +kernel
set_option maxRecDepth 100000 in
theorem sm_test : ∀ v : Fin 512, ∀ k : Fin 9, (nI v.val &&& ((1 : Int32) <<< (nI k.val &&& 31)) = 0) ↔ ¬ (nI v.val >>> (nI k.val &&& 31) &&& 1) = 1 := by decide +kernel
set_option maxRecDepth 100000 in
theorem sm_or : ∀ v : Fin 512, ∀ k : Fin 9, (nI v.val ||| ((1 : Int32) <<< (nI k.val &&& 31))) = nI (v.val ||| 2 ^ k.val) := by decide +kernel
theorem bits_eq {x : Int32} (h : small x) : fBC x = mBits 9 x 0 0 := by
  obtain ⟨v, hv, rfl⟩ := h; exact sm_bits ⟨v, hv⟩
theorem bit_test {x : Int32} {k : Nat} (h : small x) (hk : k < 9) : (x &&& ((1 : Int32) <<< (nI k &&& 31)) = 0) ↔ ¬ (x >>> (nI k &&& 31) &&& 1) = 1 := by
  obtain ⟨v, hv, rfl⟩ := h; exact sm_test ⟨v, hv⟩ ⟨k, hk⟩
theorem small_or {x : Int32} {k : Nat} (h : small x) (hk : k < 9) : small (x ||| ((1 : Int32) <<< (nI k &&& 31))) := by
  obtain ⟨v, hv, rfl⟩ := h
  have h2 : (2 : Nat) ^ k < 2 ^ 9 := Nat.pow_lt_pow_right (by decide) hk
  exact ⟨v ||| 2 ^ k, Nat.or_lt_two_pow (n := 9) hv h2, sm_or ⟨v, hv⟩ ⟨k, hk⟩⟩
theorem small_0 : small 0 := ⟨0, by decide, rfl⟩
theorem small_G {x : Int32} (h : inG x 1 511) : small x := by
  have h0 : ¬ x < 0 := fun q => h.1 (Int32.lt_trans q (by decide))
  obtain ⟨j, hj, rfl⟩ := nI_of2 (M := 511) (n := 511) (by decide) h0 h.2
  exact ⟨j, by omega, rfl⟩
/-! THE RELATION between the class's state and the reference's -/
/-- the class's state number st holds what the reference holds: there or not, version, value -/
def stM (z : CS) (st : Nat) (te ve : Int32) (va : Int64) : Prop := st < cNs z ∧ cI z 26 st = te ∧ (te = 0 ∨ te = 1) ∧ (te = 1 → cI z 27 st = ve ∧ cJ z 1 st = va) ∧ (te = 0 → cI z 27 st = 0 ∧ cJ z 1 st = 0)
def RegOk (z : CS) (t : MS) (p : Nat) : Prop := cI z 0 p = mI t 9 p ∧ cI z 1 p = mI t 10 p ∧ stM z (cS z 0 p) (mI t 11 p) (mI t 12 p) (mJ t 13 p)
def DnOk (z : CS) (t : MS) (k : Nat) : Prop := cI z 29 k = mI t 8 k
def CurOk (z : CS) (t : MS) (a r : Nat) : Prop := r < cNr z ∧ mI t 19 a = nI r ∧ cI z 13 r = nI a ∧ cI z 24 r = 0 ∧ cI z 20 r = mI t 20 a ∧ (mI t 20 a = 0 ∨ mI t 20 a = 1) ∧ cI z 21 r = mI t 21 a ∧ small (mI t 21 a) ∧ cI z 22 r = mI t 22 a ∧ (∃ st, cR z 3 r = some st ∧ stM z st (mI t 23 a) (mI t 24 a) (mJ t 25 a)) ∧ cI z 17 r = mI t 18 (2 * a) ∧ cI z 18 r = mI t 17 (2 * a + 1) ∧ small (mI t 17 (2 * a + 1)) ∧ cI z 19 r = mI t 18 (2 * a + 1) ∧ (mI t 20 a = 1 → cI z 23 r = mI t 26 a)
def PlanOk (z : CS) (t : MS) (a : Nat) : Prop := ∀ j, j < 2 → cE z 0 a j = mI t 15 (2 * a + j) ∧ cE z 1 a j = mI t 16 (2 * a + j) ∧ small (mI t 15 (2 * a + j))
def NowOk (z : CS) (t : MS) (a : Nat) : Prop := (cR z 1 a = none ∧ mI t 19 a = -1) ∨ ∃ r, cR z 1 a = some r ∧ CurOk z t a r
def AskOk (z : CS) (t : MS) (a : Nat) : Prop := cI z 2 a = nI a ∧ cI z 3 a = mI t 14 a ∧ PlanOk z t a ∧ NowOk z t a
def EndOk (z : CS) (t : MS) (r : Nat) : Prop := mI t 31 r = 1 → cI z 23 r = mI t 32 r ∧ ∃ st, cR z 3 r = some st ∧ stM z st (mI t 33 r) (mI t 34 r) (mJ t 35 r)
def ReqOk (z : CS) (t : MS) (r : Nat) : Prop := cR z 6 r = some r ∧ cI z 12 r = nI r ∧ cI z 14 r = mI t 27 r ∧ (∃ ky, ky < 4 ∧ mI t 27 r = nI ky) ∧ cI z 15 r = mI t 28 r ∧ (∃ ch, ch < 7 ∧ mI t 28 r = nI ch) ∧ cJ z 0 r = mJ t 29 r ∧ cI z 16 r = mI t 30 r ∧ cI z 24 r = mI t 31 r ∧ EndOk z t r
def MsgOk (z : CS) (t : MS) (m j : Nat) : Prop := ∃ so a k r, so < 5 ∧ a < 4 ∧ k < 9 ∧ r < cNr z ∧ mI t 0 j = nI so ∧ mI t 1 j = nI a ∧ mI t 2 j = nI k ∧ mI t 3 j = nI r ∧ cI z 6 m = nI so ∧ cI z 7 m = nI a ∧ cI z 8 m = nI k ∧ cI z 9 m = nI r ∧ cI z 10 m = cI z 14 r ∧ cI z 11 m = mI t 4 j ∧ stM z (cS z 2 m) (mI t 5 j) (mI t 6 j) (mJ t 7 j)
def Rrow (z : CS) (t : MS) (n : Nat) : Prop := RowOk z n ∧ (∀ i j, i < 301 → j < 301 → cS z 3 i = cS z 3 j → i = j) ∧ mI t 36 0 = nI n ∧ ∀ j, j < n → MsgOk z t (cS z 3 j) j
def Rrest (z : CS) (t : MS) : Prop := (cNr z ≤ 200 ∧ cI z 28 0 = nI (cNr z) ∧ mI t 37 0 = nI (cNr z) ∧ cI z 26 0 = 0) ∧ (∀ p, p < 36 → RegOk z t p) ∧ (∀ k, k < 9 → DnOk z t k) ∧ (∀ a, a < 4 → AskOk z t a) ∧ ∀ r, r < cNr z → ReqOk z t r
def RR (z : CS) (t : MS) (n : Nat) : Prop := Rrow z t n ∧ cInv z ∧ MB t ∧ Rrest z t
/-- all but the row is the same -/
def cSame (z u : CS) : Prop := cNr u = cNr z ∧ cNs u = cNs z ∧ cR u = cR z ∧ cJ u = cJ z ∧ cE u = cE z ∧ (∀ i, cS u 0 i = cS z 0 i) ∧ ∀ f i, ¬ (6 ≤ f ∧ f ≤ 11) → f ≠ 25 → cI u f i = cI z f i
def mSame (t s : MS) : Prop := (∀ f i, 7 < f → f ≠ 36 → f ≠ 38 → mI s f i = mI t f i) ∧ ∀ f i, 7 < f → mJ s f i = mJ t f i
theorem cSame.rf (z : CS) : cSame z z := ⟨rfl, rfl, rfl, rfl, rfl, fun _ => rfl, fun _ _ _ _ => rfl⟩
theorem cSame.tr {z u w : CS} (h : cSame z u) (g : cSame u w) : cSame z w := ⟨g.1.trans h.1, g.2.1.trans h.2.1, g.2.2.1.trans h.2.2.1, g.2.2.2.1.trans h.2.2.2.1, g.2.2.2.2.1.trans h.2.2.2.2.1, fun i => (g.2.2.2.2.2.1 i).trans (h.2.2.2.2.2.1 i), fun f i a b => (g.2.2.2.2.2.2 f i a b).trans (h.2.2.2.2.2.2 f i a b)⟩
theorem mSame.rf (t : MS) : mSame t t := ⟨fun _ _ _ _ _ => rfl, fun _ _ _ => rfl⟩
theorem mSame.tr {t s w : MS} (h : mSame t s) (g : mSame s w) : mSame t w := ⟨fun f i a b c => (g.1 f i a b c).trans (h.1 f i a b c), fun f i a => (g.2 f i a).trans (h.2 f i a)⟩
theorem stM.same {z u : CS} {st : Nat} {te ve : Int32} {va : Int64} (h : stM z st te ve va) (hs : cNs z ≤ cNs u) (h6 : cI u 26 st = cI z 26 st) (h7 : cI u 27 st = cI z 27 st) (hj : cJ u 1 st = cJ z 1 st) : stM u st te ve va := by
  unfold stM at *; rw [h6, h7, hj]; exact ⟨Nat.lt_of_lt_of_le h.1 hs, h.2⟩
theorem cSame.st {z u : CS} (h : cSame z u) {st : Nat} {te ve : Int32} {va : Int64} (hs : stM z st te ve va) : stM u st te ve va := hs.same (Nat.le_of_eq h.2.1.symm) (h.2.2.2.2.2.2 _ _ (by decide) (by decide)) (h.2.2.2.2.2.2 _ _ (by decide) (by decide)) (by rw [h.2.2.2.1])
theorem RegOk.keep {z u : CS} {t s : MS} {p : Nat} (h : RegOk z t p) (h0 : cI u 0 p = cI z 0 p) (h1 : cI u 1 p = cI z 1 p) (hS : cS u 0 p = cS z 0 p) (hst : ∀ st te ve va, stM z st te ve va → stM u st te ve va) (hm : ∀ f, 9 ≤ f → f ≤ 12 → mI s f p = mI t f p) (hj : mJ s 13 p = mJ t 13 p) : RegOk u s p := by
  unfold RegOk at *
  rw [h0, h1, hS, hm 9 (by decide) (by decide), hm 10 (by decide) (by decide), hm 11 (by decide) (by decide), hm 12 (by decide) (by decide), hj]
  exact ⟨h.1, h.2.1, hst _ _ _ _ h.2.2⟩
theorem CurOk.keep {z u : CS} {t s : MS} {a r : Nat} (h : CurOk z t a r) (hN : cNr z ≤ cNr u) (hI : ∀ f, 13 ≤ f → f ≤ 24 → cI u f r = cI z f r) (hR : cR u 3 r = cR z 3 r) (hst : ∀ st te ve va, stM z st te ve va → stM u st te ve va) (hm : ∀ f i, 17 ≤ f → f ≤ 26 → i = a ∨ i = 2 * a ∨ i = 2 * a + 1 → (((f = 17 ∨ f = 18) ∧ (i = 2 * a ∨ i = 2 * a + 1)) ∨ (f ≠ 17 ∧ f ≠ 18 ∧ i = a)) → mI s f i = mI t f i) (hj : mJ s 25 a = mJ t 25 a) : CurOk u s a r := by
  obtain ⟨h1, h2, h3, h4, h5, h6, h7, h8, h9, ⟨st, h10, h11⟩, h12, h13, h14, h15, h16⟩ := h
  unfold CurOk
  rw [hR, hI 13 (by decide) (by decide), hI 24 (by decide) (by decide), hI 20 (by decide) (by decide), hI 21 (by decide) (by decide), hI 22 (by decide) (by decide), hI 17 (by decide) (by decide), hI 18 (by decide) (by decide), hI 19 (by decide) (by decide), hI 23 (by decide) (by decide), hm 19 a (by decide) (by decide) (Or.inl rfl) (Or.inr ⟨by decide, by decide, rfl⟩), hm 20 a (by decide) (by decide) (Or.inl rfl) (Or.inr ⟨by decide, by decide, rfl⟩), hm 21 a (by decide) (by decide) (Or.inl rfl) (Or.inr ⟨by decide, by decide, rfl⟩), hm 22 a (by decide) (by decide) (Or.inl rfl) (Or.inr ⟨by decide, by decide, rfl⟩), hm 23 a (by decide) (by decide) (Or.inl rfl) (Or.inr ⟨by decide, by decide, rfl⟩), hm 24 a (by decide) (by decide) (Or.inl rfl) (Or.inr ⟨by decide, by decide, rfl⟩), hj, hm 18 (2 * a) (by decide) (by decide) (Or.inr (Or.inl rfl)) (Or.inl ⟨Or.inr rfl, Or.inl rfl⟩), hm 17 (2 * a + 1) (by decide) (by decide) (Or.inr (Or.inr rfl)) (Or.inl ⟨Or.inl rfl, Or.inr rfl⟩), hm 18 (2 * a + 1) (by decide) (by decide) (Or.inr (Or.inr rfl)) (Or.inl ⟨Or.inr rfl, Or.inr rfl⟩), hm 26 a (by decide) (by decide) (Or.inl rfl) (Or.inr ⟨by decide, by decide, rfl⟩)]
  exact ⟨Nat.lt_of_lt_of_le h1 hN, h2, h3, h4, h5, h6, h7, h8, h9, ⟨st, h10, hst _ _ _ _ h11⟩, h12, h13, h14, h15, h16⟩
theorem PlanOk.keep {z u : CS} {t s : MS} {a : Nat} (h : PlanOk z t a) (hE : ∀ f j, cE u f a j = cE z f a j) (hm : ∀ f j, f = 15 ∨ f = 16 → j < 2 → mI s f (2 * a + j) = mI t f (2 * a + j)) : PlanOk u s a := by
  intro j hj
  rw [hE, hE, hm 15 j (Or.inl rfl) hj, hm 16 j (Or.inr rfl) hj]
  exact h j hj
theorem NowOk.keep {z u : CS} {t s : MS} {a : Nat} (h : NowOk z t a) (hR1 : cR u 1 a = cR z 1 a) (h19 : mI s 19 a = mI t 19 a) (hc : ∀ r, cR z 1 a = some r → CurOk z t a r → CurOk u s a r) : NowOk u s a := by
  unfold NowOk at *
  rw [hR1, h19]
  rcases h with q | ⟨r, q1, q2⟩
  · exact Or.inl q
  · exact Or.inr ⟨r, q1, hc r q1 q2⟩
theorem ReqOk.keep {z u : CS} {t s : MS} {r : Nat} (h : ReqOk z t r) (hR6 : cR u 6 r = cR z 6 r) (hI : ∀ f, f = 12 ∨ f = 14 ∨ f = 15 ∨ f = 16 ∨ f = 24 → cI u f r = cI z f r) (hJ : cJ u 0 r = cJ z 0 r) (hm : ∀ f, 27 ≤ f → f ≤ 34 → mI s f r = mI t f r) (hj : ∀ f, f = 29 ∨ f = 35 → mJ s f r = mJ t f r) (hE : mI t 31 r = 1 → cI u 23 r = cI z 23 r ∧ cR u 3 r = cR z 3 r) (hst : ∀ st te ve va, stM z st te ve va → stM u st te ve va) : ReqOk u s r := by
  obtain ⟨h1, h2, h3, h4, h5, h6, h7, h8, h9, h10⟩ := h
  unfold ReqOk EndOk
  rw [hR6, hJ, hI 12 (by simp), hI 14 (by simp), hI 15 (by simp), hI 16 (by simp), hI 24 (by simp), hm 27 (by decide) (by decide), hm 28 (by decide) (by decide), hj 29 (by simp), hm 30 (by decide) (by decide), hm 31 (by decide) (by decide), hm 32 (by decide) (by decide), hm 33 (by decide) (by decide), hm 34 (by decide) (by decide), hj 35 (by simp)]
  refine ⟨h1, h2, h3, h4, h5, h6, h7, h8, h9, fun q => ?_⟩
  obtain ⟨q1, st, q2, q3⟩ := h10 q
  obtain ⟨g1, g2⟩ := hE q
  rw [g1, g2]
  exact ⟨q1, st, q2, hst _ _ _ _ q3⟩
theorem Rrest.same {z u : CS} {t s : MS} (h : Rrest z t) (hc : cSame z u) (hm : mSame t s) : Rrest u s := by
  obtain ⟨⟨h0, h1, h2, h26⟩, h3, h4, h5, h6⟩ := h
  have e7 := hc.2.2.2.2.2.2
  have hst : ∀ st te ve va, stM z st te ve va → stM u st te ve va := fun st te ve va q => hc.st q
  refine ⟨⟨by rw [hc.1]; exact h0, by rw [hc.1, e7 28 0 (by decide) (by decide)]; exact h1, by rw [hc.1, hm.1 37 0 (by decide) (by decide) (by decide)]; exact h2, by rw [e7 26 0 (by decide) (by decide)]; exact h26⟩, fun p hp => ?_, fun k hk => ?_, fun a ha => ?_, fun r hr => ?_⟩
  · exact (h3 p hp).keep (e7 0 p (by decide) (by decide)) (e7 1 p (by decide) (by decide)) (hc.2.2.2.2.2.1 p) hst (fun f g1 g2 => hm.1 f p (by omega) (by omega) (by omega)) (hm.2 13 p (by decide))
  · unfold DnOk; rw [e7 29 k (by decide) (by decide), hm.1 8 k (by decide) (by decide) (by decide)]; exact h4 k hk
  · obtain ⟨a1, a2, a3, a4⟩ := h5 a ha
    refine ⟨(e7 2 a (by decide) (by decide)).trans a1, by rw [e7 3 a (by decide) (by decide), hm.1 14 a (by decide) (by decide) (by decide)]; exact a2, a3.keep (fun f j => by rw [hc.2.2.2.2.1]) (fun f j g _ => hm.1 f _ (by omega) (by omega) (by omega)), a4.keep (by rw [hc.2.2.1]) (hm.1 19 a (by decide) (by decide) (by decide)) (fun r _ q => q.keep (Nat.le_of_eq hc.1.symm) (fun f g1 g2 => e7 f r (by omega) (by omega)) (by rw [hc.2.2.1]) hst (fun f i g1 g2 _ _ => hm.1 f i (by omega) (by omega) (by omega)) (hm.2 25 a (by decide)))⟩
  · rw [hc.1] at hr
    exact (h6 r hr).keep (by rw [hc.2.2.1]) (fun f g => e7 f r (by omega) (by omega)) (by rw [hc.2.2.2.1]) (fun f g1 g2 => hm.1 f r (by omega) (by omega) (by omega)) (fun f g => hm.2 f r (by omega)) (fun _ => ⟨e7 23 r (by decide) (by decide), by rw [hc.2.2.1]⟩) hst
/-- a message is kept, where the row's part of the states, the requests' keys and the kept states are -/
theorem MsgOk.keep {z u : CS} {t s : MS} {m m' j j' : Nat} (h : MsgOk z t m j) (h6 : ∀ f, 6 ≤ f → f ≤ 11 → cI u f m' = cI z f m) (hS : cS u 2 m' = cS z 2 m) (h14 : ∀ r, r < cNr z → cI u 14 r = cI z 14 r) (hr : cNr z ≤ cNr u) (hst : ∀ st te ve va, stM z st te ve va → stM u st te ve va) (hm : ∀ f, f ≤ 6 → mI s f j' = mI t f j) (hj : mJ s 7 j' = mJ t 7 j) : MsgOk u s m' j' := by
  obtain ⟨so, a, k, r, a1, a2, a3, a4, b1, b2, b3, b4, c1, c2, c3, c4, c5, c6, c7⟩ := h
  refine ⟨so, a, k, r, a1, a2, a3, Nat.lt_of_lt_of_le a4 hr, ?_⟩
  rw [hm 0 (by decide), hm 1 (by decide), hm 2 (by decide), hm 3 (by decide), hm 4 (by decide), hm 5 (by decide), hm 6 (by decide), hj, h6 6 (by decide) (by decide), h6 7 (by decide) (by decide), h6 8 (by decide) (by decide), h6 9 (by decide) (by decide), h6 10 (by decide) (by decide), h6 11 (by decide) (by decide), h14 r a4, hS]
  exact ⟨b1, b2, b3, b4, c1, c2, c3, c4, c5, c6, hst _ _ _ _ c7⟩
/-- the row is kept, where what it lies on is -/
theorem Rrow.keep {z u : CS} {t s : MS} {n : Nat} (h : Rrow z t n) (h6 : ∀ f i, (6 ≤ f ∧ f ≤ 11) ∨ f = 25 → cI u f i = cI z f i) (hS2 : ∀ i, cS u 2 i = cS z 2 i) (hS3 : ∀ i, cS u 3 i = cS z 3 i) (h14 : ∀ r, r < cNr z → cI u 14 r = cI z 14 r) (hr : cNr z ≤ cNr u) (hst : ∀ st te ve va, stM z st te ve va → stM u st te ve va) (hm : ∀ f i, f ≤ 6 ∨ f = 36 → mI s f i = mI t f i) (hj : ∀ i, mJ s 7 i = mJ t 7 i) : Rrow u s n := by
  obtain ⟨⟨a1, a2, a3⟩, b, c, d⟩ := h
  refine ⟨⟨by rw [h6 25 0 (Or.inr rfl)]; exact a1, a2, fun j hj => by rw [hS3]; exact a3 j hj⟩, fun i j hi hj e => b i j hi hj (by rw [hS3, hS3] at e; exact e), by rw [hm 36 0 (Or.inr rfl)]; exact c, fun j hj1 => ?_⟩
  rw [hS3]
  exact (d j hj1).keep (fun f g1 g2 => h6 f _ (Or.inl ⟨g1, g2⟩)) (hS2 _) h14 hr hst (fun f hf => hm f j (Or.inl hf)) (hj j)
