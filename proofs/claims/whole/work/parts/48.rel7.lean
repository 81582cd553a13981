/-- one register catches up with another -/
theorem RR_catch {z : CS} {t : MS} {n p q : Nat} (h : RR z t n) (hp : p < 36) (hq : q < 36) : RR (fCatch z p q) (mCatch t p q) n := by
  have rp := h.2.2.2.2.1 p hp
  have rq := h.2.2.2.2.1 q hq
  unfold fCatch mCatch
  rw [rp.2.1, rq.2.1]
  by_cases hc : mI t 10 q ≤ mI t 10 p
  · rw [if_pos hc, if_neg (Int32.not_lt.mpr hc)]; exact h
  · rw [if_neg hc, if_pos (Int32.not_le.mp hc), rp.1, rq.1]
    have hmax : (if mI t 9 p < mI t 9 q then mI t 9 q else mI t 9 p) = (if mI t 9 q ≤ mI t 9 p then mI t 9 p else mI t 9 q) := by
      by_cases g : mI t 9 q ≤ mI t 9 p
      · rw [if_pos g, if_neg (Int32.not_lt.mpr g)]
      · rw [if_neg g, if_pos (Int32.not_le.mp g)]
    rw [hmax]
    generalize hM : (if mI t 9 q ≤ mI t 9 p then mI t 9 p else mI t 9 q) = M
    generalize hu : sI (sS (sI z 1 p (mI t 10 q)) 0 p (cS z 0 q)) 0 p M = u
    have eI : ∀ f i, ¬ ((f = 0 ∨ f = 1) ∧ i = p) → cI u f i = cI z f i := fun f i g => by rw [← hu]; simp only [sI_cI, sS_cI]; rw [up2_n (by omega), up2_n (by omega)]
    have eS : ∀ f i, ¬ (f = 0 ∧ i = p) → cS u f i = cS z f i := fun f i g => by rw [← hu]; simp only [sI_cS, sS_cS]; rw [up2_n g]
    have hst : ∀ st te ve va, stM z st te ve va → stM u st te ve va := fun st te ve va x => x.same (by rw [← hu]; exact Nat.le_refl _) (eI 26 st (by omega)) (eI 27 st (by omega)) (by rw [← hu]; rfl)
    have em : ∀ f i, ¬ (9 ≤ f ∧ f ≤ 12 ∧ i = p) → mI (tCatch t p q) f i = mI t f i := fun f i g => by simp only [tCatch, tI_mI, tJ_mI]; rw [up2_n (by omega), up2_n (by omega), up2_n (by omega), up2_n (by omega)]
    refine RR_reg h hp (by rw [← hu]; rfl) (by rw [← hu]; rfl) (by rw [← hu]; rfl) (by rw [← hu]; rfl) (by rw [← hu]; rfl) eS eI em (fun f i g => ?_) ?_ ?_ ?_
    · simp only [tCatch, tI_mJ, tJ_mJ]; rw [up2_n (by omega)]
    · rw [← hu]; exact cInv_I (cInv_S0 (cInv_I h.2.1 (by decide) (by decide) (by decide)) rq.2.2.1) (by decide) (by decide) (by decide)
    · refine MB_of h.2.2.1 (fun i => em 5 i (by omega)) (fun i => ?_) (fun i => by rw [em 23 i (by omega)]; exact h.2.2.1.2.2.1 i) (fun i => by rw [em 26 i (by omega)]; exact h.2.2.1.2.2.2.1 i) (fun i => by rw [em 8 i (by omega)]; exact h.2.2.1.2.2.2.2 i)
      have := mCatch_11 (p := p) (q := q) h.2.2.1.2.1 i
      unfold mCatch at this; rw [if_neg hc] at this; exact this
    · unfold RegOk
      rw [show mI (tCatch t p q) 9 p = M from by rw [← hM]; simp [tCatch, tI_mI, tJ_mI, up2], show mI (tCatch t p q) 10 p = mI t 10 q from by simp [tCatch, tI_mI, tJ_mI, up2], show mI (tCatch t p q) 11 p = mI t 11 q from by simp [tCatch, tI_mI, tJ_mI, up2], show mI (tCatch t p q) 12 p = mI t 12 q from by simp [tCatch, tI_mI, tJ_mI, up2], show mJ (tCatch t p q) 13 p = mJ t 13 q from by simp [tCatch, tI_mJ, tJ_mJ, up2], show cI u 0 p = M from by rw [← hu]; simp [sI_cI, up2], show cI u 1 p = mI t 10 q from by rw [← hu]; simp [sI_cI, sS_cI, up2], show cS u 0 p = cS z 0 q from by rw [← hu]; simp [sI_cS, sS_cS, up2]]
      exact ⟨rfl, rfl, hst _ _ _ _ rq.2.2⟩
theorem RR_copy (j : Nat) : ∀ {z : CS} {t : MS} {n : Nat} (a b k : Nat), RR z t n → a < 9 → b < 9 → k + j = 4 → RR (fCopy j z a b k) (mCopy j t a b k) n ∧ fCnt j z a b k = mCnt4 j t a b k := by
  induction j with
  | zero => intro z t n a b k h _ _ _; exact ⟨h, rfl⟩
  | succ j ih =>
    intro z t n a b k h ha hb hk
    have h1 := RR_catch h (p := 4 * a + k) (q := 4 * b + k) (by omega) (by omega)
    obtain ⟨g1, g2⟩ := ih a b (k + 1) h1 ha hb (by omega)
    refine ⟨by rw [fCopy, mCopy]; exact g1, ?_⟩
    rw [fCnt, mCnt4, g2]
    have rp := h.2.2.2.2.1 (4 * a + k) (by omega)
    have rq := h.2.2.2.2.1 (4 * b + k) (by omega)
    rw [rp.2.1, rq.2.1]
    by_cases hc : mI t 10 (4 * b + k) ≤ mI t 10 (4 * a + k)
    · rw [if_pos hc, if_neg (Int32.not_lt.mpr hc)]
    · rw [if_neg hc, if_pos (Int32.not_le.mp hc)]
/-- a new request -/
theorem RR_ask0 {z : CS} {t : MS} {n a k c qa : Nat} {arg : Int64} (h : RR z t n) (ha : a < 4) (hk : k < 4) (hc : c < 7) (hfree : cR z 1 a = none) (h200 : cNr z < 200) : RR (askS z qa a (nI k) (nI c) arg) (mAskS t a (cNr z) k (nI c) arg) n := by
  obtain ⟨hrow, hIz, hBz, ⟨r0, r1, r2, r3⟩, g1, g2, g3, g4⟩ := h
  obtain ⟨p1, p2, p3, p4⟩ := g3 a ha
  generalize hr : cNr z = r at *
  generalize hu : askS z qa a (nI k) (nI c) arg = u
  have uN : cNr u = r + 1 := by rw [← hu, ← hr]; rfl
  have uNs : cNs u = cNs z := by rw [← hu]; rfl
  have uS : cS u = cS z := by rw [← hu]; rfl
  have uE : cE u = cE z := by rw [← hu]; rfl
  have uI : ∀ f i, ¬ (f = 3 ∧ i = a) → ¬ (f = 28 ∧ i = 0) → ¬ (12 ≤ f ∧ f ≤ 24 ∧ i = r) → cI u f i = cI z f i := fun f i x1 x2 x3 => by
    rw [← hu, ← hr] at *
    simp only [askS, initR, sR_cI, sI_cI, sJ_cI, addR_cI]
    rw [up2_n (by omega), up2_n (by omega), up2_n (by omega), up2_n (by omega), up2_n (by omega), up2_n (by omega), up2_n (by omega), up2_n (by omega), up2_n (by omega), up2_n (by omega), up2_n (by omega), up2_n (by omega), up2_n (by omega), up2_n (by omega), sI_cNr, if_neg (by omega), up2_n (by omega)]
  have u3 : cI u 3 a = cI z 3 a + 1 := by rw [← hu]; simp [askS, initR, sR_cI, sI_cI, sJ_cI, addR_cI, up2]
  have u28 : cI u 28 0 = nI (r + 1) := by rw [← hu, ← hr]; simp [askS, initR, sR_cI, sI_cI, sJ_cI, addR_cI, up2]
  have u12 : cI u 12 r = nI r := by rw [← hu, ← hr]; simp [askS, initR, sR_cI, sI_cI, sJ_cI, addR_cI, up2]
  have u13 : cI u 13 r = nI a := by rw [← hu, ← hr]; simp [askS, initR, sR_cI, sI_cI, sJ_cI, addR_cI, up2]; exact p1
  have u14 : cI u 14 r = nI k := by rw [← hu, ← hr]; simp [askS, initR, sR_cI, sI_cI, sJ_cI, addR_cI, up2]
  have u15 : cI u 15 r = nI c := by rw [← hu, ← hr]; simp [askS, initR, sR_cI, sI_cI, sJ_cI, addR_cI, up2]
  have u16 : cI u 16 r = 4 * (cI z 3 a + 1) + nI a := by rw [← hu, ← hr]; simp [askS, initR, sR_cI, sI_cI, sJ_cI, addR_cI, up2, p1]
  have u17 : cI u 17 r = cE z 1 a 0 := by rw [← hu, ← hr]; simp [askS, initR, sR_cI, sI_cI, sJ_cI, addR_cI, up2]; rfl
  have u18 : cI u 18 r = cE z 0 a 1 := by rw [← hu, ← hr]; simp [askS, initR, sR_cI, sI_cI, sJ_cI, addR_cI, up2]; rfl
  have u19 : cI u 19 r = cE z 1 a 1 := by rw [← hu, ← hr]; simp [askS, initR, sR_cI, sI_cI, sJ_cI, addR_cI, up2]; rfl
  have u20 : cI u 20 r = 0 := by rw [← hu, ← hr]; simp [askS, initR, sR_cI, sI_cI, sJ_cI, addR_cI, up2]
  have u21 : cI u 21 r = 0 := by rw [← hu, ← hr]; simp [askS, initR, sR_cI, sI_cI, sJ_cI, addR_cI, up2]
  have u22 : cI u 22 r = 0 := by rw [← hu, ← hr]; simp [askS, initR, sR_cI, sI_cI, sJ_cI, addR_cI, up2]
  have u24 : cI u 24 r = 0 := by rw [← hu, ← hr]; simp [askS, initR, sR_cI, sI_cI, sJ_cI, addR_cI, up2]
  have uJ : ∀ f i, ¬ (f = 0 ∧ i = r) → cJ u f i = cJ z f i := fun f i x => by
    rw [← hu, ← hr] at *
    simp only [askS, initR, sR_cJ, sI_cJ, sJ_cJ, addR_cJ, sI_cNr]
    rw [up2_n x, up2_n x]
  have uJ0 : cJ u 0 r = arg := by rw [← hu, ← hr]; simp [askS, initR, sR_cJ, sI_cJ, sJ_cJ, addR_cJ, up2]
  have uR : ∀ f i, ¬ (f = 1 ∧ i = a) → ¬ ((f = 3 ∨ f = 6) ∧ i = r) → cR u f i = cR z f i := fun f i x1 x2 => by
    rw [← hu, ← hr] at *
    simp only [askS, initR, sR_cR, sI_cR, sJ_cR, addR_cR, sI_cNr]
    rw [up2_n x1, up2_n (by omega), up2_n (by omega), up2_n (by omega)]
  have uR1 : cR u 1 a = some r := by rw [← hu, ← hr]; simp [askS, initR, sR_cR, sI_cR, sJ_cR, addR_cR, up2]
  have uR3 : cR u 3 r = some 0 := by rw [← hu, ← hr]; simp [askS, initR, sR_cR, sI_cR, sJ_cR, addR_cR, up2]
  have uR6 : cR u 6 r = some r := by rw [← hu, ← hr]; simp [askS, initR, sR_cR, sI_cR, sJ_cR, addR_cR, up2]
  clear hu
  generalize hs : mAskS t a r k (nI c) arg = s
  have sI' : ∀ f i, ¬ (f = 38) → ¬ (f = 37 ∧ i = 0) → ¬ (f = 14 ∧ i = a) → ¬ ((f = 27 ∨ f = 28 ∨ f = 30 ∨ f = 31) ∧ i = r) → ¬ ((19 ≤ f ∧ f ≤ 24) ∧ i = a) → ¬ ((f = 17 ∨ f = 18) ∧ (i = 2 * a ∨ i = 2 * a + 1)) → mI s f i = mI t f i := fun f i x0 x1 x2 x3 x4 x5 => by
    rw [← hs]
    simp only [mAskS, tI_mI, tJ_mI]
    rw [up2_n (by omega), up2_n (by omega), up2_n (by omega), up2_n (by omega), up2_n (by omega), up2_n (by omega), up2_n (by omega), up2_n (by omega), up2_n (by omega), up2_n (by omega), up2_n (by omega), up2_n (by omega), up2_n (by omega), up2_n (by omega), up2_n (by omega), up2_n (by omega), up2_n (by omega)]
  have sJ' : ∀ f i, ¬ (f = 29 ∧ i = r) → ¬ (f = 25 ∧ i = a) → mJ s f i = mJ t f i := fun f i x1 x2 => by
    rw [← hs]; simp only [mAskS, tI_mJ, tJ_mJ]; rw [up2_n x2, up2_n x1]
  have s37 : mI s 37 0 = nI (r + 1) := by rw [← hs]; simp [mAskS, tI_mI, tJ_mI, up2]
  have s14 : mI s 14 a = mI t 14 a + 1 := by rw [← hs]; simp [mAskS, tI_mI, tJ_mI, up2]
  have s27 : mI s 27 r = nI k := by rw [← hs]; simp [mAskS, tI_mI, tJ_mI, up2]
  have s28 : mI s 28 r = nI c := by rw [← hs]; simp [mAskS, tI_mI, tJ_mI, up2]
  have s30 : mI s 30 r = 4 * (mI t 14 a + 1) + nI a := by rw [← hs]; simp [mAskS, tI_mI, tJ_mI, up2]
  have s31 : mI s 31 r = 0 := by rw [← hs]; simp [mAskS, tI_mI, tJ_mI, up2]
  have s19 : mI s 19 a = nI r := by rw [← hs]; simp [mAskS, tI_mI, tJ_mI, up2]
  have s20 : mI s 20 a = 0 := by rw [← hs]; simp [mAskS, tI_mI, tJ_mI, up2]
  have s21 : mI s 21 a = 0 := by rw [← hs]; simp [mAskS, tI_mI, tJ_mI, up2]
  have s22 : mI s 22 a = 0 := by rw [← hs]; simp [mAskS, tI_mI, tJ_mI, up2]
  have s23 : mI s 23 a = 0 := by rw [← hs]; simp [mAskS, tI_mI, tJ_mI, up2]
  have s17 : mI s 17 (2 * a + 1) = mI t 15 (2 * a + 1) := by rw [← hs]; simp [mAskS, tI_mI, tJ_mI, up2]
  have s18 : mI s 18 (2 * a) = mI t 16 (2 * a) := by rw [← hs]; simp [mAskS, tI_mI, tJ_mI, up2]
  have s18' : mI s 18 (2 * a + 1) = mI t 16 (2 * a + 1) := by rw [← hs]; simp [mAskS, tI_mI, tJ_mI, up2]
  have s29 : mJ s 29 r = arg := by rw [← hs]; simp [mAskS, tI_mJ, tJ_mJ, up2]
  clear hs
  have hst : ∀ st te ve va, stM z st te ve va → stM u st te ve va := fun st te ve va q => q.same (Nat.le_of_eq uNs.symm) (uI 26 st (by omega) (by omega) (by omega)) (uI 27 st (by omega) (by omega) (by omega)) (uJ 1 st (by omega))
  have hInv : cInv u := by
    obtain ⟨⟨v0, v1, v2, v3, v4, v5, v6⟩, w1, w2⟩ := hIz
    rw [hr] at v3 v4 v5 w2
    refine ⟨⟨by rw [uNs]; exact v0, by rw [uS, uNs]; exact v1, by rw [uS, uNs]; exact v2, fun r' st' x1 x2 => ?_, fun b r' x => ?_, fun j r' x => ?_, by rw [uS]; exact v6⟩, fun i hi => ?_, fun r' hr' => ?_⟩
    · rw [uNs]
      by_cases e : r' = r
      · subst e; rw [uR3] at x2; cases x2; exact v0
      · rw [uR 3 r' (by omega) (by omega)] at x2; exact v3 r' st' (by omega) x2
    · rw [uN]
      by_cases e : b = a
      · subst e; rw [uR1] at x; cases x; omega
      · rw [uR 1 b (by omega) (by omega)] at x; have := v4 b r' x; omega
    · rw [uN]
      by_cases e : j = r
      · subst e; rw [uR6] at x; cases x; omega
      · rw [uR 6 j (by omega) (by omega)] at x; have := v5 j r' x; omega
    · rw [uNs] at hi
      rw [uI 26 i (by omega) (by omega) (by omega), uI 27 i (by omega) (by omega) (by omega), uJ 1 i (by omega)]; exact w1 i hi
    · rw [uN] at hr'
      by_cases e : r' = r
      · subst e; exact ⟨⟨c, hc, u15⟩, 0, by rw [uNs]; exact v0, uR3⟩
      · rw [uI 15 r' (by omega) (by omega) (by omega), uR 3 r' (by omega) (by omega), uNs]; exact w2 r' (by omega)
  have hB : MB s := by
    refine MB_of hBz (fun q => sI' 5 q (by omega) (by omega) (by omega) (by omega) (by omega) (by omega)) (fun q => by rw [sI' 11 q (by omega) (by omega) (by omega) (by omega) (by omega) (by omega)]; exact hBz.2.1 q) (fun q => ?_) (fun q => by rw [sI' 26 q (by omega) (by omega) (by omega) (by omega) (by omega) (by omega)]; exact hBz.2.2.2.1 q) (fun q => by rw [sI' 8 q (by omega) (by omega) (by omega) (by omega) (by omega) (by omega)]; exact hBz.2.2.2.2 q)
    by_cases e : q = a
    · subst e; exact Or.inl s23
    · rw [sI' 23 q (by omega) (by omega) (by omega) (by omega) (by omega) (by omega)]; exact hBz.2.2.1 q
  refine ⟨hrow.keep (fun f i g => uI f i (by omega) (by omega) (by omega)) (fun i => by rw [uS]) (fun i => by rw [uS]) (fun r' x => uI 14 r' (by omega) (by omega) (by omega)) (by omega) hst (fun f i g => sI' f i (by omega) (by omega) (by omega) (by omega) (by omega) (by omega)) (fun i => sJ' 7 i (by omega) (by omega)), hInv, hB, ⟨by rw [uN]; omega, by rw [uN]; exact u28, by rw [uN]; exact s37, by rw [uI 26 0 (by omega) (by omega) (by omega)]; exact r3⟩, fun q hq => ?_, fun i hi => ?_, fun b hb => ?_, fun r' hr' => ?_⟩
  · exact (g1 q hq).keep (uI 0 q (by omega) (by omega) (by omega)) (uI 1 q (by omega) (by omega) (by omega)) (by rw [uS]) hst (fun f _ _ => sI' f q (by omega) (by omega) (by omega) (by omega) (by omega) (by omega)) (sJ' 13 q (by omega) (by omega))
  · unfold DnOk; rw [uI 29 i (by omega) (by omega) (by omega), sI' 8 i (by omega) (by omega) (by omega) (by omega) (by omega) (by omega)]; exact g2 i hi
  · obtain ⟨a1, a2, a3, a4⟩ := g3 b hb
    have hpl : PlanOk u s b := a3.keep (fun f j => by rw [uE]) (fun f j g _ => sI' f _ (by omega) (by omega) (by omega) (by omega) (by omega) (by omega))
    by_cases e : b = a
    · subst e
      refine ⟨(uI 2 b (by omega) (by omega) (by omega)).trans a1, by rw [u3, s14, a2], hpl, Or.inr ⟨r, uR1, ?_⟩⟩
      unfold CurOk
      rw [uN, u13, u24, u20, u21, u22, u17, u18, u19, uR3, s19, s20, s21, s22, s23, s17, s18, s18']
      refine ⟨by omega, rfl, rfl, rfl, rfl, Or.inl rfl, rfl, small_0, rfl, ⟨0, rfl, abs0 hInv (by rw [uI 26 0 (by omega) (by omega) (by omega)]; exact r3) _ _⟩, (a3 0 (by decide)).2.1, (a3 1 (by decide)).1, (a3 1 (by decide)).2.2, (a3 1 (by decide)).2.1, fun x => absurd x (by decide)⟩
    · refine ⟨(uI 2 b (by omega) (by omega) (by omega)).trans a1, by rw [uI 3 b (by omega) (by omega) (by omega), sI' 14 b (by omega) (by omega) (by omega) (by omega) (by omega) (by omega)]; exact a2, hpl, a4.keep (uR 1 b (by omega) (by omega)) (sI' 19 b (by omega) (by omega) (by omega) (by omega) (by omega) (by omega)) (fun r' q1 q2 => ?_)⟩
      have hlt : r' < r := by rw [← hr]; exact q2.1
      exact q2.keep (by omega) (fun f _ _ => uI f r' (by omega) (by omega) (by omega)) (uR 3 r' (by omega) (by omega)) hst (fun f i x1 x2 x3 x4 => sI' f i (by omega) (by omega) (by omega) (by omega) (by omega) (by omega)) (sJ' 25 b (by omega) (by omega))
  · rw [uN] at hr'
    by_cases e : r' = r
    · subst e
      unfold ReqOk EndOk
      rw [uR6, u12, u14, u15, u16, u24, uJ0, s27, s28, s29, s30, s31, p2]
      exact ⟨rfl, rfl, rfl, ⟨k, hk, rfl⟩, rfl, ⟨c, hc, rfl⟩, rfl, rfl, rfl, fun x => absurd x (by decide)⟩
    · exact (g4 r' (by omega)).keep (uR 6 r' (by omega) (by omega)) (fun f g => uI f r' (by omega) (by omega) (by omega)) (uJ 0 r' (by omega)) (fun f x1 x2 => sI' f r' (by omega) (by omega) (by omega) (by omega) (by omega) (by omega)) (fun f g => sJ' f r' (by omega) (by omega)) (fun _ => ⟨uI 23 r' (by omega) (by omega) (by omega), uR 3 r' (by omega) (by omega)⟩) hst
theorem RR_ask {z : CS} {t : MS} {n a k c qa : Nat} {arg : Int64} (h : RR z t n) (ha : a < 4) (hk : k < 4) (hc : c < 7) (hfree : cR z 1 a = none) (h200 : cNr z < 200) : ∃ n', RR (fSet 9 (askS z qa a (nI k) (nI c) arg) 0 0 (cNr z) (cE z 0 a 0) 0) (mSet 9 (mAskS t a (cNr z) k (nI c) arg) 0 n 0 (nI a) (nI (cNr z)) (4 * (mI t 14 a + 1) + nI a) 0 0 0 (mI t 15 (2 * a))) n' := by
  have h1 := RR_ask0 (qa := qa) (arg := arg) h ha hk hc hfree h200
  have hpl := (h.2.2.2.2.2.2.1 a ha).2.2.1 0 (by decide)
  have hcur : cR (askS z qa a (nI k) (nI c) arg) 1 a = some (cNr z) := by simp [askS, sR_cR, up2]
  have hcz := cur_of h1 ha hcur
  have hrq := h1.req hcz.1
  rw [hpl.1]
  have s30 : mI (mAskS t a (cNr z) k (nI c) arg) 30 (cNr z) = 4 * (mI t 14 a + 1) + nI a := by simp [mAskS, tI_mI, tJ_mI, up2]
  exact RR_set 9 0 0 a (cNr z) 0 _ 0 0 0 _ (by decide) h1 (by decide) ha hcz.1 hcz.2.2.1 hrq.2.1 (by rw [hrq.2.2.2.2.2.2.2.1, s30]) hpl.2.2 (abs0 h1.2.1 h1.2.2.2.1.2.2.2 _ _)
theorem fSet_I (k0 : Nat) : ∀ {z : CS} {n : Nat} (j : Nat) (so : Int32) (r : Nat) (set : Int32) (st : Nat), RowOk z n → ∀ {f i : Nat}, 11 < f → f ≠ 25 → cI (fSet k0 z j so r set st) f i = cI z f i := by
  induction k0 with
  | zero => intros; rfl
  | succ k0 ih =>
    intro z n j so r set st h f i hf hf2
    rw [fSet]
    split
    · exact ih _ _ _ _ _ h hf hf2
    · rw [ih _ _ _ _ _ (fSend_row h _ _ _ _ _ _ _) hf hf2]
      exact (fSend_same h _ _ _ _ _ _ _).2.2.2.2.2.2 f i (by omega) hf2
