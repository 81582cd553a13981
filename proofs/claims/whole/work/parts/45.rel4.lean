theorem cInv_R3 {z : CS} {r st : Nat} (h : cInv z) (hst : st < cNs z) : cInv (sR z 3 r (some st)) := by
  obtain ⟨⟨v0, v1, v2, v3, v4, v5, v6⟩, w1, w2⟩ := h
  refine ⟨⟨v0, v1, v2, fun r' st' hr' hs' => ?_, fun a r' hs' => ?_, fun j r' hs' => ?_, v6⟩, w1, fun r' hr' => ?_⟩
  · simp only [sR_cR] at hs'
    by_cases e : r' = r
    · subst e; rw [up2_s] at hs'; cases hs'; exact hst
    · rw [up2_i e] at hs'; exact v3 r' st' hr' hs'
  · simp only [sR_cR] at hs'; rw [up2_k (by decide)] at hs'; exact v4 a r' hs'
  · simp only [sR_cR] at hs'; rw [up2_k (by decide)] at hs'; exact v5 j r' hs'
  · obtain ⟨g1, st1, g2, g3⟩ := w2 r' hr'
    refine ⟨g1, ?_⟩
    simp only [sR_cR]
    by_cases e : r' = r
    · subst e; rw [up2_s]; exact ⟨st, hst, rfl⟩
    · rw [up2_i e]; exact ⟨st1, g2, g3⟩
theorem cInv_R1 {z : CS} {a : Nat} (h : cInv z) : cInv (sR z 1 a none) := by
  obtain ⟨⟨v0, v1, v2, v3, v4, v5, v6⟩, w1, w2⟩ := h
  refine ⟨⟨v0, v1, v2, fun r' st' hr' hs' => ?_, fun b r' hs' => ?_, fun j r' hs' => ?_, v6⟩, w1, fun r' hr' => ?_⟩
  · simp only [sR_cR] at hs'; rw [up2_k (by decide)] at hs'; exact v3 r' st' hr' hs'
  · simp only [sR_cR] at hs'
    by_cases e : b = a
    · subst e; rw [up2_s] at hs'; cases hs'
    · rw [up2_i e] at hs'; exact v4 b r' hs'
  · simp only [sR_cR] at hs'; rw [up2_k (by decide)] at hs'; exact v5 j r' hs'
  · obtain ⟨g1, st1, g2, g3⟩ := w2 r' hr'
    refine ⟨g1, st1, g2, ?_⟩
    simp only [sR_cR]; rw [up2_k (by decide)]; exact g3
theorem newS_cI (z : CS) (q : Nat) (pr ve : Int32) (va : Int64) {f i : Nat} (h : ¬ ((f = 26 ∨ f = 27) ∧ i = cNs z)) : cI (newS z q pr ve va) f i = cI z f i := by
  simp only [newS, sJ_cI, sI_cI, addS_cI]
  rw [up2_n (by omega), up2_n (by omega), up2_n (by omega), up2_n (by omega)]
theorem newS_26 (z : CS) (q : Nat) (pr ve : Int32) (va : Int64) : cI (newS z q pr ve va) 26 (cNs z) = pr := by
  simp only [newS, sJ_cI, sI_cI]; rw [up2_k (by decide), up2_s]
theorem newS_27 (z : CS) (q : Nat) (pr ve : Int32) (va : Int64) : cI (newS z q pr ve va) 27 (cNs z) = ve := by
  simp only [newS, sJ_cI, sI_cI]; rw [up2_s]
theorem newS_cJ (z : CS) (q : Nat) (pr ve : Int32) (va : Int64) {f i : Nat} (h : ¬ (f = 1 ∧ i = cNs z)) : cJ (newS z q pr ve va) f i = cJ z f i := by
  simp only [newS, sJ_cJ, sI_cJ, addS_cJ]
  rw [up2_n h, up2_n h]
theorem newS_1 (z : CS) (q : Nat) (pr ve : Int32) (va : Int64) : cJ (newS z q pr ve va) 1 (cNs z) = va := by
  simp only [newS, sJ_cJ, sI_cJ]; rw [up2_s]
theorem cInv_newS {z : CS} {q : Nat} {pr ve : Int32} {va : Int64} (h : cInv z) (hp : pr = 1 ∨ (pr = 0 ∧ ve = 0 ∧ va = 0)) : cInv (newS z q pr ve va) := by
  obtain ⟨⟨v0, v1, v2, v3, v4, v5, v6⟩, w1, w2⟩ := h
  have hN : cNs (newS z q pr ve va) = cNs z + 1 := rfl
  refine ⟨⟨by rw [hN]; omega, fun i hi => by rw [hN]; exact Nat.lt_succ_of_lt (v1 i hi), fun i hi => by rw [hN]; exact Nat.lt_succ_of_lt (v2 i hi), fun r st hr hs => by rw [hN]; exact Nat.lt_succ_of_lt (v3 r st hr hs), v4, v5, v6⟩, fun i hi => ?_, fun r hr => ?_⟩
  · rw [hN] at hi
    by_cases e : i = cNs z
    · subst e; rw [newS_26, newS_27, newS_1]
      rcases hp with q | q
      · exact Or.inr q
      · exact Or.inl q
    · rw [newS_cI _ _ _ _ _ (by omega), newS_cI _ _ _ _ _ (by omega), newS_cJ _ _ _ _ _ (by omega)]; exact w1 i (by omega)
  · obtain ⟨g1, st1, g2, g3⟩ := w2 r hr
    rw [newS_cI _ _ _ _ _ (by omega)]
    exact ⟨g1, st1, by rw [hN]; omega, g3⟩
/-- the current request of one asker is changed -/
theorem RR_cur {z u : CS} {t s : MS} {n a r : Nat} (h : RR z t n) (ha : a < 4) (hcur : cR z 1 a = some r) (hNr : cNr u = cNr z) (hNs : cNs z ≤ cNs u) (hI : ∀ f i, ¬ (20 ≤ f ∧ f ≤ 23 ∧ i = r) → ¬ ((f = 26 ∨ f = 27) ∧ cNs z ≤ i) → cI u f i = cI z f i) (hJ : ∀ f i, ¬ (f = 1 ∧ cNs z ≤ i) → cJ u f i = cJ z f i) (hR : ∀ f i, ¬ (f = 3 ∧ i = r) → cR u f i = cR z f i) (hS : cS u = cS z) (hE : cE u = cE z) (hm : ∀ f i, ¬ (20 ≤ f ∧ f ≤ 26 ∧ i = a) → mI s f i = mI t f i) (hj : ∀ f i, ¬ (f = 25 ∧ i = a) → mJ s f i = mJ t f i) (hIn : cInv u) (hB : MB s) (hnew : CurOk u s a r) : RR u s n := by
  obtain ⟨hrow, hIz, -, ⟨r0, r1, r2, r3⟩, g1, g2, g3, g4⟩ := h
  have hst : ∀ st te ve va, stM z st te ve va → stM u st te ve va := fun st te ve va q => q.same hNs (hI 26 st (by omega) (by have := q.1; omega)) (hI 27 st (by omega) (by have := q.1; omega)) (hJ 1 st (by have := q.1; omega))
  have hcz : CurOk z t a r := by
    rcases (g3 a ha).2.2.2 with q | ⟨r', q1, q2⟩
    · rw [hcur] at q; cases q.1
    · rw [hcur] at q1; cases q1; exact q2
  refine ⟨hrow.keep (fun f i g => hI f i (by omega) (by omega)) (fun i => by rw [hS]) (fun i => by rw [hS]) (fun r _ => hI 14 r (by omega) (by omega)) (Nat.le_of_eq hNr.symm) hst (fun f i g => hm f i (by omega)) (fun i => hj 7 i (by omega)), hIn, hB, ⟨by rw [hNr]; exact r0, by rw [hNr, hI 28 0 (by omega) (by omega)]; exact r1, by rw [hNr, hm 37 0 (by omega)]; exact r2, by rw [hI 26 0 (by omega) (by have := hIz.1.1; omega)]; exact r3⟩, fun q hq => ?_, fun k hk => ?_, fun b hb => ?_, fun r' hr => ?_⟩
  · exact (g1 q hq).keep (hI 0 q (by omega) (by omega)) (hI 1 q (by omega) (by omega)) (by rw [hS]) hst (fun f _ _ => hm f q (by omega)) (hj 13 q (by omega))
  · unfold DnOk; rw [hI 29 k (by omega) (by omega), hm 8 k (by omega)]; exact g2 k hk
  · obtain ⟨a1, a2, a3, a4⟩ := g3 b hb
    refine ⟨(hI 2 b (by omega) (by omega)).trans a1, by rw [hI 3 b (by omega) (by omega), hm 14 b (by omega)]; exact a2, a3.keep (fun f j => by rw [hE]) (fun f j g _ => hm f _ (by omega)), ?_⟩
    by_cases e : b = a
    · subst e
      exact Or.inr ⟨r, by rw [hR 1 b (by omega)]; exact hcur, hnew⟩
    · refine a4.keep (hR 1 b (by omega)) (hm 19 b (by omega)) (fun r' q1 q2 => ?_)
      have hne : r' ≠ r := fun e2 => by
        subst e2
        have e3 := q2.2.2.1.symm.trans hcz.2.2.1
        exact e ((nI_eq (by omega) (by omega)).mp e3)
      exact q2.keep (Nat.le_of_eq hNr.symm) (fun f _ _ => hI f r' (by omega) (by omega)) (hR 3 r' (by omega)) hst (fun f i x1 x2 x3 x4 => hm f i (by omega)) (hj 25 b (by omega))
  · rw [hNr] at hr
    refine (g4 r' hr).keep (hR 6 r' (by omega)) (fun f g => hI f r' (by omega) (by omega)) (hJ 0 r' (by omega)) (fun f x1 x2 => hm f r' (by omega)) (fun f g => hj f r' (by omega)) (fun q => ?_) hst
    have hne : r' ≠ r := fun e => by
      subst e
      have e1 := (g4 r' hr).2.2.2.2.2.2.2.2.1
      rw [hcz.2.2.2.1, q] at e1
      exact absurd e1 (by decide)
    exact ⟨hI 23 r' (by omega) (by omega), hR 3 r' (by omega)⟩
/-- the current request of one asker ends -/
theorem RR_end {z : CS} {t s : MS} {n a r : Nat} {en : Int32} (h : RR z t n) (ha : a < 4) (hcur : cR z 1 a = some r) (hm : ∀ f i, ¬ (f = 19 ∧ i = a) → ¬ (31 ≤ f ∧ f ≤ 34 ∧ i = r) → mI s f i = mI t f i) (hj : ∀ f i, ¬ (f = 35 ∧ i = r) → mJ s f i = mJ t f i) (h31 : mI s 31 r = en) (h19 : mI s 19 a = -1) (hen : en = 1 → cI z 23 r = mI s 32 r ∧ ∃ st, cR z 3 r = some st ∧ stM z st (mI s 33 r) (mI s 34 r) (mJ s 35 r)) : RR (sR (sI z 24 r en) 1 a none) s n := by
  obtain ⟨hrow, hIz, hBz, ⟨r0, r1, r2, r3⟩, g1, g2, g3, g4⟩ := h
  have hcz : CurOk z t a r := by
    rcases (g3 a ha).2.2.2 with q | ⟨r', q1, q2⟩
    · rw [hcur] at q; cases q.1
    · rw [hcur] at q1; cases q1; exact q2
  generalize hu : sR (sI z 24 r en) 1 a none = u
  have hI : ∀ f i, ¬ (f = 24 ∧ i = r) → cI u f i = cI z f i := fun f i g => by rw [← hu]; simp only [sR_cI, sI_cI]; exact up2_n g
  have hR : ∀ f i, ¬ (f = 1 ∧ i = a) → cR u f i = cR z f i := fun f i g => by rw [← hu]; simp only [sR_cR, sI_cR]; exact up2_n g
  have h24 : cI u 24 r = en := by rw [← hu]; simp only [sR_cI, sI_cI]; exact up2_s _ _ _ _
  have hR1 : cR u 1 a = none := by rw [← hu]; simp only [sR_cR, sI_cR]; exact up2_s _ _ _ _
  have hNr : cNr u = cNr z := by rw [← hu]; rfl
  have hNs : cNs u = cNs z := by rw [← hu]; rfl
  have hJ : cJ u = cJ z := by rw [← hu]; rfl
  have hS : cS u = cS z := by rw [← hu]; rfl
  have hE : cE u = cE z := by rw [← hu]; rfl
  have hIn : cInv u := by rw [← hu]; exact cInv_R1 (cInv_I hIz (by decide) (by decide) (by decide))
  have hB : MB s := MB_of hBz (fun q => hm 5 q (by omega) (by omega)) (fun q => by rw [hm 11 q (by omega) (by omega)]; exact hBz.2.1 q) (fun q => by rw [hm 23 q (by omega) (by omega)]; exact hBz.2.2.1 q) (fun q => by rw [hm 26 q (by omega) (by omega)]; exact hBz.2.2.2.1 q) (fun q => by rw [hm 8 q (by omega) (by omega)]; exact hBz.2.2.2.2 q)
  clear hu
  have hst : ∀ st te ve va, stM z st te ve va → stM u st te ve va := fun st te ve va q => q.same (Nat.le_of_eq hNs.symm) (hI 26 st (by omega)) (hI 27 st (by omega)) (by rw [hJ])
  refine ⟨hrow.keep (fun f i g => hI f i (by omega)) (fun i => by rw [hS]) (fun i => by rw [hS]) (fun r _ => hI 14 r (by omega)) (Nat.le_of_eq hNr.symm) hst (fun f i g => hm f i (by omega) (by omega)) (fun i => hj 7 i (by omega)), hIn, hB, ⟨by rw [hNr]; exact r0, by rw [hNr, hI 28 0 (by omega)]; exact r1, by rw [hNr, hm 37 0 (by omega) (by omega)]; exact r2, by rw [hI 26 0 (by omega)]; exact r3⟩, fun q hq => ?_, fun k hk => ?_, fun b hb => ?_, fun r' hr => ?_⟩
  · exact (g1 q hq).keep (hI 0 q (by omega)) (hI 1 q (by omega)) (by rw [hS]) hst (fun f _ _ => hm f q (by omega) (by omega)) (hj 13 q (by omega))
  · unfold DnOk; rw [hI 29 k (by omega), hm 8 k (by omega) (by omega)]; exact g2 k hk
  · obtain ⟨a1, a2, a3, a4⟩ := g3 b hb
    refine ⟨(hI 2 b (by omega)).trans a1, by rw [hI 3 b (by omega), hm 14 b (by omega) (by omega)]; exact a2, a3.keep (fun f j => by rw [hE]) (fun f j g _ => hm f _ (by omega) (by omega)), ?_⟩
    by_cases e : b = a
    · subst e
      exact Or.inl ⟨hR1, h19⟩
    · refine a4.keep (hR 1 b (by omega)) (hm 19 b (by omega) (by omega)) (fun r' q1 q2 => ?_)
      have hne : r' ≠ r := fun e2 => by
        subst e2
        have e3 := q2.2.2.1.symm.trans hcz.2.2.1
        exact e ((nI_eq (by omega) (by omega)).mp e3)
      exact q2.keep (Nat.le_of_eq hNr.symm) (fun f _ _ => hI f r' (by omega)) (hR 3 r' (by omega)) hst (fun f i x1 x2 x3 x4 => hm f i (by omega) (by omega)) (hj 25 b (by omega))
  · rw [hNr] at hr
    by_cases e : r' = r
    · subst e
      obtain ⟨q1, q2, q3, q4, q5, q6, q7, q8, q9, q10⟩ := g4 r' hr
      unfold ReqOk EndOk
      rw [hR 6 r' (by omega), hI 12 r' (by omega), hI 14 r' (by omega), hI 15 r' (by omega), hI 16 r' (by omega), h24, hI 23 r' (by omega), hR 3 r' (by omega), hJ, hm 27 r' (by omega) (by omega), hm 28 r' (by omega) (by omega), hm 30 r' (by omega) (by omega), hj 29 r' (by omega), h31]
      refine ⟨q1, q2, q3, q4, q5, q6, q7, q8, rfl, fun g => ?_⟩
      obtain ⟨x1, st, x2, x3⟩ := hen g
      exact ⟨x1, st, x2, hst _ _ _ _ x3⟩
    · exact (g4 r' hr).keep (hR 6 r' (by omega)) (fun f g => hI f r' (by omega)) (by rw [hJ]) (fun f x1 x2 => hm f r' (by omega) (by omega)) (fun f g => hj f r' (by omega)) (fun _ => ⟨hI 23 r' (by omega), hR 3 r' (by omega)⟩) hst
theorem RR.now {z : CS} {t : MS} {n a : Nat} (h : RR z t n) (ha : a < 4) : (cR z 1 a = none ∧ mI t 19 a = -1) ∨ ∃ r, cR z 1 a = some r ∧ CurOk z t a r := (h.2.2.2.2.2.2.1 a ha).2.2.2
theorem RR.req {z : CS} {t : MS} {n r : Nat} (h : RR z t n) (hr : r < cNr z) : ReqOk z t r := h.2.2.2.2.2.2.2 r hr
theorem m1_ne {r : Nat} (h : r < 2 ^ 31) : ¬ ((-1 : Int32) = nI r) := fun e => absurd (show nI r < 0 by rw [← e]; decide) (nI_pos h)
theorem RR_lose {z : CS} {t : MS} {n a r : Nat} (h : RR z t n) (ha : a < 4) (hcur : cR z 1 a = some r) : RR (fEnd z a 2) (tI (tI t 31 r 2) 19 a (-1)) n := by
  unfold fEnd
  rw [hcur]
  refine RR_end h ha hcur (fun f i g1 g2 => ?_) (fun _ _ _ => rfl) ?_ ?_ (fun e => absurd e (by decide))
  · simp only [tI_mI]; rw [up2_n g1, up2_n (by omega)]
  · simp only [tI_mI]; rw [up2_k (by decide), up2_s]
  · simp only [tI_mI]; rw [up2_s]
theorem await_eq {z : CS} {t : MS} {n m a k r q : Nat} {b te ve acc : Int32} {va : Int64} (h : RR z t n) (hf : MF z m a k r q b te ve va) : fAwait z m a acc = (if mI t 19 a = nI r ∧ mI t 20 a = acc ∧ ¬ (mI t 21 a >>> (nI k &&& 31) &&& 1) = 1 then some r else none) ∧ (mI t 19 a = nI r → cR z 1 a = some r) := by
  obtain ⟨f1, f2, f3, f4, f5, f6, f7, ha, hk, hr, hq⟩ := hf
  have h200 := h.2.2.2.1.1
  unfold fAwait
  rcases h.now ha with ⟨q1, q2⟩ | ⟨r0, q1, q2⟩
  · rw [q1, q2]
    have hne := m1_ne (r := r) (by omega)
    exact ⟨by rw [if_neg (fun g => hne g.1)], fun g => absurd g hne⟩
  · rw [q1]
    have h12 := (h.req q2.1).2.1
    have hr0 := q2.1
    rw [q2.2.1]
    by_cases e : r0 = r
    · subst e
      refine ⟨?_, fun _ => rfl⟩
      simp only
      rw [h12, f3, if_pos rfl, q2.2.2.2.2.1, q2.2.2.2.2.2.2.1, f2]
      have hbt := bit_test (k := k) q2.2.2.2.2.2.2.2.1 hk
      by_cases g1 : mI t 20 a = acc
      · rw [if_pos g1]
        by_cases g2 : (mI t 21 a >>> (nI k &&& 31) &&& 1) = 1
        · rw [if_neg (fun x => hbt.mp x g2), if_neg (fun x => x.2.2 g2)]
        · rw [if_pos (hbt.mpr g2), if_pos ⟨trivial, g1, g2⟩]
      · rw [if_neg g1, if_neg (fun x => g1 x.2.1)]
    · have hne : ¬ nI r0 = nI r := fun x => e ((nI_eq (by omega) (by omega)).mp x)
      refine ⟨?_, fun g => absurd g hne⟩
      simp only
      rw [h12, f3, if_neg hne, if_neg (fun x => hne x.1)]
theorem MB_21 {t : MS} {a : Nat} {v : Int32} (h : MB t) : MB (tI t 21 a v) := MB_of h (fun q => by rw [tI_mI, up2_k (by decide)]) (fun q => by rw [tI_mI, up2_k (by decide)]; exact h.2.1 q) (fun q => by rw [tI_mI, up2_k (by decide)]; exact h.2.2.1 q) (fun q => by rw [tI_mI, up2_k (by decide)]; exact h.2.2.2.1 q) (fun q => by rw [tI_mI, up2_k (by decide)]; exact h.2.2.2.2 q)
theorem RR_ans {z : CS} {t : MS} {n a r : Nat} {v : Int32} (h : RR z t n) (ha : a < 4) (hcur : cR z 1 a = some r) (hv : small v) : RR (sI z 21 r v) (tI t 21 a v) n := by
  have hcz : CurOk z t a r := by
    rcases h.now ha with q | ⟨r', q1, q2⟩
    · rw [hcur] at q; cases q.1
    · rw [hcur] at q1; cases q1; exact q2
  refine RR_cur h ha hcur rfl (Nat.le_refl _) (fun f i g _ => by rw [sI_cI, up2_n (by omega)]) (fun _ _ _ => rfl) (fun _ _ _ => rfl) rfl rfl (fun f i g => by rw [tI_mI, up2_n (by omega)]) (fun _ _ _ => rfl) (cInv_I h.2.1 (by decide) (by decide) (by decide)) (MB_21 h.2.2.1) ?_
  obtain ⟨h1, h2, h3, h4, h5, h6, h7, h8, h9, ⟨st, h10, h11⟩, h12, h13, h14, h15, h16⟩ := hcz
  have e : ∀ f i, f ≠ 21 → cI (sI z 21 r v) f i = cI z f i := fun f i g => by rw [sI_cI, up2_k g]
  have e2 : ∀ f i, f ≠ 21 → mI (tI t 21 a v) f i = mI t f i := fun f i g => by rw [tI_mI, up2_k g]
  unfold CurOk
  rw [e 13 r (by decide), e 24 r (by decide), e 20 r (by decide), e 22 r (by decide), e 17 r (by decide), e 18 r (by decide), e 19 r (by decide), e 23 r (by decide), e2 19 a (by decide), e2 20 a (by decide), e2 22 a (by decide), e2 23 a (by decide), e2 24 a (by decide), e2 18 _ (by decide), e2 18 _ (by decide), e2 17 _ (by decide), e2 26 a (by decide), show cI (sI z 21 r v) 21 r = v from up2_s _ _ _ _, show mI (tI t 21 a v) 21 a = v from up2_s _ _ _ _]
  exact ⟨h1, h2, h3, h4, h5, h6, rfl, hv, h9, ⟨st, h10, h11.same (Nat.le_refl _) (e 26 st (by decide)) (e 27 st (by decide)) rfl⟩, h12, h13, h14, h15, h16⟩
theorem RR_taken {z : CS} {t : MS} {n m a k r q : Nat} {b te ve : Int32} {va : Int64} (h : RR z t n) (hf : MF z m a k r q b te ve va) : RR (fTaken z m a) (mTaken t a k r) n := by
  have hk := hf.2.2.2.2.2.2.2.2.1
  have ha := hf.2.2.2.2.2.2.2.1
  obtain ⟨e1, e2⟩ := await_eq (acc := 1) h hf
  unfold fTaken mTaken
  rw [e1]
  by_cases hc : mI t 19 a = nI r ∧ mI t 20 a = 1 ∧ ¬ (mI t 21 a >>> (nI k &&& 31) &&& 1) = 1
  · have hc2 : mI t 19 a = nI r ∧ ¬ mI t 20 a = 0 ∧ ¬ (mI t 21 a >>> (nI k &&& 31) &&& 1) = 1 := ⟨hc.1, by rw [hc.2.1]; decide, hc.2.2⟩
    rw [if_pos hc, if_pos hc2]
    have hcur := e2 hc.1
    have hcz : CurOk z t a r := by
      rcases h.now ha with q | ⟨r', q1, q2⟩
      · rw [hcur] at q; cases q.1
      · rw [hcur] at q1; cases q1; exact q2
    have hsm : small (mAns t a k) := small_or hcz.2.2.2.2.2.2.2.1 hk
    have hans : (cI z 21 r ||| ((1 : Int32) <<< (cI z 8 m &&& 31))) = mAns t a k := by rw [hcz.2.2.2.2.2.2.1, hf.2.1]; rfl
    simp only
    rw [hans, bits_eq hsm, hcz.2.2.2.2.2.2.2.2.2.2.2.2.2.1]
    have h2 := RR_ans h ha hcur hsm
    by_cases hb : mBits 9 (mAns t a k) 0 0 < mI t 18 (2 * a + 1)
    · rw [if_pos hb, if_pos hb]; exact h2
    · rw [if_neg hb, if_neg hb]
      have hc3 : CurOk (sI z 21 r (mAns t a k)) (tI t 21 a (mAns t a k)) a r := by
        rcases h2.now ha with q | ⟨r', q1, q2⟩
        · rw [show cR (sI z 21 r (mAns t a k)) 1 a = some r from hcur] at q; cases q.1
        · rw [show cR (sI z 21 r (mAns t a k)) 1 a = some r from hcur] at q1; cases q1; exact q2
      generalize hx : sI z 21 r (mAns t a k) = x at *
      generalize hy : tI t 21 a (mAns t a k) = y at *
      have hcx : cR x 1 a = some r := by rw [← hx]; exact hcur
      have h20 : mI y 20 a = 1 := by rw [← hy, tI_mI, up2_k (by decide)]; exact hc.2.1
      unfold fEnd
      rw [hcx]
      obtain ⟨st, s1, s2⟩ := hc3.2.2.2.2.2.2.2.2.2.1
      refine RR_end h2 ha hcx (fun f i g1 g2 => ?_) (fun f i g => ?_) ?_ ?_ (fun _ => ⟨?_, st, s1, ?_⟩)
      · simp only [tEnd, tI_mI, tJ_mI]; rw [up2_n g1, up2_n (by omega), up2_n (by omega), up2_n (by omega), up2_n (by omega)]
      · simp only [tEnd, tI_mJ, tJ_mJ]; exact up2_n g
      · simp [tEnd, tI_mI, tJ_mI, up2]
      · simp [tEnd, tI_mI, tJ_mI, up2]
      · rw [hc3.2.2.2.2.2.2.2.2.2.2.2.2.2.2 h20]; simp [tEnd, tI_mI, tJ_mI, up2]
      · rw [show mI (tEnd y a r) 33 r = mI y 23 a from by simp [tEnd, tI_mI, tJ_mI, up2], show mI (tEnd y a r) 34 r = mI y 24 a from by simp [tEnd, tI_mI, tJ_mI, up2], show mJ (tEnd y a r) 35 r = mJ y 25 a from by simp [tEnd, tI_mJ, tJ_mJ, up2]]; exact s2
  · have hc2 : ¬ (mI t 19 a = nI r ∧ ¬ mI t 20 a = 0 ∧ ¬ (mI t 21 a >>> (nI k &&& 31) &&& 1) = 1) := fun g => by
      have hcur := e2 g.1
      have hcz : CurOk z t a r := by
        rcases h.now ha with q | ⟨r', q1, q2⟩
        · rw [hcur] at q; cases q.1
        · rw [hcur] at q1; cases q1; exact q2
      rcases hcz.2.2.2.2.2.1 with x | x
      · exact g.2.1 x
      · exact hc ⟨g.1, x, g.2.2⟩
    rw [if_neg hc, if_neg hc2]
    exact h
theorem RR_cnt {z : CS} {t : MS} {n a : Nat} {v : Int32} (h : RR z t n) (ha : a < 4) : RR (sI z 3 a v) (tI t 14 a v) n := by
  obtain ⟨hrow, hIz, hBz, ⟨r0, r1, r2, r3⟩, g1, g2, g3, g4⟩ := h
  have e : ∀ f i, ¬ (f = 3 ∧ i = a) → cI (sI z 3 a v) f i = cI z f i := fun f i g => by rw [sI_cI, up2_n g]
  have e2 : ∀ f i, ¬ (f = 14 ∧ i = a) → mI (tI t 14 a v) f i = mI t f i := fun f i g => by rw [tI_mI, up2_n g]
  have hst : ∀ st te ve va, stM z st te ve va → stM (sI z 3 a v) st te ve va := fun st te ve va q => q.same (Nat.le_refl _) (e 26 st (by omega)) (e 27 st (by omega)) rfl
  refine ⟨hrow.keep (fun f i g => e f i (by omega)) (fun i => rfl) (fun i => rfl) (fun r _ => e 14 r (by omega)) (Nat.le_refl _) hst (fun f i g => e2 f i (by omega)) (fun i => rfl), cInv_I hIz (by decide) (by decide) (by decide), MB_of hBz (fun q => e2 5 q (by omega)) (fun q => by rw [e2 11 q (by omega)]; exact hBz.2.1 q) (fun q => by rw [e2 23 q (by omega)]; exact hBz.2.2.1 q) (fun q => by rw [e2 26 q (by omega)]; exact hBz.2.2.2.1 q) (fun q => by rw [e2 8 q (by omega)]; exact hBz.2.2.2.2 q), ⟨r0, by rw [e 28 0 (by omega)]; exact r1, by rw [e2 37 0 (by omega)]; exact r2, by rw [e 26 0 (by omega)]; exact r3⟩, fun q hq => ?_, fun k hk => ?_, fun b hb => ?_, fun r' hr => ?_⟩
  · exact (g1 q hq).keep (e 0 q (by omega)) (e 1 q (by omega)) rfl hst (fun f _ _ => e2 f q (by omega)) rfl
  · unfold DnOk; rw [e 29 k (by omega), e2 8 k (by omega)]; exact g2 k hk
  · obtain ⟨a1, a2, a3, a4⟩ := g3 b hb
    refine ⟨(e 2 b (by omega)).trans a1, ?_, a3.keep (fun f j => rfl) (fun f j g _ => e2 f _ (by omega)), a4.keep rfl (e2 19 b (by omega)) (fun r' q1 q2 => q2.keep (Nat.le_refl _) (fun f _ _ => e f r' (by omega)) rfl hst (fun f i x1 x2 x3 x4 => e2 f i (by omega)) rfl)⟩
    by_cases eb : b = a
    · subst eb; rw [sI_cI, tI_mI, up2_s, up2_s]
    · rw [e 3 b (by omega), e2 14 b (by omega)]; exact a2
  · exact (g4 r' hr).keep rfl (fun f g => e f r' (by omega)) rfl (fun f x1 x2 => e2 f r' (by omega)) (fun f g => rfl) (fun _ => ⟨e 23 r' (by omega), rfl⟩) hst
theorem RR_refd {z : CS} {t : MS} {n m a k r q : Nat} {b te ve : Int32} {va : Int64} (h : RR z t n) (hf : MF z m a k r q b te ve va) : RR (fRef z m a) (mRefd t a r b) n := by
  obtain ⟨f1, f2, f3, f4, f5, f6, f7, ha, hk, hr, hq⟩ := hf
  have h200 := h.2.2.2.1.1
  have hcnt : cnt4 z m a = mCnt t a b := by
    unfold cnt4 mCnt
    rw [f6, (h.2.2.2.2.2.2.1 a ha).2.1]
    by_cases g : b / 4 ≤ mI t 14 a
    · rw [if_pos g, if_neg (Int32.not_lt.mpr g)]
    · rw [if_neg g, if_pos (Int32.not_le.mp g)]
  have h2 : RR (sI z 3 a (mCnt t a b)) (tI t 14 a (mCnt t a b)) n := RR_cnt h ha
  unfold fRef mRefd
  rw [hcnt]
  rcases h.now ha with ⟨q1, q2⟩ | ⟨r0, q1, q2⟩
  · rw [q1, q2, if_neg (m1_ne (r := r) (by omega))]; exact h2
  · rw [q1]
    have h12 := (h.req q2.1).2.1
    have hr0 := q2.1
    simp only
    rw [h12, f3, q2.2.1]
    by_cases e : r0 = r
    · subst e
      rw [if_pos rfl, if_pos rfl]
      exact RR_lose h2 ha q1
    · have hne : ¬ nI r0 = nI r := fun x => e ((nI_eq (by omega) (by omega)).mp x)
      rw [if_neg hne, if_neg hne]; exact h2
