theorem abs0 {z : CS} (h : cInv z) (h0 : cI z 26 0 = 0) (ve : Int32) (va : Int64) : stM z 0 0 ve va := by
  refine ⟨h.1.1, h0, Or.inl rfl, fun q => absurd q (by decide), fun _ => ?_⟩
  rcases h.2.1 0 h.1.1 with q | q
  · exact ⟨q.2.1, q.2.2⟩
  · rw [h0] at q; exact absurd q (by decide)
/-- cInv, where no state, change or reference is touched -/
theorem cInv_I {z : CS} {f i : Nat} {v : Int32} (h : cInv z) (h1 : f ≠ 15) (h2 : f ≠ 26) (h3 : f ≠ 27) : cInv (sI z f i v) := by
  obtain ⟨hv, w1, w2⟩ := h
  refine ⟨hv, fun j hj => ?_, fun r hr => ?_⟩
  · simp only [sI_cI, sI_cJ]; rw [up2_k (fun e => h2 e.symm), up2_k (fun e => h3 e.symm)]; exact w1 j hj
  · simp only [sI_cI, sI_cR, sI_cNs]; rw [up2_k (fun e => h1 e.symm)]; exact w2 r hr
theorem cInv_S0 {z : CS} {p st : Nat} (h : cInv z) (hst : st < cNs z) : cInv (sS z 0 p st) := by
  obtain ⟨⟨v0, v1, v2, v3, v4, v5, v6⟩, w1, w2⟩ := h
  refine ⟨⟨v0, fun i hi => ?_, fun i hi => ?_, v3, v4, v5, fun j hj => ?_⟩, w1, w2⟩
  · simp only [sS_cS, sS_cNs]
    by_cases hq : i = p
    · subst hq; rw [up2_s]; exact hst
    · rw [up2_i hq]; exact v1 i hi
  · simp only [sS_cS, sS_cNs]; rw [up2_k (by decide)]; exact v2 i hi
  · simp only [sS_cS]; rw [up2_k (by decide)]; exact v6 j hj
theorem MB_of {t s : MS} (h : MB t) (h5 : ∀ q, mI s 5 q = mI t 5 q) (h11 : ∀ q, mI s 11 q = 0 ∨ mI s 11 q = 1) (h23 : ∀ q, mI s 23 q = 0 ∨ mI s 23 q = 1) (h26 : ∀ q, mI s 26 q = 0 ∨ mI s 26 q = 1) (h8 : ∀ q, mI s 8 q = 0 ∨ mI s 8 q = 1) : MB s := ⟨fun q => by rw [h5]; exact h.1 q, h11, h23, h26, h8⟩
/-- one register is changed -/
theorem RR_reg {z u : CS} {t s : MS} {n p : Nat} (h : RR z t n) (hp : p < 36) (hNr : cNr u = cNr z) (hNs : cNs u = cNs z) (hR : cR u = cR z) (hJ : cJ u = cJ z) (hE : cE u = cE z) (hS : ∀ f i, ¬ (f = 0 ∧ i = p) → cS u f i = cS z f i) (hI : ∀ f i, ¬ ((f = 0 ∨ f = 1) ∧ i = p) → cI u f i = cI z f i) (hm : ∀ f i, ¬ (9 ≤ f ∧ f ≤ 12 ∧ i = p) → mI s f i = mI t f i) (hj : ∀ f i, ¬ (f = 13 ∧ i = p) → mJ s f i = mJ t f i) (hIn : cInv u) (hB : MB s) (hnew : RegOk u s p) : RR u s n := by
  obtain ⟨hrow, -, -, ⟨r0, r1, r2, r3⟩, g1, g2, g3, g4⟩ := h
  have hst : ∀ st te ve va, stM z st te ve va → stM u st te ve va := fun st te ve va q => q.same (Nat.le_of_eq hNs.symm) (hI 26 st (by omega)) (hI 27 st (by omega)) (by rw [hJ])
  refine ⟨hrow.keep (fun f i g => hI f i (by omega)) (fun i => hS 2 i (by omega)) (fun i => hS 3 i (by omega)) (fun r _ => hI 14 r (by omega)) (Nat.le_of_eq hNr.symm) hst (fun f i g => hm f i (by omega)) (fun i => hj 7 i (by omega)), hIn, hB, ⟨by rw [hNr]; exact r0, by rw [hNr, hI 28 0 (by omega)]; exact r1, by rw [hNr, hm 37 0 (by omega)]; exact r2, by rw [hI 26 0 (by omega)]; exact r3⟩, fun q hq => ?_, fun k hk => ?_, fun a ha => ?_, fun r hr => ?_⟩
  · by_cases e : q = p
    · subst e; exact hnew
    · exact (g1 q hq).keep (hI 0 q (by omega)) (hI 1 q (by omega)) (hS 0 q (by omega)) hst (fun f _ _ => hm f q (by omega)) (hj 13 q (by omega))
  · unfold DnOk; rw [hI 29 k (by omega), hm 8 k (by omega)]; exact g2 k hk
  · obtain ⟨a1, a2, a3, a4⟩ := g3 a ha
    exact ⟨(hI 2 a (by omega)).trans a1, by rw [hI 3 a (by omega), hm 14 a (by omega)]; exact a2, a3.keep (fun f j => by rw [hE]) (fun f j g _ => hm f _ (by omega)), a4.keep (by rw [hR]) (hm 19 a (by omega)) (fun r _ q => q.keep (Nat.le_of_eq hNr.symm) (fun f g1 g2 => hI f r (by omega)) (by rw [hR]) hst (fun f i g1 g2 _ _ => hm f i (by omega)) (hj 25 a (by omega)))⟩
  · rw [hNr] at hr
    exact (g4 r hr).keep (by rw [hR]) (fun f g => hI f r (by omega)) (by rw [hJ]) (fun f g1 g2 => hm f r (by omega)) (fun f g => hj f r (by omega)) (fun _ => ⟨hI 23 r (by omega), by rw [hR]⟩) hst
/-- what is known of the message that was drawn out -/
def MF (z : CS) (m a k r q : Nat) (b te ve : Int32) (va : Int64) : Prop := cI z 7 m = nI a ∧ cI z 8 m = nI k ∧ cI z 9 m = nI r ∧ cI z 10 m = nI q ∧ cI z 14 r = nI q ∧ cI z 11 m = b ∧ stM z (cS z 2 m) te ve va ∧ a < 4 ∧ k < 9 ∧ r < cNr z ∧ q < 4
theorem i32_nle {a b : Int32} : ¬ a ≤ b ↔ b < a := Int32.not_le
theorem gbal_le {z : CS} {t : MS} {p : Nat} (h : RegOk z t p) (b : Int32) : ¬ b ≤ gbal z p ↔ (¬ b ≤ mI t 9 p ∧ ¬ b ≤ mI t 10 p) := by
  unfold gbal
  rw [← h.1, ← h.2.1]
  simp only [i32_nle]
  split
  · rename_i h1; exact ⟨fun g => ⟨Int32.lt_trans h1 g, g⟩, fun g => g.2⟩
  · rename_i h1; exact ⟨fun g => ⟨g, Int32.lt_of_le_of_lt (Int32.not_lt.mp h1) g⟩, fun g => g.1⟩
theorem gbal_lt {z : CS} {t : MS} {p : Nat} (h : RegOk z t p) (b : Int32) : ¬ b < gbal z p ↔ (¬ b < mI t 9 p ∧ ¬ b < mI t 10 p) := by
  unfold gbal
  rw [← h.1, ← h.2.1]
  simp only [Int32.not_lt]
  split
  · rename_i h1; exact ⟨fun g => ⟨Int32.le_trans (Int32.le_of_lt h1) g, g⟩, fun g => g.2⟩
  · rename_i h1; exact ⟨fun g => ⟨g, Int32.le_trans (Int32.not_lt.mp h1) g⟩, fun g => g.1⟩
theorem gbal_eq {z : CS} {t : MS} {p : Nat} (h : RegOk z t p) : gbal z p = if mI t 10 p < mI t 9 p then mI t 9 p else mI t 10 p := by
  unfold gbal
  rw [← h.1, ← h.2.1]
  by_cases h1 : cI z 0 p < cI z 1 p
  · rw [if_pos h1, if_neg (fun g => Int32.lt_irrefl (Int32.lt_trans h1 g))]
  · rw [if_neg h1]
    by_cases h2 : cI z 1 p < cI z 0 p
    · rw [if_pos h2]
    · rw [if_neg h2]; exact Int32.le_antisymm (Int32.not_lt.mp h2) (Int32.not_lt.mp h1)
theorem RR_refuse {z : CS} {t : MS} {n m a k r q : Nat} {b te ve : Int32} {va : Int64} (h : RR z t n) (hf : MF z m a k r q b te ve va) : RR (fBack z 4 m (gbal z (4 * k + q)) 0) (mRefuse t n (nI a) (nI k) (nI r) (4 * k + q)) (nxt n) := by
  obtain ⟨f1, f2, f3, f4, f5, f6, f7, ha, hk, hr, hq⟩ := hf
  have hp : 4 * k + q < 36 := by omega
  unfold fBack mRefuse
  rw [f1, f2, f3, f4, ← f5, gbal_eq (h.2.2.2.2.1 _ hp)]
  exact RR_send (so := 4) h (by decide) ha hk hr (abs0 h.2.1 h.2.2.2.1.2.2.2 _ _)
theorem RR_prep {z : CS} {t : MS} {n m a k r q : Nat} {b te ve : Int32} {va : Int64} (h : RR z t n) (hf : MF z m a k r q b te ve va) : ∃ n', RR (fPrep z m k q) (if mI t 8 k = 0 then mPrep t n (nI a) k r q b else t) n' := by
  obtain ⟨f1, f2, f3, f4, f5, f6, f7, ha, hk, hr, hq⟩ := hf
  have hp : 4 * k + q < 36 := by omega
  have hdn : cI z 29 k = mI t 8 k := h.2.2.2.2.2.1 k hk
  have hreg := h.2.2.2.2.1 _ hp
  unfold fPrep mPrep
  rw [hdn, f6]
  by_cases hd : mI t 8 k = 0
  · rw [if_pos hd, if_pos hd]
    by_cases hb : b ≤ gbal z (4 * k + q)
    · rw [if_pos hb, if_neg (fun g => absurd hb ((gbal_le hreg b).mpr g))]
      exact ⟨_, RR_refuse h ⟨f1, f2, f3, f4, f5, f6, f7, ha, hk, hr, hq⟩⟩
    · rw [if_neg hb, if_pos ((gbal_le hreg b).mp hb)]
      have h2 : RR (sI z 0 (4 * k + q) b) (tI t 9 (4 * k + q) b) n := by
        refine RR_reg h hp rfl rfl rfl rfl rfl (fun _ _ _ => rfl) (fun f i g => by rw [sI_cI, up2_n (by omega)]) (fun f i g => by rw [tI_mI, up2_n (by omega)]) (fun _ _ _ => rfl) (cInv_I h.2.1 (by decide) (by decide) (by decide)) ?_ ?_
        · exact MB_of h.2.2.1 (fun q => by rw [tI_mI, up2_k (by decide)]) (fun q => by rw [tI_mI, up2_k (by decide)]; exact h.2.2.1.2.1 q) (fun q => by rw [tI_mI, up2_k (by decide)]; exact h.2.2.1.2.2.1 q) (fun q => by rw [tI_mI, up2_k (by decide)]; exact h.2.2.1.2.2.2.1 q) (fun q => by rw [tI_mI, up2_k (by decide)]; exact h.2.2.1.2.2.2.2 q)
        · unfold RegOk
          rw [sI_cI, tI_mI, up2_s, up2_s, up2_k (by decide), up2_k (by decide), up2_k (by decide), up2_k (by decide)]
          refine ⟨rfl, hreg.2.1, hreg.2.2.same (Nat.le_refl _) ?_ ?_ rfl⟩
          · rw [sI_cI, up2_k (by decide)]
          · rw [sI_cI, up2_k (by decide)]
      refine ⟨nxt n, ?_⟩
      have h3 := RR_send (so := 1) (a := a) (k := k) (r := r) (b := mI t 10 (4 * k + q)) (st := cS z 0 (4 * k + q)) (te := mI t 11 (4 * k + q)) (ve := mI t 12 (4 * k + q)) (va := mJ t 13 (4 * k + q)) h2 (by decide) ha hk hr (hreg.2.2.same (Nat.le_refl _) (by rw [sI_cI, up2_k (by decide)]) (by rw [sI_cI, up2_k (by decide)]) rfl)
      unfold fBack
      rw [show cI (sI z 0 (4 * k + q) b) 7 m = nI a from by rw [sI_cI, up2_k (by decide)]; exact f1, show cI (sI z 0 (4 * k + q) b) 8 m = nI k from by rw [sI_cI, up2_k (by decide)]; exact f2, show cI (sI z 0 (4 * k + q) b) 9 m = nI r from by rw [sI_cI, up2_k (by decide)]; exact f3, show cI (sI z 0 (4 * k + q) b) 10 m = cI (sI z 0 (4 * k + q) b) 14 r from by rw [sI_cI, up2_k (by decide), up2_k (by decide)]; exact f4.trans f5.symm, hreg.2.1]
      exact h3
  · rw [if_neg hd, if_neg hd]; exact ⟨n, h⟩
theorem RR_acc {z : CS} {t : MS} {n m a k r q : Nat} {b te ve : Int32} {va : Int64} (h : RR z t n) (hf : MF z m a k r q b te ve va) : ∃ n', RR (fAcc z m k q) (if mI t 8 k = 0 then mAcc t n (nI a) k r q b te ve va else t) n' := by
  obtain ⟨f1, f2, f3, f4, f5, f6, f7, ha, hk, hr, hq⟩ := hf
  have hp : 4 * k + q < 36 := by omega
  have hdn : cI z 29 k = mI t 8 k := h.2.2.2.2.2.1 k hk
  have hreg := h.2.2.2.2.1 _ hp
  unfold fAcc mAcc
  rw [hdn, f6]
  by_cases hd : mI t 8 k = 0
  · rw [if_pos hd, if_pos hd]
    by_cases hb : b < gbal z (4 * k + q)
    · rw [if_pos hb, if_neg (fun g => absurd hb ((gbal_lt hreg b).mpr g))]
      exact ⟨_, RR_refuse h ⟨f1, f2, f3, f4, f5, f6, f7, ha, hk, hr, hq⟩⟩
    · rw [if_neg hb, if_pos ((gbal_lt hreg b).mp hb)]
      generalize hu : sI (sS (sI z 1 (4 * k + q) b) 0 (4 * k + q) (cS z 2 m)) 0 (4 * k + q) 0 = u
      have eI : ∀ f i, ¬ ((f = 0 ∨ f = 1) ∧ i = 4 * k + q) → cI u f i = cI z f i := fun f i g => by rw [← hu]; simp only [sI_cI, sS_cI]; rw [up2_n (by omega), up2_n (by omega)]
      have eS : ∀ f i, ¬ (f = 0 ∧ i = 4 * k + q) → cS u f i = cS z f i := fun f i g => by rw [← hu]; simp only [sI_cS, sS_cS]; rw [up2_n g]
      have hst : ∀ st te ve va, stM z st te ve va → stM u st te ve va := fun st te ve va q => q.same (by rw [← hu]; exact Nat.le_refl _) (eI 26 st (by omega)) (eI 27 st (by omega)) (by rw [← hu]; rfl)
      have hNr : cNr u = cNr z := by rw [← hu]; rfl
      have h2 : RR u (tAcc t (4 * k + q) b te ve va) n := by
        refine RR_reg h hp hNr (by rw [← hu]; rfl) (by rw [← hu]; rfl) (by rw [← hu]; rfl) (by rw [← hu]; rfl) eS eI (fun f i g => ?_) (fun f i g => ?_) ?_ ?_ ?_
        · simp only [tAcc, tI_mI, tJ_mI]; rw [up2_n (by omega), up2_n (by omega), up2_n (by omega), up2_n (by omega)]
        · simp only [tAcc, tI_mJ, tJ_mJ]; rw [up2_n (by omega)]
        · rw [← hu]; exact cInv_I (cInv_S0 (cInv_I h.2.1 (by decide) (by decide) (by decide)) f7.1) (by decide) (by decide) (by decide)
        · refine MB_of h.2.2.1 (fun q => ?_) (fun i => ?_) (fun i => ?_) (fun i => ?_) (fun i => ?_)
          · simp only [tAcc, tI_mI, tJ_mI]; rw [up2_k (by decide), up2_k (by decide), up2_k (by decide), up2_k (by decide)]
          · simp only [tAcc, tI_mI, tJ_mI]; rw [up2_k (by decide), up2_k (by decide)]
            by_cases hi : i = 4 * k + q
            · subst hi; rw [up2_s]; exact f7.2.2.1
            · rw [up2_i hi, up2_k (by decide)]; exact h.2.2.1.2.1 i
          · simp only [tAcc, tI_mI, tJ_mI]; rw [up2_k (by decide), up2_k (by decide), up2_k (by decide), up2_k (by decide)]; exact h.2.2.1.2.2.1 i
          · simp only [tAcc, tI_mI, tJ_mI]; rw [up2_k (by decide), up2_k (by decide), up2_k (by decide), up2_k (by decide)]; exact h.2.2.1.2.2.2.1 i
          · simp only [tAcc, tI_mI, tJ_mI]; rw [up2_k (by decide), up2_k (by decide), up2_k (by decide), up2_k (by decide)]; exact h.2.2.1.2.2.2.2 i
        · unfold RegOk
          rw [show mI (tAcc t (4 * k + q) b te ve va) 9 (4 * k + q) = 0 from by simp [tAcc, tI_mI, tJ_mI, up2], show mI (tAcc t (4 * k + q) b te ve va) 10 (4 * k + q) = b from by simp [tAcc, tI_mI, tJ_mI, up2], show mI (tAcc t (4 * k + q) b te ve va) 11 (4 * k + q) = te from by simp [tAcc, tI_mI, tJ_mI, up2], show mI (tAcc t (4 * k + q) b te ve va) 12 (4 * k + q) = ve from by simp [tAcc, tI_mI, tJ_mI, up2], show mJ (tAcc t (4 * k + q) b te ve va) 13 (4 * k + q) = va from by simp [tAcc, tI_mJ, tJ_mJ, up2], show cI u 0 (4 * k + q) = 0 from by rw [← hu]; simp [sI_cI, up2], show cI u 1 (4 * k + q) = b from by rw [← hu]; simp [sI_cI, sS_cI, up2], show cS u 0 (4 * k + q) = cS z 2 m from by rw [← hu]; simp [sI_cS, sS_cS, up2]]
          exact ⟨rfl, rfl, hst _ _ _ _ f7⟩
      refine ⟨nxt n, ?_⟩
      have h3 := RR_send (so := 3) (a := a) (k := k) (r := r) (b := b) (st := 0) (te := 0) (ve := 0) (va := 0) h2 (by decide) ha hk (by rw [hNr]; exact hr) (abs0 h2.2.1 h2.2.2.2.1.2.2.2 _ _)
      unfold fBack
      rw [show cI u 7 m = nI a from (eI 7 m (by omega)).trans f1, show cI u 8 m = nI k from (eI 8 m (by omega)).trans f2, show cI u 9 m = nI r from (eI 9 m (by omega)).trans f3, show cI u 10 m = cI u 14 r from ((eI 10 m (by omega)).trans (f4.trans f5.symm)).trans (eI 14 r (by omega)).symm]
      exact h3
  · rw [if_neg hd, if_neg hd]; exact ⟨n, h⟩
