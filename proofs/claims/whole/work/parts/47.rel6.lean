theorem tTh_same {t : MS} {v : Int32} : mSame t (tI t 38 0 v) := ⟨fun f i _ _ h => by rw [tI_mI, up2_k h], fun _ _ _ => rfl⟩
theorem RR_t {z : CS} {t : MS} {n : Nat} {v : Int32} (h : RR z t n) : RR z (tI t 38 0 v) n := by
  obtain ⟨hrow, hI, hB, hr⟩ := h
  exact ⟨hrow.keep (fun _ _ _ => rfl) (fun _ => rfl) (fun _ => rfl) (fun _ _ => rfl) (Nat.le_refl _) (fun _ _ _ _ q => q) (fun f i g => by rw [tI_mI, up2_k (by omega)]) (fun _ => rfl), hI, MB_t hB, hr.same (cSame.rf z) tTh_same⟩
theorem RR.msg {z : CS} {t : MS} {n j : Nat} (h : RR z t n) (hj : j < n) : ∃ so a k r q ch, mMsg t j so a k r q ch ∧ msgOk z (cS z 3 j) so a k q ∧ MF z (cS z 3 j) a k r q (mI t 4 j) (mI t 5 j) (mI t 6 j) (mJ t 7 j) := by
  obtain ⟨so, a, k, r, a1, a2, a3, a4, b1, b2, b3, b4, c1, c2, c3, c4, c5, c6, c7⟩ := h.1.2.2.2 j hj
  obtain ⟨q1, q2, q3, ⟨ky, y1, y2⟩, q5, ⟨ch, y3, y4⟩, q7⟩ := h.req a4
  have h200 := h.2.2.2.1.1
  refine ⟨so, a, k, r, ky, ch, ⟨b1, b2, b3, b4, y2, y4, a1, a2, a3, by omega, y1, y3⟩, ⟨c1, c2, c3, by rw [c5, q3, y2], a1, a2, a3, y1⟩, ⟨c2, c3, c4, by rw [c5, q3, y2], by rw [q3, y2], c6, c7, a2, a3, a4, y1⟩⟩
theorem fSend_300 {z : CS} {t : MS} {n : Nat} (h : Rrow z t n) (so as ke rq ky ba : Int32) (st : Nat) {f : Nat} (hf : f ≠ 25) : cI (fSend z so as ke rq ky ba st) f (cS z 3 300) = cI z f (cS z 3 300) := by
  rw [fSend_n h.1]
  by_cases hl : n < 300
  · have hne : cS z 3 300 ≠ cS z 3 n := fun e => by have := h.2.1 300 n (by omega) (by omega) e; omega
    rw [if_pos hl]; simp only [sS_cI, sI_cI]
    rw [up2_i hne, up2_i hne, up2_i hne, up2_i hne, up2_i hne, up2_i hne, up2_k hf]
  · rw [if_neg hl]
theorem fBack_300 {z : CS} {t : MS} {n : Nat} (h : Rrow z t n) (so ba : Int32) (m st : Nat) {f : Nat} (hf : f ≠ 25) : cI (fBack z so m ba st) f (cS z 3 300) = cI z f (cS z 3 300) := fSend_300 h _ _ _ _ _ _ _ hf
theorem fSet_300 (k0 : Nat) : ∀ {z : CS} {n : Nat} (j : Nat) (so : Int32) (r : Nat) (set : Int32) (st : Nat), RowOk z n → (∀ i j, i < 301 → j < 301 → cS z 3 i = cS z 3 j → i = j) → ∀ {f : Nat}, f ≠ 25 → cI (fSet k0 z j so r set st) f (cS z 3 300) = cI z f (cS z 3 300) := by
  induction k0 with
  | zero => intros; rfl
  | succ k0 ih =>
    intro z n j so r set st h hinj f hf
    rw [fSet]
    split
    · exact ih _ _ _ _ _ h hinj hf
    · have e3 : cS (fSend z so (cI z 13 r) (nI j) (cI z 12 r) (cI z 14 r) (cI z 16 r) st) 3 = cS z 3 := fSend_cS3 _ _ _ _ _ _ _ _
      have h1 := ih (z := fSend z so (cI z 13 r) (nI j) (cI z 12 r) (cI z 14 r) (cI z 16 r) st) (j + 1) so r set st (fSend_row h _ _ _ _ _ _ _) (by rw [e3]; exact hinj) hf
      rw [e3] at h1
      rw [h1, fSend_n h]
      have hn := h.2.1
      by_cases hl : n < 300
      · have hne : cS z 3 300 ≠ cS z 3 n := fun e => by have := hinj 300 n (by omega) (by omega) e; omega
        rw [if_pos hl]; simp only [sS_cI, sI_cI]
        rw [up2_i hne, up2_i hne, up2_i hne, up2_i hne, up2_i hne, up2_i hne, up2_k hf]
      · rw [if_neg hl]
theorem Rrow.I {z : CS} {t : MS} {n f i : Nat} {v : Int32} (h : Rrow z t n) (hf : f < 6) : Rrow (sI z f i v) t n := h.keep (fun g j x => by rw [sI_cI, up2_k (by omega)]) (fun _ => rfl) (fun _ => rfl) (fun r _ => by rw [sI_cI, up2_k (by omega)]) (Nat.le_refl _) (fun st te ve va q => q.same (Nat.le_refl _) (by rw [sI_cI, up2_k (by omega)]) (by rw [sI_cI, up2_k (by omega)]) rfl) (fun _ _ _ => rfl) (fun _ => rfl)
/-- the sort of the message that was drawn out stays -/
theorem take_sort {z u : CS} {t : MS} {n so a k q : Nat} (h : RR z t n) (hu : takeTo z (cS z 3 300) so a k q u) : cI u 6 (cS z 3 300) = cI z 6 (cS z 3 300) := by
  unfold takeTo at hu
  split at hu
  · subst hu; unfold fPrep; split
    · split
      · exact fBack_300 h.1 _ _ _ _ (by decide)
      · have h2 := fBack_300 (h.1.I (f := 0) (i := 4 * k + q) (v := cI z 11 (cS z 3 300)) (by decide)) 1 (cI z 1 (4 * k + q)) (cS z 3 300) (cS z 0 (4 * k + q)) (f := 6) (by decide)
        exact h2.trans (by rw [sI_cI]; exact up2_k (by decide))
    · rfl
  · unfold promTo at hu
    split at hu
    · subst hu; rfl
    · rename_i r hr
      unfold promR at hu
      have e6 : cI (ansd (fHear z r (cI z 11 (cS z 3 300)) (cS z 2 (cS z 3 300))) r (cS z 3 300)) 6 (cS z 3 300) = cI z 6 (cS z 3 300) := by
        unfold ansd; rw [sI_cI, up2_k (by decide), fHear_cI _ _ _ _ (by decide)]
      have e25 : cI (ansd (fHear z r (cI z 11 (cS z 3 300)) (cS z 2 (cS z 3 300))) r (cS z 3 300)) 25 0 = cI z 25 0 := by
        unfold ansd; rw [sI_cI, up2_k (by decide), fHear_cI _ _ _ _ (by decide)]
      have eS : cS (ansd (fHear z r (cI z 11 (cS z 3 300)) (cS z 2 (cS z 3 300))) r (cS z 3 300)) = cS z := by
        unfold ansd; rw [sI_cS, fHear_cS]
      generalize ansd (fHear z r (cI z 11 (cS z 3 300)) (cS z 2 (cS z 3 300))) r (cS z 3 300) = x at *
      split at hu
      · subst hu; exact e6
      · obtain ⟨st, k1, w, st3, g1, g2, g3, g4, g5, rfl⟩ := hu
        obtain ⟨b1, b2, b3, b4, b5, -⟩ := beginTo_facts g4
        have hw3 : cS w 3 = cS z 3 := by rw [b4, eS]
        have h1 := fSet_300 9 (z := w) (n := n) 0 2 r (cI w 18 r) st3 ⟨by rw [b3, e25]; exact h.1.1.1, h.1.1.2.1, by rw [hw3]; exact h.1.1.2.2⟩ (by rw [hw3]; exact h.1.2.1) (f := 6) (by decide)
        rw [hw3] at h1
        rw [h1, b5 6 _ (by decide) (by decide) (by decide) (by decide) (by decide)]; exact e6
  · subst hu; unfold fAcc; split
    · split
      · exact fBack_300 h.1 _ _ _ _ (by decide)
      · generalize hx : sI (sS (sI z 1 (4 * k + q) (cI z 11 (cS z 3 300))) 0 (4 * k + q) (cS z 2 (cS z 3 300))) 0 (4 * k + q) 0 = x
        have hrow : Rrow x t n := by
          rw [← hx]
          refine Rrow.I (Rrow.keep (h.1.I (f := 1) (by decide)) (fun _ _ _ => rfl) (fun i => by rw [sS_cS]; exact up2_k (by decide)) (fun i => by rw [sS_cS]; exact up2_k (by decide)) (fun _ _ => rfl) (Nat.le_refl _) (fun _ _ _ _ g => g) (fun _ _ _ => rfl) (fun _ => rfl)) (by decide)
        have h2 := fBack_300 hrow 3 (cI z 11 (cS z 3 300)) (cS z 3 300) 0 (f := 6) (by decide)
        have e3 : cS x 3 300 = cS z 3 300 := by rw [← hx]; simp only [sI_cS, sS_cS]; exact up2_k (by decide)
        rw [e3] at h2
        rw [h2, ← hx]; simp only [sI_cI, sS_cI]; rw [up2_k (by decide), up2_k (by decide)]
    · rfl
  · subst hu; unfold fTaken; split
    · rfl
    · split
      · rw [sI_cI, up2_k (by decide)]
      · unfold fEnd; split
        · rw [sI_cI, up2_k (by decide)]
        · simp only [sR_cI, sI_cI]; rw [up2_k (by decide), up2_k (by decide)]
  · subst hu; unfold fRef; split
    · rw [sI_cI, up2_k (by decide)]
    · split
      · unfold fEnd; split
        · rw [sI_cI, up2_k (by decide)]
        · simp only [sR_cI, sI_cI]; rw [up2_k (by decide), up2_k (by decide)]
      · rw [sI_cI, up2_k (by decide)]
theorem MF_draw {z : CS} {n i m a k r q : Nat} {b te ve : Int32} {va : Int64} (h : MF z m a k r q b te ve va) : MF (fDraw z i n) m a k r q b te ve va := by
  obtain ⟨f1, f2, f3, f4, f5, f6, f7, ha, hk, hr, hq⟩ := h
  have e : ∀ f j, f ≠ 25 → cI (fDraw z i n) f j = cI z f j := fun f j g => by rw [fDraw_cI, up2_k g]
  refine ⟨?_, ?_, ?_, ?_, ?_, ?_, ?_, ha, hk, by rw [fDraw_cNr]; exact hr, hq⟩
  · rw [e 7 m (by decide)]; exact f1
  · rw [e 8 m (by decide)]; exact f2
  · rw [e 9 m (by decide)]; exact f3
  · rw [e 10 m (by decide)]; exact f4
  · rw [e 14 r (by decide)]; exact f5
  · rw [e 11 m (by decide)]; exact f6
  · rw [fDraw_cS _ _ _ (by decide)]; exact fDraw_same.st f7
theorem msgOk_uniq {z : CS} {m so a k q so' a' k' q' : Nat} (h : msgOk z m so a k q) (g : msgOk z m so' a' k' q') : so = so' ∧ a = a' ∧ k = k' ∧ q = q' := by
  obtain ⟨h1, h2, h3, h4, h5, h6, h7, h8⟩ := h
  obtain ⟨g1, g2, g3, g4, g5, g6, g7, g8⟩ := g
  rw [g1] at h1; rw [g2] at h2; rw [g3] at h3; rw [g4] at h4
  exact ⟨((nI_eq (by omega) (by omega)).mp h1).symm, ((nI_eq (by omega) (by omega)).mp h2).symm, ((nI_eq (by omega) (by omega)).mp h3).symm, ((nI_eq (by omega) (by omega)).mp h4).symm⟩
/-- a message is taken -/
theorem RR_take {z u : CS} {t : MS} {n j so a k q : Nat} (h : RR z t n) (hj : j < n) (hmo : msgOk z (cS z 3 j) so a k q) (hu : takeTo (fDraw z j n) (cS z 3 j) so a k q u) : (∃ n', RR u (mTake t j n) n') ∧ cI u 6 (cS z 3 j) = mI t 0 j := by
  have hn := h.1.1.2.1
  obtain ⟨so1, a1, k1, r, q1, ch, hm, hmo1, hf⟩ := h.msg hj
  obtain ⟨rfl, rfl, rfl, rfl⟩ := msgOk_uniq hmo hmo1
  have hd := RR_draw h hj
  have hf2 := MF_draw (i := j) (n := n) hf
  have h300 : cS (fDraw z j n) 3 300 = cS z 3 j := by rw [fDraw_cS3 hj hn]; rfl
  refine ⟨?_, ?_⟩
  · rw [mTake_eq hm]
    have h28 : mI (mDrop t j n) 28 r = nI ch := by rw [mDrop_mI (by decide) (by decide)]; exact hm.2.2.2.2.2.1
    have hso := hm.2.2.2.2.2.2.1
    rcases (show so = 0 ∨ so = 1 ∨ so = 2 ∨ so = 3 ∨ so = 4 by omega) with rfl | rfl | rfl | rfl | rfl
    · have hu2 : u = fPrep (fDraw z j n) (cS z 3 j) k q := hu
      subst hu2; exact RR_prep hd hf2
    · have hu2 : promTo (fDraw z j n) (cS z 3 j) a u := hu
      exact RR_prom hd hf2 h28 hm.2.2.2.2.2.2.2.2.2.2.2 hu2
    · have hu2 : u = fAcc (fDraw z j n) (cS z 3 j) k q := hu
      subst hu2; exact RR_acc hd hf2
    · have hu2 : u = fTaken (fDraw z j n) (cS z 3 j) a := hu
      subst hu2; exact ⟨_, RR_taken hd hf2⟩
    · have hu2 : u = fRef (fDraw z j n) (cS z 3 j) a := hu
      subst hu2; exact ⟨_, RR_refd hd hf2⟩
  · rw [← h300] at hu ⊢
    rw [take_sort hd hu, fDraw_cI, up2_k (by decide), h300, hmo.1, hm.1]
theorem RR_twice {z : CS} {t : MS} {n j : Nat} (h : RR z t n) (hj : j < n) : RR (fTwice z j) (mTwice t j n) (nxt n) := by
  obtain ⟨so, a, k, r, q, ch, hm, hmo, hf⟩ := h.msg hj
  obtain ⟨f1, f2, f3, f4, f5, f6, f7, ha, hk, hr, hq⟩ := hf
  unfold fTwice mTwice
  rw [hmo.1, f1, f2, f3, f4.trans f5.symm, f6, hm.1, hm.2.1, hm.2.2.1, hm.2.2.2.1]
  exact RR_send (RR_t h) hm.2.2.2.2.2.2.1 ha hk hr f7
theorem RR_down {z : CS} {t : MS} {n k : Nat} {b : Int32} (h : RR z t n) (hb : b = 0 ∨ b = 1) : RR (sI z 29 k b) (tI t 8 k b) n := by
  obtain ⟨hrow, hIz, hBz, ⟨r0, r1, r2, r3⟩, g1, g2, g3, g4⟩ := h
  have e : ∀ f i, f ≠ 29 → cI (sI z 29 k b) f i = cI z f i := fun f i g => by rw [sI_cI, up2_k g]
  have e2 : ∀ f i, f ≠ 8 → mI (tI t 8 k b) f i = mI t f i := fun f i g => by rw [tI_mI, up2_k g]
  have hst : ∀ st te ve va, stM z st te ve va → stM (sI z 29 k b) st te ve va := fun st te ve va q => q.same (Nat.le_refl _) (e 26 st (by omega)) (e 27 st (by omega)) rfl
  refine ⟨hrow.keep (fun f i g => e f i (by omega)) (fun i => rfl) (fun i => rfl) (fun r _ => e 14 r (by omega)) (Nat.le_refl _) hst (fun f i g => e2 f i (by omega)) (fun i => rfl), cInv_I hIz (by decide) (by decide) (by decide), MB_of hBz (fun q => e2 5 q (by omega)) (fun q => by rw [e2 11 q (by omega)]; exact hBz.2.1 q) (fun q => by rw [e2 23 q (by omega)]; exact hBz.2.2.1 q) (fun q => by rw [e2 26 q (by omega)]; exact hBz.2.2.2.1 q) (fun q => ?_), ⟨r0, by rw [e 28 0 (by omega)]; exact r1, by rw [e2 37 0 (by omega)]; exact r2, by rw [e 26 0 (by omega)]; exact r3⟩, fun q hq => ?_, fun i hi => ?_, fun b' hb' => ?_, fun r' hr => ?_⟩
  · rw [tI_mI]
    by_cases eq : q = k
    · subst eq; rw [up2_s]; exact hb
    · rw [up2_i eq]; exact hBz.2.2.2.2 q
  · exact (g1 q hq).keep (e 0 q (by omega)) (e 1 q (by omega)) rfl hst (fun f _ _ => e2 f q (by omega)) rfl
  · unfold DnOk; rw [sI_cI, tI_mI]
    by_cases eq : i = k
    · subst eq; rw [up2_s, up2_s]
    · rw [up2_i eq, up2_i eq]; exact g2 i hi
  · obtain ⟨a1, a2, a3, a4⟩ := g3 b' hb'
    exact ⟨(e 2 b' (by omega)).trans a1, by rw [e 3 b' (by omega), e2 14 b' (by omega)]; exact a2, a3.keep (fun f j => rfl) (fun f j g _ => e2 f _ (by omega)), a4.keep rfl (e2 19 b' (by omega)) (fun r' q1 q2 => q2.keep (Nat.le_refl _) (fun f _ _ => e f r' (by omega)) rfl hst (fun f i x1 x2 x3 x4 => e2 f i (by omega)) rfl)⟩
  · exact (g4 r' hr).keep rfl (fun f g => e f r' (by omega)) rfl (fun f x1 x2 => e2 f r' (by omega)) (fun f g => rfl) (fun _ => ⟨e 23 r' (by omega), rfl⟩) hst
theorem RR_plan {z : CS} {t : MS} {n a k : Nat} {se en : Int32} (h : RR z t n) (ha : a < 4) (hk : k < 2) (hse : small se) : RR (sE (sE z 0 a k se) 1 a k en) (tI (tI t 15 (2 * a + k) se) 16 (2 * a + k) en) n := by
  obtain ⟨hrow, hIz, hBz, ⟨r0, r1, r2, r3⟩, g1, g2, g3, g4⟩ := h
  have e2 : ∀ f i, f ≠ 15 → f ≠ 16 → mI (tI (tI t 15 (2 * a + k) se) 16 (2 * a + k) en) f i = mI t f i := fun f i x1 x2 => by simp only [tI_mI]; rw [up2_k x2, up2_k x1]
  generalize hu : sE (sE z 0 a k se) 1 a k en = u
  have e : cI u = cI z := by rw [← hu]; rfl
  have eR : cR u = cR z := by rw [← hu]; rfl
  have eJ : cJ u = cJ z := by rw [← hu]; rfl
  have eS : cS u = cS z := by rw [← hu]; rfl
  have eN : cNr u = cNr z := by rw [← hu]; rfl
  have eNs : cNs u = cNs z := by rw [← hu]; rfl
  have eI : cInv u := by rw [← hu]; exact hIz
  have eE : ∀ f b j, cE u f b j = if f = 1 ∧ b = a ∧ j = k then en else (if f = 0 ∧ b = a ∧ j = k then se else cE z f b j) := fun f b j => by rw [← hu]; rfl
  clear hu
  have hst : ∀ st te ve va, stM z st te ve va → stM u st te ve va := fun st te ve va q => q.same (Nat.le_of_eq eNs.symm) (by rw [e]) (by rw [e]) (by rw [eJ])
  refine ⟨hrow.keep (fun f i g => by rw [e]) (fun i => by rw [eS]) (fun i => by rw [eS]) (fun r _ => by rw [e]) (Nat.le_of_eq eN.symm) hst (fun f i g => e2 f i (by omega) (by omega)) (fun i => rfl), eI, MB_of hBz (fun q => e2 5 q (by omega) (by omega)) (fun q => by rw [e2 11 q (by omega) (by omega)]; exact hBz.2.1 q) (fun q => by rw [e2 23 q (by omega) (by omega)]; exact hBz.2.2.1 q) (fun q => by rw [e2 26 q (by omega) (by omega)]; exact hBz.2.2.2.1 q) (fun q => by rw [e2 8 q (by omega) (by omega)]; exact hBz.2.2.2.2 q), ⟨by rw [eN]; exact r0, by rw [e, eN]; exact r1, by rw [e2 37 0 (by omega) (by omega), eN]; exact r2, by rw [e]; exact r3⟩, fun q hq => ?_, fun i hi => ?_, fun b hb => ?_, fun r' hr => ?_⟩
  · exact (g1 q hq).keep (by rw [e]) (by rw [e]) (by rw [eS]) hst (fun f _ _ => e2 f q (by omega) (by omega)) rfl
  · unfold DnOk; rw [e, e2 8 i (by omega) (by omega)]; exact g2 i hi
  · obtain ⟨a1, a2, a3, a4⟩ := g3 b hb
    refine ⟨by rw [e]; exact a1, by rw [e, e2 14 b (by omega) (by omega)]; exact a2, ?_, a4.keep (by rw [eR]) (e2 19 b (by omega) (by omega)) (fun r' q1 q2 => q2.keep (Nat.le_of_eq eN.symm) (fun f _ _ => by rw [e]) (by rw [eR]) hst (fun f i x1 x2 x3 x4 => e2 f i (by omega) (by omega)) rfl)⟩
    intro j hj
    rw [eE, eE]
    simp only [tI_mI]
    by_cases eq : b = a ∧ j = k
    · obtain ⟨rfl, rfl⟩ := eq
      simp [up2, hse]
    · have hne : 2 * b + j ≠ 2 * a + k := by omega
      rw [if_neg (by omega), if_neg (fun x => eq x.2), if_neg (fun x => eq x.2), if_neg (by omega), up2_k (by decide), up2_i hne, up2_i hne, up2_k (by decide)]
      exact a3 j hj
  · rw [eN] at hr
    exact (g4 r' hr).keep (by rw [eR]) (fun f g => by rw [e]) (by rw [eJ]) (fun f x1 x2 => e2 f r' (by omega) (by omega)) (fun f g => rfl) (fun _ => ⟨by rw [e], by rw [eR]⟩) hst
