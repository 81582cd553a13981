theorem tDn_lo {z : MS} {j f q : Nat} (hf : f ≤ 6) : mI (tDn z j) f q = if q = j then mI z f (j + 1) else mI z f q := by
  rcases (show f = 0 ∨ f = 1 ∨ f = 2 ∨ f = 3 ∨ f = 4 ∨ f = 5 ∨ f = 6 by omega) with rfl | rfl | rfl | rfl | rfl | rfl | rfl <;> simp [tDn, tI_mI, tJ_mI, up2]
theorem tDn_lo7 {z : MS} {j q : Nat} : mJ (tDn z j) 7 q = if q = j then mJ z 7 (j + 1) else mJ z 7 q := by simp [tDn, tI_mJ, tJ_mJ, up2]
theorem mShift_lo (k : Nat) : ∀ (z : MS) (j : Nat) {f q : Nat}, f ≤ 6 → mI (mShift k z j) f q = if j ≤ q ∧ q < j + k then mI z f (q + 1) else mI z f q := by
  induction k with
  | zero => intro z j f q hf; rw [if_neg (by omega)]; rfl
  | succ k ih =>
    intro z j f q hf
    rw [mShift, ih _ _ hf, tDn_lo hf, tDn_lo hf]
    by_cases h1 : j + 1 ≤ q ∧ q < j + 1 + k
    · rw [if_pos h1, if_neg (by omega), if_pos (by omega)]
    · rw [if_neg h1]
      by_cases h2 : q = j
      · subst h2; rw [if_pos rfl, if_pos (by omega)]
      · rw [if_neg h2, if_neg (by omega)]
theorem mShift_lo7 (k : Nat) : ∀ (z : MS) (j : Nat) {q : Nat}, mJ (mShift k z j) 7 q = if j ≤ q ∧ q < j + k then mJ z 7 (q + 1) else mJ z 7 q := by
  induction k with
  | zero => intro z j q; rw [if_neg (by omega)]; rfl
  | succ k ih =>
    intro z j q
    rw [mShift, ih, tDn_lo7, tDn_lo7]
    by_cases h1 : j + 1 ≤ q ∧ q < j + 1 + k
    · rw [if_pos h1, if_neg (by omega), if_pos (by omega)]
    · rw [if_neg h1]
      by_cases h2 : q = j
      · subst h2; rw [if_pos rfl, if_pos (by omega)]
      · rw [if_neg h2, if_neg (by omega)]
theorem fShift_cS3 (k : Nat) : ∀ (z : CS) (j : Nat) {q : Nat}, cS (fShift k z j) 3 q = if j ≤ q ∧ q < j + k then cS z 3 (q + 1) else cS z 3 q := by
  have hd : ∀ (z : CS) (j q : Nat), cS (sS z 3 j (cS z 3 (j + 1))) 3 q = if q = j then cS z 3 (j + 1) else cS z 3 q := by intro z j q; simp [sS_cS, up2]
  induction k with
  | zero => intro z j q; rw [if_neg (by omega)]; rfl
  | succ k ih =>
    intro z j q
    rw [fShift, ih, hd, hd]
    by_cases h1 : j + 1 ≤ q ∧ q < j + 1 + k
    · rw [if_pos h1, if_neg (by omega), if_pos (by omega)]
    · rw [if_neg h1]
      by_cases h2 : q = j
      · subst h2; rw [if_pos rfl, if_pos (by omega)]
      · rw [if_neg h2, if_neg (by omega)]
/-- where the message number q came from, when the one number i of n was drawn out -/
def drw (i n q : Nat) : Nat := if q = 300 then i else if q = n - 1 then 300 else if i ≤ q ∧ q < n - 1 then q + 1 else q
theorem fDraw_cS3 {z : CS} {i n : Nat} (hi : i < n) (hn : n ≤ 300) (q : Nat) : cS (fDraw z i n) 3 q = cS z 3 (drw i n q) := by
  have h0 : ∀ x, cS (sI z 25 0 (nI (n - 1))) 3 x = cS z 3 x := fun x => rfl
  simp only [fDraw, sS_cS, drw]
  by_cases h1 : q = 300
  · subst h1; rw [up2_s, if_pos rfl]
  · rw [up2_i h1, if_neg h1]
    by_cases h2 : q = n - 1
    · subst h2; rw [up2_s, if_pos rfl, fShift_cS3, if_neg (by omega)]; rfl
    · rw [up2_i h2, if_neg h2, fShift_cS3]
      by_cases h3 : i ≤ q ∧ q < n - 1
      · rw [if_pos (by omega), if_pos h3]; rfl
      · rw [if_neg (by omega), if_neg h3]; rfl
theorem drw_inj {i n a b : Nat} (hi : i < n) (hn : n ≤ 300) (ha : a < 301) (hb : b < 301) (h : drw i n a = drw i n b) : a = b := by
  unfold drw at h; split at h <;> split at h <;> (try split at h) <;> (try split at h) <;> (try split at h) <;> (try split at h) <;> omega
theorem drw_lt {i n a : Nat} (hi : i < n) (hn : n ≤ 300) (ha : a < 301) : drw i n a < 301 := by
  unfold drw; split; omega; split; omega; split <;> omega
theorem drw_lo {i n q : Nat} (hq : q < n - 1) (hn : n ≤ 300) : drw i n q = if i ≤ q then q + 1 else q := by
  unfold drw
  rw [if_neg (by omega), if_neg (by omega)]
  by_cases h : i ≤ q
  · rw [if_pos ⟨h, hq⟩, if_pos h]
  · rw [if_neg (by omega), if_neg h]
theorem mDrop_lo {t : MS} {i n f q : Nat} (hf : f ≤ 6) (hi : i < n) (hq : q < n - 1) (hn : n ≤ 300) : mI (mDrop t i n) f q = mI t f (drw i n q) := by
  rw [drw_lo hq hn, mDrop, mShift_lo _ _ _ hf]
  simp only [tI_mI]
  by_cases h : i ≤ q
  · rw [if_pos (show i ≤ q ∧ q < i + (n - 1 - i) by omega), if_pos h, up2_k (by omega)]
  · rw [if_neg (show ¬ (i ≤ q ∧ q < i + (n - 1 - i)) by omega), if_neg h, up2_k (by omega)]
theorem mDrop_lo7 {t : MS} {i n q : Nat} (hi : i < n) (hq : q < n - 1) (hn : n ≤ 300) : mJ (mDrop t i n) 7 q = mJ t 7 (drw i n q) := by
  rw [drw_lo hq hn, mDrop, mShift_lo7]
  by_cases h : i ≤ q
  · rw [if_pos (show i ≤ q ∧ q < i + (n - 1 - i) by omega), if_pos h]; rfl
  · rw [if_neg (show ¬ (i ≤ q ∧ q < i + (n - 1 - i)) by omega), if_neg h]; rfl
theorem fDraw_same {z : CS} {i n : Nat} : cSame z (fDraw z i n) := ⟨fDraw_cNr _ _ _, fDraw_cNs _ _ _, fDraw_cR _ _ _, fDraw_cJ _ _ _, fDraw_cE _ _ _, fun j => fDraw_cS _ _ _ (by decide), fun f j _ h => by rw [fDraw_cI, up2_k h]⟩
theorem mDrop_same {t : MS} {i n : Nat} : mSame t (mDrop t i n) := ⟨fun f j h h6 _ => mDrop_mI h h6, fun f j h => mDrop_mJ h⟩
theorem mDrop_MB {t : MS} {i n : Nat} (h : MB t) : MB (mDrop t i n) := by
  refine ⟨fun q => ?_, fun q => by rw [mDrop_mI (by decide) (by decide)]; exact h.2.1 q, fun q => by rw [mDrop_mI (by decide) (by decide)]; exact h.2.2.1 q, fun q => by rw [mDrop_mI (by decide) (by decide)]; exact h.2.2.2.1 q, fun q => by rw [mDrop_mI (by decide) (by decide)]; exact h.2.2.2.2 q⟩
  rw [mDrop, mShift_lo _ _ _ (by decide), tI_mI]
  split <;> (rw [up2_k (by decide)]; exact h.1 _)
theorem RR_draw {z : CS} {t : MS} {n i : Nat} (h : RR z t n) (hi : i < n) : RR (fDraw z i n) (mDrop t i n) (n - 1) := by
  obtain ⟨⟨hrow, hinj, h36, hms⟩, hI, hB, hr⟩ := h
  have hn := hrow.2.1
  refine ⟨⟨fDraw_row hi hrow, fun a b ha hb e => ?_, mDrop_36 _ _ _, fun j hj => ?_⟩, fDraw_inv hi hn hI, mDrop_MB hB, hr.same fDraw_same mDrop_same⟩
  · rw [fDraw_cS3 hi hn, fDraw_cS3 hi hn] at e
    exact drw_inj hi hn ha hb (hinj _ _ (drw_lt hi hn ha) (drw_lt hi hn hb) e)
  · rw [fDraw_cS3 hi hn]
    have hd : drw i n j < n := by unfold drw; rw [if_neg (by omega), if_neg (by omega)]; split <;> omega
    refine (hms _ hd).keep (fun f g1 g2 => by rw [fDraw_cI, up2_k (by omega)]) (fDraw_cS _ _ _ (by decide)) (fun r _ => by rw [fDraw_cI, up2_k (by decide)]) (Nat.le_of_eq (fDraw_cNr _ _ _).symm) (fun st te ve va q => fDraw_same.st q) (fun f hf => mDrop_lo hf hi hj hn) (mDrop_lo7 hi hj hn)
theorem fSend_n {z : CS} {n : Nat} (h : RowOk z n) (so as ke rq ky ba : Int32) (st : Nat) : fSend z so as ke rq ky ba st = if n < 300 then sS (sI (sI (sI (sI (sI (sI (sI z 25 0 (nI n + 1)) 6 (cS z 3 n) so) 7 (cS z 3 n) as) 8 (cS z 3 n) ke) 9 (cS z 3 n) rq) 10 (cS z 3 n) ky) 11 (cS z 3 n) ba) 2 (cS z 3 n) st else z := by
  have hn := h.2.1
  unfold fSend
  rw [h.1, nI_clamp (by omega)]
  by_cases hl : n < 300
  · rw [if_pos hl, if_pos (show nI n < 300 from nI_lt (b := 300) hl (by decide))]
  · rw [if_neg hl, if_neg (show ¬ nI n < 300 from nI_nlt (b := 300) (by omega) (by omega))]
theorem fSend_same {z : CS} {n : Nat} (h : RowOk z n) (so as ke rq ky ba : Int32) (st : Nat) : cSame z (fSend z so as ke rq ky ba st) := by
  rw [fSend_n h]
  split
  · refine ⟨rfl, rfl, rfl, rfl, rfl, fun i => ?_, fun f i h1 h2 => ?_⟩
    · simp only [sS_cS, sI_cS]; exact up2_k (by decide)
    · simp only [sS_cI, sI_cI]
      rw [up2_k (by omega), up2_k (by omega), up2_k (by omega), up2_k (by omega), up2_k (by omega), up2_k (by omega), up2_k h2]
  · exact cSame.rf z
theorem mSend_same {t : MS} {n : Nat} {so wh wm ab ba te ve : Int32} {va : Int64} : mSame t (mSend t n so wh wm ab ba te ve va) := ⟨fun f j h h6 _ => mSend_mI h h6, fun f j h => mSend_mJ h⟩
theorem mSend_MB {t : MS} {n : Nat} {so wh wm ab ba te ve : Int32} {va : Int64} (h : MB t) (hte : te = 0 ∨ te = 1) : MB (mSend t n so wh wm ab ba te ve va) := by
  refine ⟨fun q => ?_, fun q => by rw [mSend_mI (by decide) (by decide)]; exact h.2.1 q, fun q => by rw [mSend_mI (by decide) (by decide)]; exact h.2.2.1 q, fun q => by rw [mSend_mI (by decide) (by decide)]; exact h.2.2.2.1 q, fun q => by rw [mSend_mI (by decide) (by decide)]; exact h.2.2.2.2 q⟩
  unfold mSend
  split
  · simp only [tSend, tI_mI, tJ_mI]
    rw [up2_k (by decide), up2_k (by decide)]
    by_cases hq : q = n
    · subst hq; rw [up2_s]; exact hte
    · rw [up2_i hq, up2_k (by decide), up2_k (by decide), up2_k (by decide), up2_k (by decide), up2_k (by decide)]; exact h.1 q
  · exact h.1 q
theorem cInv_row {z u : CS} (h : cInv z) (hs : cSame z u) (h2 : ∀ i, i < 301 → cS u 2 i < cNs z) (h3 : ∀ i, i < 301 → cS u 3 i < 301) : cInv u := by
  obtain ⟨⟨v0, v1, v2, v3, v4, v5, v6⟩, w1, w2⟩ := h
  obtain ⟨e1, e2, e3, e4, e5, e6, e7⟩ := hs
  refine ⟨⟨by rw [e2]; exact v0, fun i hi => by rw [e2, e6]; exact v1 i hi, fun i hi => by rw [e2]; exact h2 i hi, ?_, ?_, ?_, h3⟩, ?_, ?_⟩
  · rw [e1, e2, e3]; exact v3
  · rw [e1, e3]; exact v4
  · rw [e1, e3]; exact v5
  · intro i hi; rw [e7 26 i (by decide) (by decide), e7 27 i (by decide) (by decide), e4]; rw [e2] at hi; exact w1 i hi
  · intro r hr; rw [e1] at hr; rw [e2, e3, e7 15 r (by decide) (by decide)]; exact w2 r hr
theorem RR_send {z : CS} {t : MS} {n so a k r st : Nat} {b te ve : Int32} {va : Int64} (h : RR z t n) (hso : so < 5) (ha : a < 4) (hk : k < 9) (hr : r < cNr z) (hst : stM z st te ve va) : RR (fSend z (nI so) (nI a) (nI k) (nI r) (cI z 14 r) b st) (mSend t n (nI so) (nI a) (nI k) (nI r) b te ve va) (nxt n) := by
  obtain ⟨⟨hrow, hinj, h36, hms⟩, hI, hB, hrest⟩ := h
  have hn := hrow.2.1
  have hsm := fSend_same hrow (nI so) (nI a) (nI k) (nI r) (cI z 14 r) b st
  have hS3 : cS (fSend z (nI so) (nI a) (nI k) (nI r) (cI z 14 r) b st) 3 = cS z 3 := fSend_cS3 _ _ _ _ _ _ _ _
  have hI2 : cInv (fSend z (nI so) (nI a) (nI k) (nI r) (cI z 14 r) b st) := by
    refine cInv_row hI hsm (fun i hi => ?_) (fun i hi => by rw [hS3]; exact hrow.2.2 i hi)
    rw [fSend_n hrow]
    split
    · simp only [sS_cS, sI_cS]
      by_cases hq : i = cS z 3 n
      · subst hq; rw [up2_s]; exact hst.1
      · rw [up2_i hq]; exact hI.1.2.2.1 i hi
    · exact hI.1.2.2.1 i hi
  refine ⟨⟨fSend_row hrow _ _ _ _ _ _ _, fun i j hi hj e => hinj i j hi hj (by rw [hS3] at e; exact e), mSend_36 h36, fun j hj => ?_⟩, hI2, mSend_MB hB hst.2.2.1, hrest.same hsm mSend_same⟩
  rw [hS3]
  by_cases hl : n < 300
  · have hjn : j < n + 1 := by have := hj; unfold nxt at this; rw [if_pos hl] at this; exact this
    by_cases he : j = n
    · subst he
      refine ⟨so, a, k, r, hso, ha, hk, by rw [hsm.1]; exact hr, ?_⟩
      have h14 : cI (fSend z (nI so) (nI a) (nI k) (nI r) (cI z 14 r) b st) 14 r = cI z 14 r := hsm.2.2.2.2.2.2 14 r (by decide) (by decide)
      have hs2 := hsm.st hst
      rw [h14]
      have hm2 : cS (fSend z (nI so) (nI a) (nI k) (nI r) (cI z 14 r) b st) 2 (cS z 3 j) = st := by rw [fSend_n hrow, if_pos hl]; simp only [sS_cS]; exact up2_s _ _ _ _
      rw [hm2]
      have e5 : mI (mSend t j (nI so) (nI a) (nI k) (nI r) b te ve va) 5 j = te := by rw [mSend, if_pos hl]; simp [tSend, tI_mI, tJ_mI, up2]
      have e6 : mI (mSend t j (nI so) (nI a) (nI k) (nI r) b te ve va) 6 j = ve := by rw [mSend, if_pos hl]; simp [tSend, tI_mI, tJ_mI, up2]
      have e7 : mJ (mSend t j (nI so) (nI a) (nI k) (nI r) b te ve va) 7 j = va := by rw [mSend, if_pos hl]; simp [tSend, tI_mJ, tJ_mJ, up2]
      rw [e5, e6, e7]
      refine ⟨?_, ?_, ?_, ?_, ?_, ?_, ?_, ?_, ?_, ?_, hs2⟩
      · rw [mSend, if_pos hl]; simp [tSend, tI_mI, tJ_mI, up2]
      · rw [mSend, if_pos hl]; simp [tSend, tI_mI, tJ_mI, up2]
      · rw [mSend, if_pos hl]; simp [tSend, tI_mI, tJ_mI, up2]
      · rw [mSend, if_pos hl]; simp [tSend, tI_mI, tJ_mI, up2]
      · rw [fSend_n hrow, if_pos hl]; simp [sS_cI, sI_cI, up2]
      · rw [fSend_n hrow, if_pos hl]; simp [sS_cI, sI_cI, up2]
      · rw [fSend_n hrow, if_pos hl]; simp [sS_cI, sI_cI, up2]
      · rw [fSend_n hrow, if_pos hl]; simp [sS_cI, sI_cI, up2]
      · rw [fSend_n hrow, if_pos hl]; simp [sS_cI, sI_cI, up2]
      · rw [fSend_n hrow, if_pos hl, mSend, if_pos hl]; simp [sS_cI, sI_cI, tSend, tI_mI, tJ_mI, up2]
    · have hne : cS z 3 j ≠ cS z 3 n := fun e => he (hinj j n (by omega) (by omega) e)
      refine (hms j (by omega)).keep (fun f g1 g2 => ?_) ?_ (fun r _ => hsm.2.2.2.2.2.2 14 r (by decide) (by decide)) (Nat.le_of_eq hsm.1.symm) (fun st te ve va q => hsm.st q) (fun f hf => ?_) ?_
      · rw [fSend_n hrow, if_pos hl]; simp only [sS_cI, sI_cI]
        rw [up2_i hne, up2_i hne, up2_i hne, up2_i hne, up2_i hne, up2_i hne, up2_k (by omega)]
      · rw [fSend_n hrow, if_pos hl]; simp only [sS_cS, sI_cS]; exact up2_i hne
      · rw [mSend, if_pos hl]; simp only [tSend, tI_mI, tJ_mI]
        rw [up2_k (by omega), up2_i he, up2_i he, up2_i he, up2_i he, up2_i he, up2_i he, up2_i he]
      · rw [mSend, if_pos hl]; simp only [tSend, tI_mJ, tJ_mJ]; exact up2_i he
  · have hjn : j < n := by have := hj; unfold nxt at this; rw [if_neg hl] at this; exact this
    refine (hms j hjn).keep (fun f g1 g2 => by rw [fSend_n hrow, if_neg hl]) (by rw [fSend_n hrow, if_neg hl]) (fun r _ => by rw [fSend_n hrow, if_neg hl]) (Nat.le_of_eq hsm.1.symm) (fun st te ve va q => hsm.st q) (fun f hf => by rw [mSend, if_neg hl]) (by rw [mSend, if_neg hl])
theorem RR_set (k0 : Nat) : ∀ {z : CS} {t : MS} {n : Nat} (j so a r st : Nat) (its te ve : Int32) (va : Int64) (set : Int32), j + k0 = 9 → RR z t n → so < 5 → a < 4 → r < cNr z → cI z 13 r = nI a → cI z 12 r = nI r → cI z 16 r = its → small set → stM z st te ve va → ∃ n', RR (fSet k0 z j (nI so) r set st) (mSet k0 t j n (nI so) (nI a) (nI r) its te ve va set) n' := by
  induction k0 with
  | zero => intro z t n j so a r st its te ve va set hj h hso ha hr h13 h12 h16 hsm hst; exact ⟨n, h⟩
  | succ k0 ih =>
    intro z t n j so a r st its te ve va set hj h hso ha hr h13 h12 h16 hsm hst
    rw [fSet, mSet]
    have hbt := bit_test (k := j) hsm (by omega)
    by_cases hc : (set >>> (nI j &&& 31) &&& 1) = 1
    · rw [if_pos hc, if_neg (fun e => hbt.mp e hc), h13, h12, h16]
      have hsame := fSend_same h.1.1 (nI so) (nI a) (nI j) (nI r) (cI z 14 r) its st
      have e7 := hsame.2.2.2.2.2.2
      exact ih (j + 1) so a r st its te ve va set (by omega) (RR_send h hso ha (by omega) hr hst) hso ha (by rw [hsame.1]; exact hr) (by rw [e7 13 r (by decide) (by decide)]; exact h13) (by rw [e7 12 r (by decide) (by decide)]; exact h12) (by rw [e7 16 r (by decide) (by decide)]; exact h16) hsm (hsame.st hst)
    · rw [if_neg hc, if_pos (hbt.mpr hc)]
      exact ih (j + 1) so a r st its te ve va set (by omega) h hso ha hr h13 h12 h16 hsm hst
