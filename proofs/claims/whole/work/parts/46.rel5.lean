theorem work_ok {x : CS} {t : MS} {st a ch : Nat} {v : Int64} (hs : stM x st (mI t 23 a) (mI t 24 a) (mJ t 25 a)) (hch : ch < 7) :
    fFails x st ch v = mI (mWork t a ch v) 26 a ∧ (mI (mWork t a ch v) 26 a = 0 ∨ mI (mWork t a ch v) 26 a = 1) ∧
    (match fChg x st ch v with
      | none => mI (mWork t a ch v) 23 a = mI t 23 a ∧ (mI t 23 a = 1 → mI (mWork t a ch v) 24 a = mI t 24 a ∧ mJ (mWork t a ch v) 25 a = mJ t 25 a)
      | some q => q.1 = mI (mWork t a ch v) 23 a ∧ (q.1 = 0 ∨ q.1 = 1) ∧ (mI (mWork t a ch v) 23 a = 1 → q.2.1 = mI (mWork t a ch v) 24 a ∧ q.2.2 = mJ (mWork t a ch v) 25 a) ∧ (mI (mWork t a ch v) 23 a = 0 → q.2.1 = 0 ∧ q.2.2 = 0)) := by
  obtain ⟨-, h26, hb, h1, h0⟩ := hs
  rcases hb with hb | hb
  · obtain ⟨g1, g2⟩ := h0 hb
    rw [hb] at h26
    rcases (show ch = 0 ∨ ch = 1 ∨ ch = 2 ∨ ch = 3 ∨ ch = 4 ∨ ch = 5 ∨ ch = 6 by omega) with rfl | rfl | rfl | rfl | rfl | rfl | rfl <;> simp [mWork, tTail, fFails, fChg, tI_mI, tI_mJ, tJ_mI, tJ_mJ, up2, h26, hb, g1, g2]
  · obtain ⟨g1, g2⟩ := h1 hb
    rw [hb] at h26
    rcases (show ch = 0 ∨ ch = 1 ∨ ch = 2 ∨ ch = 3 ∨ ch = 4 ∨ ch = 5 ∨ ch = 6 by omega) with rfl | rfl | rfl | rfl | rfl | rfl | rfl
    · simp [mWork, tTail, fFails, fChg, tI_mI, tI_mJ, tJ_mI, tJ_mJ, up2, h26, hb, g1, g2]
    · simp [mWork, tTail, fFails, fChg, tI_mI, tI_mJ, tJ_mI, tJ_mJ, up2, h26, hb, g1, g2]
    · simp [mWork, tTail, fFails, fChg, tI_mI, tI_mJ, tJ_mI, tJ_mJ, up2, h26, hb, g1, g2]
    · by_cases e : mI t 24 a = hiW v
      · simp [mWork, tTail, fFails, fChg, tI_mI, tI_mJ, tJ_mI, tJ_mJ, up2, h26, hb, g1, g2, e]
      · simp [mWork, tTail, fFails, fChg, tI_mI, tI_mJ, tJ_mI, tJ_mJ, up2, h26, hb, g1, g2, e]
    · simp [mWork, tTail, fFails, fChg, tI_mI, tI_mJ, tJ_mI, tJ_mJ, up2, h26, hb, g1, g2]
    · simp [mWork, tTail, fFails, fChg, tI_mI, tI_mJ, tJ_mI, tJ_mJ, up2, h26, hb, g1, g2]
    · by_cases e : mJ t 25 a < v
      · simp [mWork, tTail, fFails, fChg, tI_mI, tI_mJ, tJ_mI, tJ_mJ, up2, h26, hb, g1, g2, e]
      · simp [mWork, tTail, fFails, fChg, tI_mI, tI_mJ, tJ_mI, tJ_mJ, up2, h26, hb, g1, g2, e]
theorem mWork_n {t : MS} {a ch : Nat} {v : Int64} {f i : Nat} (h : ¬ ((f = 23 ∨ f = 24 ∨ f = 26) ∧ i = a)) : mI (mWork t a ch v) f i = mI t f i := by
  have hT : ∀ (x : MS) (g se : Int32) (to : Int64), mI (tTail x a g se to) f i = mI x f i := by
    intro x g se to
    unfold tTail; split
    · simp only [tI_mI, tJ_mI]; rw [up2_n (by omega), up2_n (by omega), up2_n (by omega)]
    · simp only [tI_mI]; rw [up2_n (by omega)]
  unfold mWork; split <;> rw [hT]
  rw [tI_mI, up2_n (by omega)]
theorem mWork_nJ {t : MS} {a ch : Nat} {v : Int64} {f i : Nat} (h : ¬ (f = 25 ∧ i = a)) : mJ (mWork t a ch v) f i = mJ t f i := by
  have hT : ∀ (x : MS) (g se : Int32) (to : Int64), mJ (tTail x a g se to) f i = mJ x f i := by
    intro x g se to
    unfold tTail; split
    · simp only [tI_mJ, tJ_mJ]; rw [up2_n h]
    · simp only [tI_mJ]
  unfold mWork; split <;> rw [hT]
  rfl
theorem cur_of {z : CS} {t : MS} {n a r : Nat} (h : RR z t n) (ha : a < 4) (hcur : cR z 1 a = some r) : CurOk z t a r := by
  rcases h.now ha with q | ⟨r', q1, q2⟩
  · rw [hcur] at q; cases q.1
  · rw [hcur] at q1; cases q1; exact q2
theorem MB_a {t s : MS} {a : Nat} (h : MB t) (hm : ∀ f i, ¬ (20 ≤ f ∧ f ≤ 26 ∧ i = a) → mI s f i = mI t f i) (h23 : mI s 23 a = 0 ∨ mI s 23 a = 1) (h26 : mI s 26 a = 0 ∨ mI s 26 a = 1) : MB s := by
  refine MB_of h (fun q => hm 5 q (by omega)) (fun q => by rw [hm 11 q (by omega)]; exact h.2.1 q) (fun q => ?_) (fun q => ?_) (fun q => by rw [hm 8 q (by omega)]; exact h.2.2.2.2 q)
  · by_cases e : q = a
    · subst e; exact h23
    · rw [hm 23 q (by omega)]; exact h.2.2.1 q
  · by_cases e : q = a
    · subst e; exact h26
    · rw [hm 26 q (by omega)]; exact h.2.2.2.1 q
/-- the request begins to be accepted: the change is worked -/
theorem RR_begin {z w : CS} {t : MS} {n a r st k : Nat} (h : RR z t n) (ha : a < 4) (hcur : cR z 1 a = some r) (hst : cR z 3 r = some st) (hk : cI z 15 r = nI k) (hk7 : k < 7) (hw : beginTo z r st k (cJ z 0 r) w) : RR w (tI (tI (mWork t a k (mJ t 29 r)) 20 a 1) 21 a 0) n ∧ cR w 1 a = some r := by
  have hcz := cur_of h ha hcur
  have hrq := h.req hcz.1
  have hargs : cJ z 0 r = mJ t 29 r := hrq.2.2.2.2.2.2.1
  obtain ⟨h1, h2, h3, h4, h5, h6, h7, h8, h9, ⟨st', s1, s2⟩, h12, h13, h14, h15, h16⟩ := hcz
  have hse : st' = st := by rw [hst] at s1; cases s1; rfl
  subst hse
  rw [hargs] at hw
  obtain ⟨w1, w2, w3⟩ := work_ok (v := mJ t 29 r) s2 hk7
  have em : ∀ f i, ¬ (20 ≤ f ∧ f ≤ 26 ∧ i = a) → mI (tI (tI (mWork t a k (mJ t 29 r)) 20 a 1) 21 a 0) f i = mI t f i := fun f i g => by
    simp only [tI_mI]; rw [up2_n (by omega), up2_n (by omega), mWork_n (by omega)]
  have ej : ∀ f i, ¬ (f = 25 ∧ i = a) → mJ (tI (tI (mWork t a k (mJ t 29 r)) 20 a 1) 21 a 0) f i = mJ t f i := fun f i g => by
    simp only [tI_mJ]; rw [mWork_nJ g]
  have eW : ∀ f, f ≠ 20 → f ≠ 21 → mI (tI (tI (mWork t a k (mJ t 29 r)) 20 a 1) 21 a 0) f a = mI (mWork t a k (mJ t 29 r)) f a := fun f g1 g2 => by
    simp only [tI_mI]; rw [up2_k g2, up2_k g1]
  have e20 : mI (tI (tI (mWork t a k (mJ t 29 r)) 20 a 1) 21 a 0) 20 a = 1 := by simp only [tI_mI]; rw [up2_k (by decide), up2_s]
  have e21 : mI (tI (tI (mWork t a k (mJ t 29 r)) 20 a 1) 21 a 0) 21 a = 0 := by simp only [tI_mI]; rw [up2_s]
  have e25 : mJ (tI (tI (mWork t a k (mJ t 29 r)) 20 a 1) 21 a 0) 25 a = mJ (mWork t a k (mJ t 29 r)) 25 a := by simp only [tI_mJ]
  generalize hs : tI (tI (mWork t a k (mJ t 29 r)) 20 a 1) 21 a 0 = s at *
  have hB : MB s := by
    refine MB_a h.2.2.1 em ?_ ?_
    · rw [eW 23 (by decide) (by decide)]; exact mWork_23 (h.2.2.1.2.2.1 a)
    · rw [eW 26 (by decide) (by decide)]; exact w2
  have fin : ∀ (u : CS) (st2 : Nat), cNr u = cNr z → cNs z ≤ cNs u → (∀ f i, ¬ (20 ≤ f ∧ f ≤ 23 ∧ i = r) → ¬ ((f = 26 ∨ f = 27) ∧ cNs z ≤ i) → cI u f i = cI z f i) → (∀ f i, ¬ (f = 1 ∧ cNs z ≤ i) → cJ u f i = cJ z f i) → (∀ f i, ¬ (f = 3 ∧ i = r) → cR u f i = cR z f i) → cS u = cS z → cE u = cE z → cInv u → cI u 20 r = 1 → cI u 21 r = 0 → cI u 22 r = cI z 22 r → cI u 23 r = fFails z st' k (mJ t 29 r) → cR u 3 r = some st2 → stM u st2 (mI s 23 a) (mI s 24 a) (mJ s 25 a) → RR u s n ∧ cR u 1 a = some r := by
    intro u st2 eN eNs eI eJ eR eS eE eInv u20 u21 u22 u23 u3 ust
    refine ⟨RR_cur h ha hcur eN eNs eI eJ eR eS eE em ej eInv hB ?_, by rw [eR 1 a (by omega)]; exact hcur⟩
    unfold CurOk
    rw [eN, eI 13 r (by omega) (by omega), eI 24 r (by omega) (by omega), eI 17 r (by omega) (by omega), eI 18 r (by omega) (by omega), eI 19 r (by omega) (by omega), u20, u21, u22, u23, em 19 a (by omega), e20, e21, eW 22 (by decide) (by decide), mWork_n (by omega), em 18 (2 * a) (by omega), em 18 (2 * a + 1) (by omega), em 17 (2 * a + 1) (by omega), eW 26 (by decide) (by decide)]
    exact ⟨h1, h2, h3, h4, rfl, Or.inr rfl, rfl, small_0, h9, ⟨st2, u3, ust⟩, h12, h13, h14, h15, fun _ => w1⟩
  have hstlt : st' < cNs z := s2.1
  unfold beginTo at hw
  cases hc : fChg z st' k (mJ t 29 r) with
  | none =>
    rw [hc] at hw w3
    simp only at hw w3
    subst hw
    refine fin _ st' rfl (Nat.le_refl _) (fun f i g1 g2 => ?_) (fun _ _ _ => rfl) (fun f i g => ?_) rfl rfl ?_ ?_ ?_ ?_ ?_ ?_ ?_
    · simp only [sI_cI, sR_cI]; rw [up2_n (by omega), up2_n (by omega), up2_n (by omega)]
    · simp only [sI_cR, sR_cR]; exact up2_n g
    · exact cInv_I (cInv_I (cInv_R3 (cInv_I h.2.1 (by decide) (by decide) (by decide)) hstlt) (by decide) (by decide) (by decide)) (by decide) (by decide) (by decide)
    · simp only [sI_cI, sR_cI]; rw [up2_k (by decide), up2_s]
    · simp only [sI_cI, sR_cI]; rw [up2_s]
    · simp only [sI_cI, sR_cI]; rw [up2_k (by decide), up2_k (by decide), up2_k (by decide)]
    · simp only [sI_cI, sR_cI]; rw [up2_k (by decide), up2_k (by decide), up2_s]
    · simp only [sI_cR, sR_cR]; exact up2_s _ _ _ _
    · rw [eW 23 (by decide) (by decide), eW 24 (by decide) (by decide), e25, w3.1]
      obtain ⟨x1, x2, x3, x4, x5⟩ := s2
      refine ⟨x1, ?_, x3, fun g => ?_, fun g => ?_⟩
      · simp only [sI_cI, sR_cI]; rw [up2_k (by decide), up2_k (by decide), up2_k (by decide)]; exact x2
      · obtain ⟨y1, y2⟩ := w3.2 g
        rw [y1, y2]; simp only [sI_cI, sR_cI]; rw [up2_k (by decide), up2_k (by decide), up2_k (by decide)]; exact x4 g
      · simp only [sI_cI, sR_cI]; rw [up2_k (by decide), up2_k (by decide), up2_k (by decide)]; exact x5 g
  | some q =>
    rw [hc] at hw w3
    simp only at hw w3
    obtain ⟨ad, hw⟩ := hw
    have hN1 : cNs (sI z 23 r (fFails z st' k (mJ t 29 r))) = cNs z := rfl
    generalize hy : newS (sI z 23 r (fFails z st' k (mJ t 29 r))) ad q.1 q.2.1 q.2.2 = y at hw
    have yI : ∀ f i, ¬ ((f = 26 ∨ f = 27) ∧ i = cNs z) → cI y f i = up2 (cI z) 23 r (fFails z st' k (mJ t 29 r)) f i := fun f i g => by rw [← hy]; exact newS_cI (sI z 23 r (fFails z st' k (mJ t 29 r))) ad _ _ _ g
    have y26 : cI y 26 (cNs z) = q.1 := by rw [← hy]; exact newS_26 _ _ _ _ _
    have y27 : cI y 27 (cNs z) = q.2.1 := by rw [← hy]; exact newS_27 _ _ _ _ _
    have yJ1 : cJ y 1 (cNs z) = q.2.2 := by rw [← hy]; exact newS_1 _ _ _ _ _
    have yJ : ∀ f i, ¬ (f = 1 ∧ i = cNs z) → cJ y f i = cJ z f i := fun f i g => by rw [← hy]; exact newS_cJ (sI z 23 r (fFails z st' k (mJ t 29 r))) ad _ _ _ g
    have yN : cNs y = cNs z + 1 := by rw [← hy]; rfl
    have yNr : cNr y = cNr z := by rw [← hy]; rfl
    have yR : cR y = cR z := by rw [← hy]; rfl
    have yS : cS y = cS z := by rw [← hy]; rfl
    have yE : cE y = cE z := by rw [← hy]; rfl
    have hq01 : q.1 = 1 ∨ (q.1 = 0 ∧ q.2.1 = 0 ∧ q.2.2 = 0) := by
      rcases w3.2.1 with g | g
      · exact Or.inr ⟨g, w3.2.2.2 (w3.1.symm.trans g)⟩
      · exact Or.inl g
    have yInv : cInv y := by rw [← hy]; exact cInv_newS (cInv_I h.2.1 (by decide) (by decide) (by decide)) hq01
    clear hy
    subst hw
    refine fin _ (cNs z) yNr (by show cNs z ≤ cNs y; omega) (fun f i g1 g2 => ?_) (fun f i g => ?_) (fun f i g => ?_) yS yE ?_ ?_ ?_ ?_ ?_ ?_ ?_
    · simp only [sI_cI, sR_cI]; rw [up2_n (by omega), up2_n (by omega), yI f i (by omega), up2_n (by omega)]
    · show cJ y f i = cJ z f i
      exact yJ f i (by omega)
    · simp only [sI_cR, sR_cR]; rw [up2_n g, yR]
    · exact cInv_I (cInv_I (cInv_R3 yInv (by omega)) (by decide) (by decide) (by decide)) (by decide) (by decide) (by decide)
    · simp only [sI_cI, sR_cI]; rw [up2_k (by decide), up2_s]
    · simp only [sI_cI, sR_cI]; rw [up2_s]
    · simp only [sI_cI, sR_cI]; rw [up2_k (by decide), up2_k (by decide), yI 22 r (by omega), up2_k (by decide)]
    · simp only [sI_cI, sR_cI]; rw [up2_k (by decide), up2_k (by decide), yI 23 r (by omega), up2_s]
    · simp only [sI_cR, sR_cR]; exact up2_s _ _ _ _
    · rw [eW 23 (by decide) (by decide), eW 24 (by decide) (by decide), e25]
      refine ⟨by show cNs z < cNs y; omega, ?_, by rw [← w3.1]; exact w3.2.1, fun g => ?_, fun g => ?_⟩
      · simp only [sI_cI, sR_cI]; rw [up2_k (by decide), up2_k (by decide), y26]; exact w3.1
      · show cI (sI (sI (sR y 3 r (some (cNs z))) 20 r 1) 21 r 0) 27 (cNs z) = _ ∧ cJ y 1 (cNs z) = _
        simp only [sI_cI, sR_cI]; rw [up2_k (by decide), up2_k (by decide), y27, yJ1]; exact w3.2.2.1 g
      · show cI (sI (sI (sR y 3 r (some (cNs z))) 20 r 1) 21 r 0) 27 (cNs z) = _ ∧ cJ y 1 (cNs z) = _
        simp only [sI_cI, sR_cI]; rw [up2_k (by decide), up2_k (by decide), y27, yJ1]; exact w3.2.2.2 g
theorem MB_hear {t : MS} {a : Nat} {b te ve : Int32} {va : Int64} (h : MB t) (hte : te = 0 ∨ te = 1) : MB (mHear t a b te ve va) := by
  refine MB_of h (fun q => by rw [mHear_mI (by decide) (by decide) (by decide)]) (fun q => by rw [mHear_mI (by decide) (by decide) (by decide)]; exact h.2.1 q) (fun q => ?_) (fun q => by rw [mHear_mI (by decide) (by decide) (by decide)]; exact h.2.2.2.1 q) (fun q => by rw [mHear_mI (by decide) (by decide) (by decide)]; exact h.2.2.2.2 q)
  unfold mHear; split
  · exact h.2.2.1 q
  · simp only [tI_mI, tJ_mI]; rw [up2_k (by decide)]
    by_cases e : q = a
    · subst e; rw [up2_s]; exact hte
    · rw [up2_i e, up2_k (by decide)]; exact h.2.2.1 q
/-- an answer to a preparing request: the greater ballot's state is taken over -/
theorem RR_hear {z : CS} {t : MS} {n a r st : Nat} {b te ve : Int32} {va : Int64} (h : RR z t n) (ha : a < 4) (hcur : cR z 1 a = some r) (hst : stM z st te ve va) (h20 : mI t 20 a = 0) : RR (fHear z r b st) (mHear t a b te ve va) n := by
  have hcz := cur_of h ha hcur
  unfold fHear mHear
  rw [hcz.2.2.2.2.2.2.2.2.1]
  by_cases hb : b ≤ mI t 22 a
  · rw [if_pos hb, if_pos hb]; exact h
  · rw [if_neg hb, if_neg hb]
    have hB : MB (tJ (tI (tI (tI t 22 a b) 23 a te) 24 a ve) 25 a va) := by have := MB_hear (a := a) (b := b) (te := te) (ve := ve) (va := va) h.2.2.1 hst.2.2.1; unfold mHear at this; rw [if_neg hb] at this; exact this
    refine RR_cur h ha hcur rfl (Nat.le_refl _) (fun f i g _ => ?_) (fun _ _ _ => rfl) (fun f i g => ?_) rfl rfl (fun f i g => ?_) (fun f i g => ?_) ?_ hB ?_
    · simp only [sR_cI, sI_cI]; rw [up2_n (by omega)]
    · simp only [sR_cR, sI_cR]; exact up2_n g
    · simp only [tI_mI, tJ_mI]; rw [up2_n (by omega), up2_n (by omega), up2_n (by omega)]
    · simp only [tI_mJ, tJ_mJ]; exact up2_n g
    · exact cInv_R3 (cInv_I h.2.1 (by decide) (by decide) (by decide)) hst.1
    · obtain ⟨h1, h2, h3, h4, h5, h6, h7, h8, h9, -, h12, h13, h14, h15, h16⟩ := hcz
      have eI : ∀ f, f ≠ 22 → cI (sR (sI z 22 r b) 3 r (some st)) f r = cI z f r := fun f g => by simp only [sR_cI, sI_cI]; exact up2_k g
      have em : ∀ f i, f ≠ 22 → f ≠ 23 → f ≠ 24 → mI (tJ (tI (tI (tI t 22 a b) 23 a te) 24 a ve) 25 a va) f i = mI t f i := fun f i g1 g2 g3 => by simp only [tI_mI, tJ_mI]; rw [up2_k g3, up2_k g2, up2_k g1]
      unfold CurOk
      rw [eI 13 (by decide), eI 24 (by decide), eI 20 (by decide), eI 21 (by decide), eI 17 (by decide), eI 18 (by decide), eI 19 (by decide), eI 23 (by decide), em 19 a (by decide) (by decide) (by decide), em 20 a (by decide) (by decide) (by decide), em 21 a (by decide) (by decide) (by decide), em 18 _ (by decide) (by decide) (by decide), em 18 _ (by decide) (by decide) (by decide), em 17 _ (by decide) (by decide) (by decide), em 26 _ (by decide) (by decide) (by decide), show cI (sR (sI z 22 r b) 3 r (some st)) 22 r = b from up2_s _ _ _ _, show mI (tJ (tI (tI (tI t 22 a b) 23 a te) 24 a ve) 25 a va) 22 a = b from by simp [tI_mI, tJ_mI, up2], show mI (tJ (tI (tI (tI t 22 a b) 23 a te) 24 a ve) 25 a va) 23 a = te from by simp [tI_mI, tJ_mI, up2], show mI (tJ (tI (tI (tI t 22 a b) 23 a te) 24 a ve) 25 a va) 24 a = ve from by simp [tI_mI, tJ_mI, up2], show mJ (tJ (tI (tI (tI t 22 a b) 23 a te) 24 a ve) 25 a va) 25 a = va from up2_s _ _ _ _]
      refine ⟨h1, h2, h3, h4, h5, h6, h7, h8, rfl, ⟨st, up2_s _ _ _ _, hst.same (Nat.le_refl _) ?_ ?_ rfl⟩, h12, h13, h14, h15, h16⟩
      · simp only [sR_cI, sI_cI]; exact up2_k (by decide)
      · simp only [sR_cI, sI_cI]; exact up2_k (by decide)
/-- the order of counting and hearing makes no matter -/
theorem hear_ans {t : MS} {a : Nat} {v b te ve : Int32} {va : Int64} : tI (mHear t a b te ve va) 21 a v = mHear (tI t 21 a v) a b te ve va := by
  have hc : ∀ (f : Nat → Nat → Int32) (j : Nat) (w : Int32), j ≠ 21 → up2 (up2 f j a w) 21 a v = up2 (up2 f 21 a v) j a w := by
    intro f j w hj; funext x i; unfold up2
    by_cases h1 : x = 21 ∧ i = a
    · rw [if_pos h1, if_neg (by omega), if_pos h1]
    · rw [if_neg h1]
      by_cases h2 : x = j ∧ i = a
      · rw [if_pos h2, if_pos h2]
      · rw [if_neg h2, if_neg h2, if_neg h1]
  unfold mHear
  rw [show mI (tI t 21 a v) 22 a = mI t 22 a from by rw [tI_mI, up2_k (by decide)]]
  split
  · rfl
  · show (_, up2 (up2 (up2 (up2 (mI t) 22 a b) 23 a te) 24 a ve) 21 a v, _) = (_, up2 (up2 (up2 (up2 (mI t) 21 a v) 22 a b) 23 a te) 24 a ve, _)
    rw [hc _ 24 ve (by decide), hc _ 23 te (by decide), hc _ 22 b (by decide)]
    rfl
theorem RR_prom {z u : CS} {t : MS} {n m a k r q ch : Nat} {b te ve : Int32} {va : Int64} (h : RR z t n) (hf : MF z m a k r q b te ve va) (hch : mI t 28 r = nI ch) (hch7 : ch < 7) (hu : promTo z m a u) : ∃ n', RR u (mProm t n a k r ch b te ve va) n' := by
  have hk := hf.2.2.2.2.2.2.2.2.1
  have ha := hf.2.2.2.2.2.2.2.1
  have h8m := hf.2.1
  have hb := hf.2.2.2.2.2.1
  have hst := hf.2.2.2.2.2.2.1
  obtain ⟨e1, e2⟩ := await_eq (acc := 0) h hf
  unfold promTo at hu
  unfold mProm
  rw [e1] at hu
  by_cases hc : mI t 19 a = nI r ∧ mI t 20 a = 0 ∧ ¬ (mI t 21 a >>> (nI k &&& 31) &&& 1) = 1
  · rw [if_pos hc] at hu ⊢
    have hcur := e2 hc.1
    have hcz := cur_of h ha hcur
    have hsm : small (mAns t a k) := small_or hcz.2.2.2.2.2.2.2.1 hk
    simp only at hu
    rw [hb] at hu
    have h1 := RR_hear (b := b) h ha hcur hst hc.2.1
    have hcur1 : cR (fHear z r b (cS z 2 m)) 1 a = some r := by rw [fHear_cR _ _ _ _ (by omega)]; exact hcur
    have hansE : ansd (fHear z r b (cS z 2 m)) r m = sI (fHear z r b (cS z 2 m)) 21 r (mAns t a k) := by
      unfold ansd mAns
      rw [fHear_cI _ _ _ _ (by decide), fHear_cI _ _ _ _ (by decide), hcz.2.2.2.2.2.2.1, h8m]
    rw [hansE] at hu
    have h2 := RR_ans h1 ha hcur1 hsm
    rw [hear_ans] at h2
    have hcur2 : cR (sI (fHear z r b (cS z 2 m)) 21 r (mAns t a k)) 1 a = some r := hcur1
    generalize hx : sI (fHear z r b (cS z 2 m)) 21 r (mAns t a k) = x at *
    generalize hy : mHear (tI t 21 a (mAns t a k)) a b te ve va = y at *
    have hcx := cur_of h2 ha hcur2
    have h21 : cI x 21 r = mAns t a k := by rw [← hx, sI_cI, up2_s]
    have y28 : mI y 28 r = nI ch := by rw [← hy, mHear_mI (by decide) (by decide) (by decide), tI_mI, up2_k (by decide)]; exact hch
    unfold promR at hu
    have y18 : mI y 18 (2 * a) = mI t 18 (2 * a) := by rw [← hy, mHear_mI (by decide) (by decide) (by decide), tI_mI, up2_k (by decide)]
    rw [h21, bits_eq hsm, hcx.2.2.2.2.2.2.2.2.2.2.1, y18] at hu
    by_cases hbt : mBits 9 (mAns t a k) 0 0 < mI t 18 (2 * a)
    · rw [if_pos hbt] at hu ⊢
      subst hu; exact ⟨n, h2⟩
    · rw [if_neg hbt] at hu ⊢
      obtain ⟨st, k1, w, st3, g1, g2, g3, g4, g5, g6⟩ := hu
      have hk1 : k1 = ch := by
        have e15 := (h2.req hcx.1).2.2.2.2.1
        rw [g2, y28] at e15
        exact (nI_eq (by omega) (by omega)).mp e15
      subst hk1
      obtain ⟨h3, hcur3⟩ := RR_begin h2 ha hcur2 g1 g2 g3 g4
      have hcw := cur_of h3 ha hcur3
      have hrw := h3.req hcw.1
      obtain ⟨st4, s1, s2⟩ := hcw.2.2.2.2.2.2.2.2.2.1
      have hs34 : st4 = st3 := by rw [g5] at s1; cases s1; rfl
      subst hs34
      rw [g6, hcw.2.2.2.2.2.2.2.2.2.2.2.1]
      unfold mBegin
      have z17 : mI (tI (tI (mWork y a k1 (mJ y 29 r)) 20 a 1) 21 a 0) 17 (2 * a + 1) = mI y 17 (2 * a + 1) := by simp only [tI_mI]; rw [up2_k (by decide), up2_k (by decide), mWork_n (by omega)]
      have z30 : mI (tI (tI (mWork y a k1 (mJ y 29 r)) 20 a 1) 21 a 0) 30 r = mI y 30 r := by simp only [tI_mI]; rw [up2_k (by decide), up2_k (by decide), mWork_n (by omega)]
      have z23 : mI (tI (tI (mWork y a k1 (mJ y 29 r)) 20 a 1) 21 a 0) 23 a = mI (mWork y a k1 (mJ y 29 r)) 23 a := by simp only [tI_mI]; rw [up2_k (by decide), up2_k (by decide)]
      have z24 : mI (tI (tI (mWork y a k1 (mJ y 29 r)) 20 a 1) 21 a 0) 24 a = mI (mWork y a k1 (mJ y 29 r)) 24 a := by simp only [tI_mI]; rw [up2_k (by decide), up2_k (by decide)]
      have z25 : mJ (tI (tI (mWork y a k1 (mJ y 29 r)) 20 a 1) 21 a 0) 25 a = mJ (mWork y a k1 (mJ y 29 r)) 25 a := rfl
      rw [z17]
      rw [z23, z24, z25] at s2
      have h17s := hcw.2.2.2.2.2.2.2.2.2.2.2.2.1
      rw [z17] at h17s
      exact RR_set 9 0 2 a r st4 (mI y 30 r) _ _ _ _ (by decide) h3 (by decide) ha hcw.1 hcw.2.2.1 hrw.2.1 (by rw [hrw.2.2.2.2.2.2.2.1, z30]) h17s s2
  · rw [if_neg hc] at hu ⊢
    simp only at hu
    subst hu; exact ⟨n, h⟩
