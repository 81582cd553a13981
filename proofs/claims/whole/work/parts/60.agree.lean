/-! THE TWO SIDES' ANSWERS AGREE: pure rows, a row a method -/
theorem tI_38 {z : MS} {f i : Nat} {v : Int32} (h : f ≠ 38) : mI (tI z f i v) 38 0 = mI z 38 0 := by rw [tI_mI]; exact up2_k (fun e => h e.symm)
theorem mSend_38 (z : MS) (n : Nat) (so wh wm ab ba te ve : Int32) (va : Int64) : mI (mSend z n so wh wm ab ba te ve va) 38 0 = mI z 38 0 := by
  unfold mSend; split
  · simp [tSend, tI_mI, tJ_mI, up2]
  · rfl
theorem mSet_38 (k : Nat) : ∀ (x : MS) (j n : Nat) (so a r its te ve : Int32) (va : Int64) (set : Int32), mI (mSet k x j n so a r its te ve va set) 38 0 = mI x 38 0 := by
  induction k with
  | zero => intros; rfl
  | succ k ih => intro x j n so a r its te ve va set; rw [mSet]; split; rw [ih, mSend_38]; rw [ih]
theorem mHear_38 (z : MS) (a : Nat) (b te ve : Int32) (va : Int64) : mI (mHear z a b te ve va) 38 0 = mI z 38 0 := by
  unfold mHear; split
  · rfl
  · simp [tI_mI, tJ_mI, up2]
theorem tTail_38 (x : MS) (a : Nat) (f se : Int32) (to : Int64) : mI (tTail x a f se to) 38 0 = mI x 38 0 := by unfold tTail; split <;> simp [tI_mI, tJ_mI, up2]
theorem mWork_38 (z : MS) (a k : Nat) (v : Int64) : mI (mWork z a k v) 38 0 = mI z 38 0 := by
  unfold mWork; split <;> (rw [tTail_38]; try simp [tI_mI, tJ_mI, up2])
theorem mTk_38 (x : MS) (n so a k r q ch : Nat) (b te ve : Int32) (va : Int64) : mI (mTk x n so a k r q ch b te ve va) 38 0 = mI x 38 0 := by
  unfold mTk
  split
  · split
    · unfold mPrep; split
      · rw [mSend_38, tI_38 (by decide)]
      · rw [mRefuse, mSend_38]
    · rfl
  · unfold mProm; split
    · split
      · rw [mHear_38, tI_38 (by decide)]
      · rw [mBegin, mSet_38, tI_38 (by decide), tI_38 (by decide), mWork_38, mHear_38, tI_38 (by decide)]
    · rfl
  · split
    · unfold mAcc; split
      · rw [mSend_38]; simp [tAcc, tI_mI, tJ_mI, up2]
      · rw [mRefuse, mSend_38]
    · rfl
  · unfold mTaken; split
    · split
      · rw [tI_38 (by decide)]
      · simp [tEnd, tI_mI, tJ_mI, up2]
    · rfl
  · unfold mRefd; split <;> simp [tI_mI, tJ_mI, up2]
theorem mTake_38 (z : MS) (i n : Nat) : mI (mTake z i n) 38 0 = mI z 38 0 := by rw [mTake, mTk_38, mDrop_mI (by decide) (by decide)]
theorem mCopy_38 (j : Nat) : ∀ (z : MS) (t f k : Nat), mI (mCopy j z t f k) 38 0 = mI z 38 0 := by
  induction j with
  | zero => intros; rfl
  | succ j ih => intro z t f k; rw [mCopy, ih, mCatch_38]
theorem mCopy_mA (j : Nat) : ∀ (z : MS) (t f k : Nat), mA (mCopy j z t f k) = mA z := by
  induction j with
  | zero => intros; rfl
  | succ j ih => intro z t f k; rw [mCopy, ih, mCatch_mA]
theorem fCopy_cA (j : Nat) : ∀ (z : CS) (t f k : Nat), cA (fCopy j z t f k) = cA z := by
  induction j with
  | zero => intros; rfl
  | succ j ih => intro z t f k; rw [fCopy, ih, fCatch_cA]
theorem inR_of {a n : Nat} (h : a < n) (hn : n < 2 ^ 31) : inR (nI a) (nI n) := ⟨nI_pos (by omega), nI_lt h hn⟩
theorem inG_of {a : Nat} (h : a ≤ 1000) : inG (nI a) 0 1000 := ⟨nI_pos (by omega), nI_le (b := 1000) h (by decide)⟩
/-- what the law wants of a call's two answers -/
def Agr (z : CS) (t : MS) (w : Int32) (u : CS) (s : MS) : Prop := mI s 38 0 = w ∧ (∃ n, RR u s n) ∧ cA u 6 0 = cA z 6 0 ∧ mA s 0 0 = mA t 0 0
def AgI (w : Int32) (o : Int64) (v : Value) : Prop := ∃ x : Int32, v = .int x ∧ (w = 0 → o = x.toInt64)
theorem t38 (t : MS) (v : Int32) : mI (tI t 38 0 v) 38 0 = v := by rw [tI_mI]; exact up2_s _ _ _ _
theorem Agr_0 {z : CS} {t : MS} {n : Nat} (v : Int32) (h : RR z t n) : Agr z t v z (tI t 38 0 v) := ⟨t38 t v, ⟨n, RR_t h⟩, rfl, rfl⟩
theorem takeTo_ex {z : CS} {t : MS} {n j so a k q : Nat} (h : RR z t n) (hj : j < n) (hmo : msgOk z (cS z 3 j) so a k q) : ∃ u, takeTo (fDraw z j n) (cS z 3 j) so a k q u := by
  have h2 : cInv (fDraw z j n) := (RR_draw h hj).2.1
  have hn := h.1.1.2.1
  have hm : cS z 3 j < 301 := h.1.1.2.2 j (by omega)
  generalize fDraw z j n = x at h2
  unfold takeTo
  split
  · exact ⟨_, rfl⟩
  · unfold promTo
    cases ho : fAwait x (cS z 3 j) a 0 with
    | none => exact ⟨_, rfl⟩
    | some r =>
      have hr := (fAwait_lt (fun r hr => h2.1.2.2.2.2.1 a r hr) ho).1
      have h3 : cInv (ansd (fHear x r (cI x 11 (cS z 3 j)) (cS x 2 (cS z 3 j))) r (cS z 3 j)) := cInv_I (cInv_hear h2 (h2.1.2.2.1 _ hm)) (by decide) (by decide) (by decide)
      have hr3 : r < cNr (ansd (fHear x r (cI x 11 (cS z 3 j)) (cS x 2 (cS z 3 j))) r (cS z 3 j)) := by
        show r < cNr (fHear x r _ _)
        rw [fHear_cNr]; exact hr
      show ∃ u, promR (ansd (fHear x r (cI x 11 (cS z 3 j)) (cS x 2 (cS z 3 j))) r (cS z 3 j)) r u
      generalize ansd (fHear x r (cI x 11 (cS z 3 j)) (cS x 2 (cS z 3 j))) r (cS z 3 j) = y at h3 hr3
      unfold promR
      split
      · exact ⟨_, rfl⟩
      · obtain ⟨⟨k, hk7, hk⟩, st, -, hst⟩ := h3.2.2 r hr3
        cases hc : fChg y st k (cJ y 0 r) with
        | none => exact ⟨_, st, k, _, st, hst, hk, hk7, (by unfold beginTo; rw [hc]), (by simp only [sI_cR, sR_cR]; exact up2_s _ _ _ _), rfl⟩
        | some t9 => exact ⟨_, st, k, _, cNs y, hst, hk, hk7, (by unfold beginTo; rw [hc]; exact ⟨0, rfl⟩), (by simp only [sI_cR, sR_cR]; exact up2_s _ _ _ _), rfl⟩
  · exact ⟨_, rfl⟩
  · exact ⟨_, rfl⟩
  · exact ⟨_, rfl⟩
/-- the reference after d messages taken in their order -/
def mSteps : Nat → MS → MS
  | 0, t => t
  | d + 1, t => mTake (mSteps d t) 0 (iN (mI (mSteps d t) 36 0))
theorem mSteps_mA (d : Nat) (t : MS) : mA (mSteps d t) = mA t := by
  induction d with
  | zero => rfl
  | succ d ih => rw [mSteps, mTake_mA, ih]
theorem mSteps_38 (d : Nat) (t : MS) : mI (mSteps d t) 38 0 = mI t 38 0 := by
  induction d with
  | zero => rfl
  | succ d ih => rw [mSteps, mTake_38, ih]
def Jm (t : MS) (d : Nat) (x : MS) : Prop := x = mSteps d (tI t 38 0 0) ∧ ∃ z n, RR z x n
def Jc (z : CS) (t : MS) (d : Nat) (x : CS) : Prop := (∃ n, RR x (mSteps d (tI t 38 0 0)) n) ∧ cA x 6 0 = cA z 6 0
theorem RR.n36 {z : CS} {t : MS} {n : Nat} (h : RR z t n) : mI t 36 0 = nI n ∧ n ≤ 300 ∧ cI z 25 0 = nI n := ⟨h.1.2.2.1, h.1.1.2.1, h.1.1.1⟩
theorem Jm_0 {z : CS} {t : MS} {n : Nat} (h : RR z t n) : Jm t 0 (tI t 38 0 0) := ⟨rfl, z, n, RR_t h⟩
theorem Jm_s {t : MS} (d : Nat) (x : MS) (h : Jm t d x) : ∃ n, mI x 36 0 = nI n ∧ n ≤ 300 ∧ MB x ∧ mI x 38 0 = 0 ∧ (0 < n → (∃ so a k r q ch, mMsg x 0 so a k r q ch) ∧ Jm t (d + 1) (mTake x 0 n)) := by
  obtain ⟨hx, z, n, hR⟩ := h
  obtain ⟨g1, g2, g3⟩ := hR.n36
  refine ⟨n, g1, g2, hR.2.2.1, by rw [hx, mSteps_38, t38], fun h0 => ?_⟩
  obtain ⟨so, a, k, r, q, ch, h1, h2, h3⟩ := hR.msg h0
  obtain ⟨u, hu⟩ := takeTo_ex hR h0 h2
  obtain ⟨⟨n', hR'⟩, -⟩ := RR_take hR h0 h2 hu
  refine ⟨⟨so, a, k, r, q, ch, h1⟩, ?_, u, n', hR'⟩
  rw [mSteps, ← hx, g1, iN_nI (by omega)]
theorem Jc_0 {z : CS} {t : MS} {n : Nat} (h : RR z t n) : Jc z t 0 z := ⟨⟨n, RR_t h⟩, rfl⟩
theorem Jc_s {z : CS} {t : MS} (d : Nat) (x : CS) (h : Jc z t d x) : ∃ n, RowOk x n ∧ cInv x ∧ (0 < n → ∃ so a k q, msgOk x (cS x 3 0) so a k q ∧ ∀ u, takeTo (fDraw x 0 n) (cS x 3 0) so a k q u → Jc z t (d + 1) u) := by
  obtain ⟨⟨n, hR⟩, h6⟩ := h
  obtain ⟨g1, g2, g3⟩ := hR.n36
  refine ⟨n, hR.1.1, hR.2.1, fun h0 => ?_⟩
  obtain ⟨so, a, k, r, q, ch, h1, h2, h3⟩ := hR.msg h0
  refine ⟨so, a, k, q, h2, fun u hu => ?_⟩
  obtain ⟨⟨n', hR'⟩, -⟩ := RR_take hR h0 h2 hu
  refine ⟨⟨n', ?_⟩, by rw [takeTo_cA hu (by decide), fDraw_cA]; exact h6⟩
  rw [mSteps, g1, iN_nI (by omega)]
  exact hR'
theorem nI_z {n : Nat} (h : n ≤ 300) (h0 : nI n = 0) : n = 0 := by
  by_cases e : n = 0
  · exact e
  · exact absurd h0 (nI_ne0 (by omega) (by omega))
