theorem st_ver {z : CS} {st : Nat} {te ve : Int32} {va : Int64} (h : stM z st te ve va) : (if cI z 26 st = 0 then (-1 : Int32) else cI z 27 st) = if te = 0 then -1 else ve := by
  obtain ⟨h1, h2, h3, h4, h5⟩ := h
  rw [h2]
  by_cases e : te = 0
  · rw [if_pos e, if_pos e]
  · rw [if_neg e, if_neg e]; exact (h4 (h3.resolve_left e)).1
theorem st_val {z : CS} {st : Nat} {te ve : Int32} {va : Int64} (h : stM z st te ve va) : cJ z 1 st = if te = 0 then 0 else va := by
  obtain ⟨h1, h2, h3, h4, h5⟩ := h
  by_cases e : te = 0
  · rw [if_pos e]; exact (h5 e).2
  · rw [if_neg e]; exact (h4 (h3.resolve_left e)).2
theorem V_msg {z : CS} {t : MS} {n j w : Nat} (h : RR z t n) (hj : j < n) (hw : w < 6) : msgVal z (cS z 3 j) w = mMsgV t j w := by
  obtain ⟨so, a, k, r, a1, a2, a3, a4, b1, b2, b3, b4, c1, c2, c3, c4, c5, c6, c7⟩ := h.1.2.2.2 j hj
  rcases (show w = 0 ∨ w = 1 ∨ w = 2 ∨ w = 3 ∨ w = 4 ∨ w = 5 by omega) with rfl | rfl | rfl | rfl | rfl | rfl
  · exact c1.trans b1.symm
  · exact c2.trans b2.symm
  · exact c3.trans b3.symm
  · exact c4.trans b4.symm
  · exact c6
  · exact st_ver c7
theorem V_reg {z : CS} {t : MS} {n p w : Nat} (h : RR z t n) (hp : p < 36) (hw : w < 3) : regVal z p w = mRegV t p w := by
  have hr := h.2.2.2.2.1 p hp
  rcases (show w = 0 ∨ w = 1 ∨ w = 2 by omega) with rfl | rfl | rfl
  · exact hr.1
  · exact hr.2.1
  · exact st_ver hr.2.2
theorem V_kept {z : CS} {t : MS} {n p : Nat} (h : RR z t n) (hp : p < 36) : cJ z 1 (cS z 0 p) = if mI t 11 p = 0 then 0 else mJ t 13 p := st_val (h.2.2.2.2.1 p hp).2.2
theorem V_ask {z : CS} {t : MS} {n a w : Nat} (h : RR z t n) (ha : a < 4) (hw : w < 4) : askVal z a w = mAskV t a w := by
  have hk := h.2.2.2.2.2.2.1 a ha
  have h200 := h.2.2.2.1.1
  rcases (show w = 0 ∨ w = 1 ∨ w = 2 ∨ w = 3 by omega) with rfl | rfl | rfl | rfl
  · exact hk.2.1
  · rcases h.now ha with ⟨q1, q2⟩ | ⟨r, q1, q2⟩
    · simp only [askVal, mAskV]; rw [q1, q2]
    · simp only [askVal, mAskV]; rw [q1, q2.2.1]; exact (h.req q2.1).2.1
  · rcases h.now ha with ⟨q1, q2⟩ | ⟨r, q1, q2⟩
    · simp only [askVal, mAskV]; rw [q1, q2, if_pos (by decide)]
    · have := q2.1
      simp only [askVal, mAskV]; rw [q1, q2.2.1, if_neg (nI_pos (by omega))]
      simp only; rw [q2.2.2.2.2.1]
  · rcases h.now ha with ⟨q1, q2⟩ | ⟨r, q1, q2⟩
    · simp only [askVal, mAskV]; rw [q1, q2, if_pos (by decide)]
    · have := q2.1
      simp only [askVal, mAskV]; rw [q1, q2.2.1, if_neg (nI_pos (by omega))]
      simp only; rw [q2.2.2.2.2.2.2.1]; exact bits_eq q2.2.2.2.2.2.2.2.1
theorem V_end {z : CS} {t : MS} {n a : Nat} (h : RR z t n) (ha : a < 4) : fEndV z a = mI t 19 a := by
  unfold fEndV
  rcases h.now ha with ⟨q1, q2⟩ | ⟨r, q1, q2⟩
  · rw [q1, q2]
  · rw [q1, q2.2.1]; exact (h.req q2.1).2.1
theorem V_req {z : CS} {t : MS} {n r st w : Nat} (h : RR z t n) (hr : r < cNr z) (hw : w < 4) (hst : cR z 3 r = some st) : reqVal z r st w = mReqV t r w := by
  obtain ⟨q1, q2, q3, q4, q5, q6, q7, q8, q9, q10⟩ := h.req hr
  rcases (show w = 0 ∨ w = 1 ∨ w = 2 ∨ w = 3 by omega) with rfl | rfl | rfl | rfl
  · exact q9
  · simp only [reqVal, mReqV]; rw [q9]
    by_cases e : mI t 31 r = 1
    · rw [if_pos e, if_pos e, (q10 e).1]
    · rw [if_neg e, if_neg e]
  · simp only [reqVal, mReqV]; rw [q9]
    by_cases e : mI t 31 r = 1
    · rw [if_pos e, if_pos e]
      obtain ⟨-, st2, s1, s2⟩ := q10 e
      rw [hst] at s1; cases s1
      exact st_ver s2
    · rw [if_neg e, if_neg e]
  · exact q8
theorem V_res {z : CS} {t : MS} {n r st : Nat} (h : RR z t n) (hr : r < cNr z) (hst : cR z 3 r = some st) : (if cI z 24 r = 1 then cJ z 1 st else 0) = (if mI t 31 r = 1 then (if mI t 33 r = 0 then 0 else mJ t 35 r) else 0) := by
  obtain ⟨q1, q2, q3, q4, q5, q6, q7, q8, q9, q10⟩ := h.req hr
  rw [q9]
  by_cases e : mI t 31 r = 1
  · rw [if_pos e, if_pos e]
    obtain ⟨-, st2, s1, s2⟩ := q10 e
    rw [hst] at s1; cases s1
    exact st_val s2
  · rw [if_neg e, if_neg e]
theorem RR.MH {z : CS} {t : MS} {n : Nat} (h : RR z t n) : MH t := fun a ha => by
  have h200 := h.2.2.2.1.1
  rcases h.now ha with ⟨q1, q2⟩ | ⟨r, q1, q2⟩
  · exact Or.inl q2
  · exact Or.inr ⟨r, by have := q2.1; omega, q2.2.1⟩
/-- the class's state at the start, and the reference's -/
def z0 (ad : Nat → Nat → Nat) : CS := (ad, (0, 1), (fun f i => if f = 2 then nI i else 0), (fun _ _ => 0), (fun _ _ => none), (fun f i => if f = 3 then i else 0), (fun f _ _ => if f = 0 then 7 else 2))
def mStart (t : MS) : Prop := (∀ f i, f ≠ 15 → f ≠ 16 → f ≠ 19 → mI t f i = 0) ∧ (∀ i, i < 8 → mI t 15 i = 7 ∧ mI t 16 i = 2) ∧ (∀ a, a < 4 → mI t 19 a = -1) ∧ ∀ f i, mJ t f i = 0
theorem RR_start {ad : Nat → Nat → Nat} {t : MS} (h : mStart t) : RR (z0 ad) t 0 := by
  obtain ⟨h1, h2, h3, h4⟩ := h
  have s7 : small 7 := ⟨7, by decide, rfl⟩
  have hst : ∀ ve va, stM (z0 ad) 0 0 ve va := fun ve va => ⟨Nat.zero_lt_one, rfl, Or.inl rfl, fun q => absurd q (by decide), fun _ => ⟨rfl, rfl⟩⟩
  refine ⟨⟨⟨rfl, by decide, fun j hj => hj⟩, fun i j _ _ e => e, h1 36 0 (by decide) (by decide) (by decide), fun j hj => absurd hj (Nat.not_lt_zero _)⟩, ⟨⟨Nat.zero_lt_one, fun _ _ => Nat.zero_lt_one, fun _ _ => Nat.zero_lt_one, fun r st hr _ => absurd hr (Nat.not_lt_zero _), fun a r x => (by cases x), fun a r x => (by cases x), fun j hj => hj⟩, fun i _ => Or.inl ⟨rfl, rfl, rfl⟩, fun r hr => absurd hr (Nat.not_lt_zero _)⟩, ⟨fun q => Or.inl (h1 5 q (by decide) (by decide) (by decide)), fun q => Or.inl (h1 11 q (by decide) (by decide) (by decide)), fun q => Or.inl (h1 23 q (by decide) (by decide) (by decide)), fun q => Or.inl (h1 26 q (by decide) (by decide) (by decide)), fun q => Or.inl (h1 8 q (by decide) (by decide) (by decide))⟩, ⟨Nat.zero_le _, rfl, h1 37 0 (by decide) (by decide) (by decide), rfl⟩, fun p hp => ?_, fun k hk => ?_, fun a ha => ?_, fun r hr => absurd hr (Nat.not_lt_zero _)⟩
  · unfold RegOk
    rw [h1 9 p (by decide) (by decide) (by decide), h1 10 p (by decide) (by decide) (by decide), h1 11 p (by decide) (by decide) (by decide)]
    exact ⟨rfl, rfl, hst _ _⟩
  · unfold DnOk; rw [h1 8 k (by decide) (by decide) (by decide)]; rfl
  · refine ⟨rfl, by rw [h1 14 a (by decide) (by decide) (by decide)]; rfl, fun j hj => ?_, Or.inl ⟨rfl, h3 a ha⟩⟩
    obtain ⟨g1, g2⟩ := h2 (2 * a + j) (by omega)
    rw [g1, g2]; exact ⟨rfl, rfl, s7⟩
