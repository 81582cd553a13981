theorem askS_c6 (z : CS) (q a : Nat) (key chg : Int32) (arg : Int64) : cA (askS z q a key chg arg) 6 0 = cA z 6 0 := by
  unfold askS initR
  simp only [sR_cA, sI_cA, sJ_cA, addR_cA]
  exact up2_k (by decide)
theorem askS_nr (z : CS) (q a : Nat) (key chg : Int32) (arg : Int64) : cNr (askS z q a key chg arg) = cNr z + 1 := by
  unfold askS initR
  simp only [sR_cNr, sI_cNr, sJ_cNr, addR_cNr]
theorem mAskS_mA (z : MS) (a q k : Nat) (ch : Int32) (arg : Int64) : mA (mAskS z a q k ch arg) = mA z := by
  unfold mAskS
  simp only [tI_mA, tJ_mA]
theorem mAskS_38 (z : MS) (a q k : Nat) (ch : Int32) (arg : Int64) : mI (mAskS z a q k ch arg) 38 0 = 0 := by
  unfold mAskS
  simp [tI_mI, tJ_mI, up2]
theorem RR.askNum {z : CS} {s : MS} {n' : Nat} {qa a k : Nat} {c : Int32} {arg : Int64} {so set : Int32} {st : Nat} (h : RR (fSet 9 (askS z qa a (nI k) c arg) 0 so (cNr z) set st) s n') (hlt : cNr z < 200) : cI (fSet 9 (askS z qa a (nI k) c arg) 0 so (cNr z) set st) 12 (cNr z) = nI (cNr z) :=
  (h.req (r := cNr z) (by rw [fSet_cNr, askS_nr]; omega)).2.1
theorem Ag_give {z : CS} {t : MS} {n : Nat} (h : RR z t n) (i : Int32) {w : Int32} {u : CS} {o : Int64} {v : Value} {s : MS} (hc : (fun w u o => (w = 0 ∧ ∃ x : Int32, (fun (v : Value) (u : CS) => ∃ a, a < 4 ∧ i = nI a ∧ v = .int (fEndV z a) ∧ u = fEnd z a 2) (.int x) u ∧ o = x.toInt64) ∨ (w = 1 ∧ u = z ∧ ¬ inR i 4)) w u o) (hm : (fun v u => (∃ a, a < 4 ∧ i = nI a ∧ v = .int (mI t 19 a) ∧ ((mI t 19 a = -1 ∧ u = tI t 38 0 0) ∨ (∃ r, r < 200 ∧ mI t 19 a = nI r ∧ u = tI (tI (tI t 38 0 0) 31 r 2) 19 a (-1)))) ∨ (¬ inR i 4 ∧ v = .int 0 ∧ u = tI t 38 0 1)) v s) : Agr z t w u s ∧ AgI w o v := by
  rcases hc with ⟨rfl, x, ⟨a, ha, hi, hv, hu⟩, ho⟩ | ⟨rfl, hu, hn⟩
  · cases hv
    rcases hm with ⟨a1, ha1, hi1, hv1, hm⟩ | ⟨hn1, hv1, hm⟩
    · have ea : a1 = a := (nI_eq (by omega) (by omega)).mp (hi1.symm.trans hi)
      subst ea; subst hu
      refine ⟨?_, _, hv1, fun _ => by rw [ho, V_end h ha]⟩
      rcases hm with ⟨h19, hs⟩ | ⟨r, hr, h19, hs⟩
      · subst hs
        rcases h.now ha with ⟨q1, q2⟩ | ⟨r, q1, q2⟩
        · have e0 : fEnd z a1 2 = z := by unfold fEnd; rw [q1]
          rw [e0]; exact Agr_0 0 h
        · exact absurd (h19.symm.trans q2.2.1) (m1_ne (by have := q2.1; have := h.2.2.2.1.1; omega))
      · subst hs
        rcases h.now ha with ⟨q1, q2⟩ | ⟨r2, q1, q2⟩
        · exact absurd (q2.symm.trans h19) (m1_ne (by omega))
        · have er : r2 = r := (nI_eq (by have := q2.1; have := h.2.2.2.1.1; omega) (by omega)).mp (q2.2.1.symm.trans h19)
          subst er
          exact ⟨by rw [tI_38 (by decide), tI_38 (by decide), t38], ⟨n, RR_lose (RR_t h) ha q1⟩, by rw [fEnd_cA], rfl⟩
    · exact absurd (by rw [hi]; exact inR_of (n := 4) ha (by decide)) hn1
  · subst hu
    rcases hm with ⟨a1, ha1, hi1, hv1, hm⟩ | ⟨hn1, hv1, hm⟩
    · exact absurd (by rw [hi1]; exact inR_of (n := 4) ha1 (by decide)) hn
    · subst hm
      exact ⟨Agr_0 1 h, _, hv1, fun e => absurd e (by decide)⟩
theorem Ag_take {z : CS} {t : MS} {n : Nat} (h : RR z t n) (i : Int32) {w : Int32} {u : CS} {o : Int64} {v : Value} {s : MS} (hc : (fun w u o => (w = 0 ∧ ∃ x : Int32, (fun (v : Value) (u : CS) => ∃ j so a k q, j < n ∧ i = nI j ∧ msgOk z (cS z 3 j) so a k q ∧ v = .int (cI u 6 (cS z 3 j)) ∧ takeTo (fDraw z j n) (cS z 3 j) so a k q u) (.int x) u ∧ o = x.toInt64) ∨ (w = 1 ∧ u = z ∧ ¬ inR i (nI n))) w u o) (hm : (fun v u => (∃ j, j < n ∧ i = nI j ∧ v = .int (mI t 0 j) ∧ u = mTake (tI t 38 0 0) j n) ∨ (¬ inR i (nI n) ∧ v = .int 0 ∧ u = tI t 38 0 1)) v s) : Agr z t w u s ∧ AgI w o v := by
  have hn0 := h.n36.2.1
  rcases hc with ⟨rfl, x, ⟨j, so, a, k, q, hj, hi, hmo, hv, hu⟩, ho⟩ | ⟨rfl, hu, hn⟩
  · cases hv
    rcases hm with ⟨j1, hj1, hi1, hv1, hm⟩ | ⟨hn1, hv1, hm⟩
    · have ej : j1 = j := (nI_eq (by omega) (by omega)).mp (hi1.symm.trans hi)
      subst ej; subst hm
      obtain ⟨⟨n', hR⟩, -⟩ := RR_take (RR_t (v := 0) h) hj hmo hu
      obtain ⟨-, hs⟩ := RR_take h hj hmo hu
      exact ⟨⟨by rw [mTake_38, t38], ⟨n', hR⟩, by rw [takeTo_cA hu (by decide), fDraw_cA], by rw [mTake_mA]; rfl⟩, _, hv1, fun _ => by rw [ho, hs]⟩
    · exact absurd (by rw [hi]; exact inR_of hj (by omega)) hn1
  · subst hu
    rcases hm with ⟨j1, hj1, hi1, hv1, hm⟩ | ⟨hn1, hv1, hm⟩
    · exact absurd (by rw [hi1]; exact inR_of hj1 (by omega)) hn
    · subst hm
      exact ⟨Agr_0 1 h, _, hv1, fun e => absurd e (by decide)⟩
theorem Ag_lose {z : CS} {t : MS} {n : Nat} (h : RR z t n) (i : Int32) {w : Int32} {u : CS} {o : Int64} {v : Value} {s : MS} (hc : (fun w u o => (w = 0 ∧ ∃ x : Int32, (fun (v : Value) (u : CS) => ∃ j, j < n ∧ i = nI j ∧ v = .int (cI z 6 (cS z 3 j)) ∧ u = fDraw z j n) (.int x) u ∧ o = x.toInt64) ∨ (w = 1 ∧ u = z ∧ ¬ inR i (nI n))) w u o) (hm : (fun v u => (∃ j, j < n ∧ i = nI j ∧ v = .int (mI t 0 j) ∧ u = mDrop (tI t 38 0 0) j n) ∨ (¬ inR i (nI n) ∧ v = .int 0 ∧ u = tI t 38 0 1)) v s) : Agr z t w u s ∧ AgI w o v := by
  have hn0 := h.n36.2.1
  rcases hc with ⟨rfl, x, ⟨j, hj, hi, hv, hu⟩, ho⟩ | ⟨rfl, hu, hn⟩
  · cases hv
    rcases hm with ⟨j1, hj1, hi1, hv1, hm⟩ | ⟨hn1, hv1, hm⟩
    · have ej : j1 = j := (nI_eq (by omega) (by omega)).mp (hi1.symm.trans hi)
      subst ej; subst hm; subst hu
      refine ⟨⟨by rw [mDrop_mI (by decide) (by decide), t38], ⟨n - 1, RR_draw (RR_t h) hj⟩, by rw [fDraw_cA], by rw [mDrop_mA]; rfl⟩, _, hv1, fun _ => ?_⟩
      have hv0 := V_msg h hj (w := 0) (by decide)
      rw [ho]
      exact congrArg Int32.toInt64 hv0
    · exact absurd (by rw [hi]; exact inR_of hj (by omega)) hn1
  · subst hu
    rcases hm with ⟨j1, hj1, hi1, hv1, hm⟩ | ⟨hn1, hv1, hm⟩
    · exact absurd (by rw [hi1]; exact inR_of hj1 (by omega)) hn
    · subst hm
      exact ⟨Agr_0 1 h, _, hv1, fun e => absurd e (by decide)⟩
theorem Ag_twice {z : CS} {t : MS} {n : Nat} (h : RR z t n) (i : Int32) {w : Int32} {u : CS} {o : Int64} {v : Value} {s : MS} (hc : (fun w u o => (w = 0 ∧ ∃ x : Int32, (fun (v : Value) (u : CS) => ∃ j, j < n ∧ i = nI j ∧ ((¬ n < 300 ∧ v = .int (-1) ∧ u = z) ∨ (n < 300 ∧ v = .int (cI u 25 0) ∧ u = fTwice z j))) (.int x) u ∧ o = x.toInt64) ∨ (w = 1 ∧ u = z ∧ ¬ inR i (nI n))) w u o) (hm : (fun v u => (∃ j, j < n ∧ i = nI j ∧ ((¬ n < 300 ∧ v = .int (-1) ∧ u = tI t 38 0 0) ∨ (n < 300 ∧ v = .int (mI u 36 0) ∧ u = mTwice t j n))) ∨ (¬ inR i (nI n) ∧ v = .int 0 ∧ u = tI t 38 0 1)) v s) : Agr z t w u s ∧ AgI w o v := by
  have hn0 := h.n36.2.1
  rcases hc with ⟨rfl, x, ⟨j, hj, hi, hc⟩, ho⟩ | ⟨rfl, hu, hn⟩
  · rcases hm with ⟨j1, hj1, hi1, hm⟩ | ⟨hn1, hv1, hm⟩
    · have ej : j1 = j := (nI_eq (by omega) (by omega)).mp (hi1.symm.trans hi)
      subst ej
      rcases hc with ⟨h3, hv, hu⟩ | ⟨h3, hv, hu⟩
      · cases hv
        rcases hm with ⟨h4, hv1, hm⟩ | ⟨h4, hv1, hm⟩
        · subst hm; subst hu
          exact ⟨Agr_0 0 h, _, hv1, fun _ => ho⟩
        · exact absurd h4 h3
      · cases hv
        rcases hm with ⟨h4, hv1, hm⟩ | ⟨h4, hv1, hm⟩
        · exact absurd h3 h4
        · subst hm; subst hu
          have hR := RR_twice h hj
          exact ⟨⟨by rw [mTwice, mSend_38, t38], ⟨nxt n, hR⟩, by rw [fTwice, fSend_cA], by rw [mTwice, mSend_mA]; rfl⟩, _, hv1, fun _ => by rw [ho, hR.n36.1, hR.n36.2.2]⟩
    · exact absurd (by rw [hi]; exact inR_of hj (by omega)) hn1
  · subst hu
    rcases hm with ⟨j1, hj1, hi1, hm⟩ | ⟨hn1, hv1, hm⟩
    · exact absurd (by rw [hi1]; exact inR_of hj1 (by omega)) hn
    · subst hm
      exact ⟨Agr_0 1 h, _, hv1, fun e => absurd e (by decide)⟩
theorem Ag_down {z : CS} {t : MS} {n : Nat} (h : RR z t n) (i b : Int32) (hb9 : b = 0 ∨ b = 1) {w : Int32} {u : CS} {o : Int64} {v : Value} {s : MS} (hc : (fun w u o => (w = 0 ∧ ∃ x : Int32, (fun (v : Value) (u : CS) => ∃ k, k < 9 ∧ i = nI k ∧ v = .int (cI z 29 k) ∧ u = sI z 29 k b) (.int x) u ∧ o = if x = 0 then 0 else 1) ∨ (w = 1 ∧ u = z ∧ ¬ inR i 9)) w u o) (hm : (fun v u => (∃ k, k < 9 ∧ i = nI k ∧ v = .int (mI t 8 k) ∧ u = tI (tI t 38 0 0) 8 k b) ∨ (¬ inR i 9 ∧ v = .int 0 ∧ u = tI t 38 0 1)) v s) : Agr z t w u s ∧ ∃ x : Int32, v = .int x ∧ (w = 0 → o = if x = 0 then 0 else 1) := by
  rcases hc with ⟨rfl, x, ⟨k, hk, hi, hv, hu⟩, ho⟩ | ⟨rfl, hu, hn⟩
  · cases hv
    rcases hm with ⟨k1, hk1, hi1, hv1, hm⟩ | ⟨hn1, hv1, hm⟩
    · have ek : k1 = k := (nI_eq (by omega) (by omega)).mp (hi1.symm.trans hi)
      subst ek; subst hm; subst hu
      refine ⟨⟨by rw [tI_38 (by decide), t38], ⟨n, RR_down (RR_t h) hb9⟩, rfl, rfl⟩, _, hv1, fun _ => ?_⟩
      have hd : cI z 29 k1 = mI t 8 k1 := h.2.2.2.2.2.1 k1 hk
      rw [ho, hd]
    · exact absurd (by rw [hi]; exact inR_of (n := 9) hk (by decide)) hn1
  · subst hu
    rcases hm with ⟨k1, hk1, hi1, hv1, hm⟩ | ⟨hn1, hv1, hm⟩
    · exact absurd (by rw [hi1]; exact inR_of (n := 9) hk1 (by decide)) hn
    · subst hm
      exact ⟨Agr_0 1 h, _, hv1, fun e => absurd e (by decide)⟩
theorem Ag_copy {z : CS} {t : MS} {n : Nat} (h : RR z t n) (i j : Int32) {w : Int32} {u : CS} {o : Int64} {v : Value} {s : MS} (hc : (fun w u o => (w = 0 ∧ ∃ x : Int32, (fun (v : Value) (u : CS) => ∃ t1 f1, t1 < 9 ∧ f1 < 9 ∧ i = nI t1 ∧ j = nI f1 ∧ v = .int (fCnt 4 z t1 f1 0) ∧ u = fCopy 4 z t1 f1 0) (.int x) u ∧ o = x.toInt64) ∨ (w = 1 ∧ u = z ∧ ¬ (inR i 9 ∧ inR j 9))) w u o) (hm : (fun v u => (∃ t1 f1, t1 < 9 ∧ f1 < 9 ∧ i = nI t1 ∧ j = nI f1 ∧ v = .int (mCnt4 4 (tI t 38 0 0) t1 f1 0) ∧ u = mCopy 4 (tI t 38 0 0) t1 f1 0) ∨ (¬ (inR i 9 ∧ inR j 9) ∧ v = .int 0 ∧ u = tI t 38 0 1)) v s) : Agr z t w u s ∧ AgI w o v := by
  rcases hc with ⟨rfl, x, ⟨t1, f1, ht, hf, hi, hj, hv, hu⟩, ho⟩ | ⟨rfl, hu, hn⟩
  · cases hv
    rcases hm with ⟨t2, f2, ht2, hf2, hi1, hj1, hv1, hm⟩ | ⟨hn1, hv1, hm⟩
    · have e1 : t2 = t1 := (nI_eq (by omega) (by omega)).mp (hi1.symm.trans hi)
      have e2 : f2 = f1 := (nI_eq (by omega) (by omega)).mp (hj1.symm.trans hj)
      subst e1; subst e2; subst hm; subst hu
      obtain ⟨hR, hcnt⟩ := RR_copy 4 t2 f2 0 (RR_t (v := 0) h) ht hf rfl
      exact ⟨⟨by rw [mCopy_38, t38], ⟨n, hR⟩, by rw [fCopy_cA], by rw [mCopy_mA]; rfl⟩, _, hv1, fun _ => by rw [ho, hcnt]⟩
    · exact absurd ⟨by rw [hi]; exact inR_of (n := 9) ht (by decide), by rw [hj]; exact inR_of (n := 9) hf (by decide)⟩ hn1
  · subst hu
    rcases hm with ⟨t2, f2, ht2, hf2, hi1, hj1, hv1, hm⟩ | ⟨hn1, hv1, hm⟩
    · exact absurd ⟨by rw [hi1]; exact inR_of (n := 9) ht2 (by decide), by rw [hj1]; exact inR_of (n := 9) hf2 (by decide)⟩ hn
    · subst hm
      exact ⟨Agr_0 1 h, _, hv1, fun e => absurd e (by decide)⟩
theorem Ag_message {z : CS} {t : MS} {n : Nat} (h : RR z t n) (i wh : Int32) {w : Int32} {u : CS} {o : Int64} {v : Value} {s : MS} (hc : (fun w u o => (w = 0 ∧ ∃ x : Int32, (fun (v : Value) (u : CS) => ∃ j w, j < n ∧ w < 6 ∧ i = nI j ∧ wh = nI w ∧ v = .int (msgVal z (cS z 3 j) w) ∧ u = z) (.int x) u ∧ o = x.toInt64) ∨ (w = 1 ∧ u = z ∧ ¬ (inR i (nI n) ∧ inR wh 6))) w u o) (hm : (fun v u => (∃ j w, j < n ∧ w < 6 ∧ i = nI j ∧ wh = nI w ∧ v = .int (mMsgV t j w) ∧ u = tI t 38 0 0) ∨ (¬ (inR i (nI n) ∧ inR wh 6) ∧ v = .int 0 ∧ u = tI t 38 0 1)) v s) : Agr z t w u s ∧ AgI w o v := by
  have hn0 := h.n36.2.1
  rcases hc with ⟨rfl, x, ⟨j, w1, hj, hw, hi, hwh, hv, hu⟩, ho⟩ | ⟨rfl, hu, hn⟩
  · cases hv
    rcases hm with ⟨j1, w2, hj1, hw1, hi1, hwh1, hv1, hm⟩ | ⟨hn1, hv1, hm⟩
    · have e1 : j1 = j := (nI_eq (by omega) (by omega)).mp (hi1.symm.trans hi)
      have e2 : w2 = w1 := (nI_eq (by omega) (by omega)).mp (hwh1.symm.trans hwh)
      subst e1; subst e2; subst hm; subst hu
      exact ⟨Agr_0 0 h, _, hv1, fun _ => by rw [ho, V_msg h hj hw]⟩
    · exact absurd ⟨by rw [hi]; exact inR_of hj (by omega), by rw [hwh]; exact inR_of (n := 6) hw (by decide)⟩ hn1
  · subst hu
    rcases hm with ⟨j1, w2, hj1, hw1, hi1, hwh1, hv1, hm⟩ | ⟨hn1, hv1, hm⟩
    · exact absurd ⟨by rw [hi1]; exact inR_of hj1 (by omega), by rw [hwh1]; exact inR_of (n := 6) hw1 (by decide)⟩ hn
    · subst hm
      exact ⟨Agr_0 1 h, _, hv1, fun e => absurd e (by decide)⟩
theorem Ag_keeper {z : CS} {t : MS} {n : Nat} (h : RR z t n) (i j wh : Int32) {w : Int32} {u : CS} {o : Int64} {v : Value} {s : MS} (hc : (fun w u o => (w = 0 ∧ ∃ x : Int32, (fun (v : Value) (u : CS) => ∃ k q w, k < 9 ∧ q < 4 ∧ w < 3 ∧ i = nI k ∧ j = nI q ∧ wh = nI w ∧ v = .int (regVal z (4 * k + q) w) ∧ u = z) (.int x) u ∧ o = x.toInt64) ∨ (w = 1 ∧ u = z ∧ ¬ (inR i 9 ∧ inR j 4 ∧ inR wh 3))) w u o) (hm : (fun v u => (∃ k q w, k < 9 ∧ q < 4 ∧ w < 3 ∧ i = nI k ∧ j = nI q ∧ wh = nI w ∧ v = .int (mRegV t (4 * k + q) w) ∧ u = tI t 38 0 0) ∨ (¬ (inR i 9 ∧ inR j 4 ∧ inR wh 3) ∧ v = .int 0 ∧ u = tI t 38 0 1)) v s) : Agr z t w u s ∧ AgI w o v := by
  rcases hc with ⟨rfl, x, ⟨k, q, w1, hk, hq, hw, hi, hj, hwh, hv, hu⟩, ho⟩ | ⟨rfl, hu, hn⟩
  · cases hv
    rcases hm with ⟨k1, q1, w2, hk1, hq1, hw1, hi1, hj1, hwh1, hv1, hm⟩ | ⟨hn1, hv1, hm⟩
    · have e1 : k1 = k := (nI_eq (by omega) (by omega)).mp (hi1.symm.trans hi)
      have e2 : q1 = q := (nI_eq (by omega) (by omega)).mp (hj1.symm.trans hj)
      have e3 : w2 = w1 := (nI_eq (by omega) (by omega)).mp (hwh1.symm.trans hwh)
      subst e1; subst e2; subst e3; subst hm; subst hu
      exact ⟨Agr_0 0 h, _, hv1, fun _ => by rw [ho, V_reg h (by omega) hw]⟩
    · exact absurd ⟨by rw [hi]; exact inR_of (n := 9) hk (by decide), by rw [hj]; exact inR_of (n := 4) hq (by decide), by rw [hwh]; exact inR_of (n := 3) hw (by decide)⟩ hn1
  · subst hu
    rcases hm with ⟨k1, q1, w2, hk1, hq1, hw1, hi1, hj1, hwh1, hv1, hm⟩ | ⟨hn1, hv1, hm⟩
    · exact absurd ⟨by rw [hi1]; exact inR_of (n := 9) hk1 (by decide), by rw [hj1]; exact inR_of (n := 4) hq1 (by decide), by rw [hwh1]; exact inR_of (n := 3) hw1 (by decide)⟩ hn
    · subst hm
      exact ⟨Agr_0 1 h, _, hv1, fun e => absurd e (by decide)⟩
theorem Ag_kept {z : CS} {t : MS} {n : Nat} (h : RR z t n) (i j : Int32) {w : Int32} {u : CS} {o : Int64} {v : Value} {s : MS} (hc : (fun w u o => (w = 0 ∧ ∃ x : Int64, (fun (v : Value) (u : CS) => ∃ k q, k < 9 ∧ q < 4 ∧ i = nI k ∧ j = nI q ∧ v = .long (cJ z 1 (cS z 0 (4 * k + q))) ∧ u = z) (.long x) u ∧ o = x) ∨ (w = 1 ∧ u = z ∧ ¬ (inR i 9 ∧ inR j 4))) w u o) (hm : (fun v u => (∃ k q, k < 9 ∧ q < 4 ∧ i = nI k ∧ j = nI q ∧ v = .long (if mI t 11 (4 * k + q) = 0 then 0 else mJ t 13 (4 * k + q)) ∧ u = tI t 38 0 0) ∨ (¬ (inR i 9 ∧ inR j 4) ∧ v = .long 0 ∧ u = tI t 38 0 1)) v s) : Agr z t w u s ∧ ∃ x : Int64, v = .long x ∧ (w = 0 → o = x) := by
  rcases hc with ⟨rfl, x, ⟨k, q, hk, hq, hi, hj, hv, hu⟩, ho⟩ | ⟨rfl, hu, hn⟩
  · cases hv
    rcases hm with ⟨k1, q1, hk1, hq1, hi1, hj1, hv1, hm⟩ | ⟨hn1, hv1, hm⟩
    · have e1 : k1 = k := (nI_eq (by omega) (by omega)).mp (hi1.symm.trans hi)
      have e2 : q1 = q := (nI_eq (by omega) (by omega)).mp (hj1.symm.trans hj)
      subst e1; subst e2; subst hm; subst hu
      exact ⟨Agr_0 0 h, _, hv1, fun _ => by rw [ho]; exact V_kept h (by omega)⟩
    · exact absurd ⟨by rw [hi]; exact inR_of (n := 9) hk (by decide), by rw [hj]; exact inR_of (n := 4) hq (by decide)⟩ hn1
  · subst hu
    rcases hm with ⟨k1, q1, hk1, hq1, hi1, hj1, hv1, hm⟩ | ⟨hn1, hv1, hm⟩
    · exact absurd ⟨by rw [hi1]; exact inR_of (n := 9) hk1 (by decide), by rw [hj1]; exact inR_of (n := 4) hq1 (by decide)⟩ hn
    · subst hm
      exact ⟨Agr_0 1 h, _, hv1, fun e => absurd e (by decide)⟩
theorem Ag_asker {z : CS} {t : MS} {n : Nat} (h : RR z t n) (i wh : Int32) {w : Int32} {u : CS} {o : Int64} {v : Value} {s : MS} (hc : (fun w u o => (w = 0 ∧ ∃ x : Int32, (fun (v : Value) (u : CS) => ∃ a w, a < 4 ∧ w < 4 ∧ i = nI a ∧ wh = nI w ∧ v = .int (askVal z a w) ∧ u = z) (.int x) u ∧ o = x.toInt64) ∨ (w = 1 ∧ u = z ∧ ¬ (inR i 4 ∧ inR wh 4))) w u o) (hm : (fun v u => (∃ a w, a < 4 ∧ w < 4 ∧ i = nI a ∧ wh = nI w ∧ v = .int (mAskV t a w) ∧ u = tI t 38 0 0) ∨ (¬ (inR i 4 ∧ inR wh 4) ∧ v = .int 0 ∧ u = tI t 38 0 1)) v s) : Agr z t w u s ∧ AgI w o v := by
  rcases hc with ⟨rfl, x, ⟨a, w1, ha, hw, hi, hwh, hv, hu⟩, ho⟩ | ⟨rfl, hu, hn⟩
  · cases hv
    rcases hm with ⟨a1, w2, ha1, hw1, hi1, hwh1, hv1, hm⟩ | ⟨hn1, hv1, hm⟩
    · have e1 : a1 = a := (nI_eq (by omega) (by omega)).mp (hi1.symm.trans hi)
      have e2 : w2 = w1 := (nI_eq (by omega) (by omega)).mp (hwh1.symm.trans hwh)
      subst e1; subst e2; subst hm; subst hu
      exact ⟨Agr_0 0 h, _, hv1, fun _ => by rw [ho, V_ask h ha hw]⟩
    · exact absurd ⟨by rw [hi]; exact inR_of (n := 4) ha (by decide), by rw [hwh]; exact inR_of (n := 4) hw (by decide)⟩ hn1
  · subst hu
    rcases hm with ⟨a1, w2, ha1, hw1, hi1, hwh1, hv1, hm⟩ | ⟨hn1, hv1, hm⟩
    · exact absurd ⟨by rw [hi1]; exact inR_of (n := 4) ha1 (by decide), by rw [hwh1]; exact inR_of (n := 4) hw1 (by decide)⟩ hn
    · subst hm
      exact ⟨Agr_0 1 h, _, hv1, fun e => absurd e (by decide)⟩
theorem Ag_request {z : CS} {t : MS} {n : Nat} (h : RR z t n) (i wh : Int32) {w : Int32} {u : CS} {o : Int64} {v : Value} {s : MS} (hc : (fun w u o => (w = 0 ∧ ∃ x : Int32, (fun (v : Value) (u : CS) => ∃ r st w, r < cNr z ∧ w < 4 ∧ i = nI r ∧ wh = nI w ∧ cR z 3 r = some st ∧ v = .int (reqVal z r st w) ∧ u = z) (.int x) u ∧ o = x.toInt64) ∨ (w = 1 ∧ u = z ∧ ¬ (inR i (nI (cNr z)) ∧ inR wh 4))) w u o) (hm : (fun v u => (∃ r w, r < (cNr z) ∧ w < 4 ∧ i = nI r ∧ wh = nI w ∧ v = .int (mReqV t r w) ∧ u = tI t 38 0 0) ∨ (¬ (inR i (nI (cNr z)) ∧ inR wh 4) ∧ v = .int 0 ∧ u = tI t 38 0 1)) v s) : Agr z t w u s ∧ AgI w o v := by
  have h200 := h.2.2.2.1.1
  rcases hc with ⟨rfl, x, ⟨r, st, w1, hr, hw, hi, hwh, hst, hv, hu⟩, ho⟩ | ⟨rfl, hu, hn⟩
  · cases hv
    rcases hm with ⟨r1, w2, hr1, hw1, hi1, hwh1, hv1, hm⟩ | ⟨hn1, hv1, hm⟩
    · have e1 : r1 = r := (nI_eq (by omega) (by omega)).mp (hi1.symm.trans hi)
      have e2 : w2 = w1 := (nI_eq (by omega) (by omega)).mp (hwh1.symm.trans hwh)
      subst e1; subst e2; subst hm; subst hu
      exact ⟨Agr_0 0 h, _, hv1, fun _ => by rw [ho, V_req h hr hw hst]⟩
    · exact absurd ⟨by rw [hi]; exact inR_of hr (by omega), by rw [hwh]; exact inR_of (n := 4) hw (by decide)⟩ hn1
  · subst hu
    rcases hm with ⟨r1, w2, hr1, hw1, hi1, hwh1, hv1, hm⟩ | ⟨hn1, hv1, hm⟩
    · exact absurd ⟨by rw [hi1]; exact inR_of hr1 (by omega), by rw [hwh1]; exact inR_of (n := 4) hw1 (by decide)⟩ hn
    · subst hm
      exact ⟨Agr_0 1 h, _, hv1, fun e => absurd e (by decide)⟩
theorem Ag_result {z : CS} {t : MS} {n : Nat} (h : RR z t n) (i : Int32) {w : Int32} {u : CS} {o : Int64} {v : Value} {s : MS} (hc : (fun w u o => (w = 0 ∧ ∃ x : Int64, (fun (v : Value) (u : CS) => ∃ r st, r < cNr z ∧ i = nI r ∧ cR z 3 r = some st ∧ v = .long (if cI z 24 r = 1 then cJ z 1 st else 0) ∧ u = z) (.long x) u ∧ o = x) ∨ (w = 1 ∧ u = z ∧ ¬ inR i (nI (cNr z)))) w u o) (hm : (fun v u => (∃ r, r < (cNr z) ∧ i = nI r ∧ v = .long (if mI t 31 r = 1 then (if mI t 33 r = 0 then 0 else mJ t 35 r) else 0) ∧ u = tI t 38 0 0) ∨ (¬ inR i (nI (cNr z)) ∧ v = .long 0 ∧ u = tI t 38 0 1)) v s) : Agr z t w u s ∧ ∃ x : Int64, v = .long x ∧ (w = 0 → o = x) := by
  have h200 := h.2.2.2.1.1
  rcases hc with ⟨rfl, x, ⟨r, st, hr, hi, hst, hv, hu⟩, ho⟩ | ⟨rfl, hu, hn⟩
  · cases hv
    rcases hm with ⟨r1, hr1, hi1, hv1, hm⟩ | ⟨hn1, hv1, hm⟩
    · have e1 : r1 = r := (nI_eq (by omega) (by omega)).mp (hi1.symm.trans hi)
      subst e1; subst hm; subst hu
      exact ⟨Agr_0 0 h, _, hv1, fun _ => by rw [ho]; exact V_res h hr hst⟩
    · exact absurd (by rw [hi]; exact inR_of hr (by omega)) hn1
  · subst hu
    rcases hm with ⟨r1, hr1, hi1, hv1, hm⟩ | ⟨hn1, hv1, hm⟩
    · exact absurd (by rw [hi1]; exact inR_of hr1 (by omega)) hn
    · subst hm
      exact ⟨Agr_0 1 h, _, hv1, fun e => absurd e (by decide)⟩
theorem Ag_plan {z : CS} {t : MS} {n : Nat} (h : RR z t n) (i j se en : Int32) {w : Int32} {u : CS} {o : Int64} {s : MS} (hc : (fun w u o => (w = 0 ∧ (fun (u : CS) => ∃ a k, a < 4 ∧ k < 2 ∧ i = nI a ∧ j = nI k ∧ inG se 1 511 ∧ inG en 1 (fBC se) ∧ u = sE (sE z 0 a k se) 1 a k en) u) ∨ (w = 1 ∧ u = z ∧ ¬ (inR i 4 ∧ inR j 2)) ∨ (w = 2 ∧ u = z ∧ inR i 4 ∧ inR j 2 ∧ ¬ (inG se 1 511 ∧ inG en 1 (fBC se)))) w u o) (hm : (fun u => (∃ a k, a < 4 ∧ k < 2 ∧ i = nI a ∧ j = nI k ∧ inG se 1 511 ∧ inG en 1 (mBits 9 se 0 0) ∧ u = tI (tI (tI t 38 0 0) 15 (2 * a + k) se) 16 (2 * a + k) en) ∨ (¬ (inR i 4 ∧ inR j 2) ∧ u = tI t 38 0 1) ∨ (inR i 4 ∧ inR j 2 ∧ ¬ (inG se 1 511 ∧ inG en 1 (mBits 9 se 0 0)) ∧ u = tI t 38 0 2)) s) : Agr z t w u s := by
  have hsm : inG se 1 511 → small se := fun g => by
    obtain ⟨v, hv, rfl⟩ := nI_of2 (M := 511) (n := 511) rfl (fun e => g.1 (Int32.lt_trans e (by decide))) g.2
    exact ⟨v, by omega, rfl⟩
  rcases hc with ⟨rfl, ⟨a, k, ha, hk, hi, hj, hg1, hg2, hu⟩⟩ | ⟨rfl, hu, hn⟩ | ⟨rfl, hu, hn0, hn1, hn⟩
  · rcases hm with ⟨a1, k1, ha1, hk1, hi1, hj1, hg3, hg4, hm⟩ | ⟨hm0, hm⟩ | ⟨hm0, hm1, hm2, hm⟩
    · have e1 : a1 = a := (nI_eq (by omega) (by omega)).mp (hi1.symm.trans hi)
      have e2 : k1 = k := (nI_eq (by omega) (by omega)).mp (hj1.symm.trans hj)
      subst e1; subst e2; subst hm; subst hu
      exact ⟨by rw [tI_38 (by decide), tI_38 (by decide), t38], ⟨n, RR_plan (RR_t h) ha hk (hsm hg1)⟩, rfl, rfl⟩
    · exact absurd ⟨by rw [hi]; exact inR_of (n := 4) ha (by decide), by rw [hj]; exact inR_of (n := 2) hk (by decide)⟩ hm0
    · exact absurd ⟨hg1, by rw [← bits_eq (hsm hg1)]; exact hg2⟩ hm2
  · subst hu
    rcases hm with ⟨a1, k1, ha1, hk1, hi1, hj1, hg3, hg4, hm⟩ | ⟨hm0, hm⟩ | ⟨hm0, hm1, hm2, hm⟩
    · exact absurd ⟨by rw [hi1]; exact inR_of (n := 4) ha1 (by decide), by rw [hj1]; exact inR_of (n := 2) hk1 (by decide)⟩ hn
    · subst hm; exact Agr_0 1 h
    · exact absurd ⟨hm0, hm1⟩ hn
  · subst hu
    rcases hm with ⟨a1, k1, ha1, hk1, hi1, hj1, hg3, hg4, hm⟩ | ⟨hm0, hm⟩ | ⟨hm0, hm1, hm2, hm⟩
    · exact absurd ⟨hg3, by rw [bits_eq (hsm hg3)]; exact hg4⟩ hn
    · exact absurd ⟨hn0, hn1⟩ hm0
    · subst hm; exact Agr_0 2 h
theorem Ag_ask {z : CS} {t : MS} {n : Nat} (h : RR z t n) (i j ch : Int32) (arg : Int64) {w : Int32} {u : CS} {o : Int64} {v : Value} {s : MS} (hc : (fun w u o => (w = 0 ∧ ∃ x : Int32, (fun (v : Value) (u : CS) => ∃ a k, a < 4 ∧ k < 4 ∧ i = nI a ∧ j = nI k ∧ inG ch 0 6 ∧ (((¬ cR z 1 a = none ∨ ¬ cNr z < 200) ∧ v = .int (-1) ∧ u = z) ∨ (cR z 1 a = none ∧ cNr z < 200 ∧ ∃ q, v = .int (cI u 12 (cNr z)) ∧ u = fSet 9 (askS z q a (nI k) ch arg) 0 0 (cNr z) (cE z 0 a 0) 0))) (.int x) u ∧ o = x.toInt64) ∨ (w = 1 ∧ u = z ∧ ¬ (inR i 4 ∧ inR j 4)) ∨ (w = 2 ∧ u = z ∧ inR i 4 ∧ inR j 4 ∧ ¬ inG ch 0 6)) w u o) (hm : (fun v u => (∃ a1 k1, a1 < 4 ∧ k1 < 4 ∧ i = nI a1 ∧ j = nI k1 ∧ inG ch 0 6 ∧ (((¬ mI t 19 a1 = -1 ∨ ¬ (cNr z) < 200) ∧ v = .int (-1) ∧ u = tI t 38 0 0) ∨ (mI t 19 a1 = -1 ∧ (cNr z) < 200 ∧ v = .int (nI (cNr z)) ∧ u = mSet 9 (mAskS t a1 (cNr z) k1 ch arg) 0 n (0 : Int32) (nI a1) (nI (cNr z)) (4 * (mI t 14 a1 + 1) + nI a1) 0 0 0 (mI t 15 (2 * a1))))) ∨ (¬ (inR i 4 ∧ inR j 4) ∧ v = .int 0 ∧ u = tI t 38 0 1) ∨ (inR i 4 ∧ inR j 4 ∧ ¬ inG ch 0 6 ∧ v = .int 0 ∧ u = tI t 38 0 2)) v s) : Agr z t w u s ∧ AgI w o v := by
  have h200 := h.2.2.2.1.1
  have hn0 := h.n36.2.1
  rcases hc with ⟨rfl, x, ⟨a, k, ha, hk, hi, hj, hg, hc⟩, ho⟩ | ⟨rfl, hu, hn⟩ | ⟨rfl, hu, hr1, hr2, hn⟩
  · rcases hm with ⟨a1, k1, ha1, hk1, hi1, hj1, hg1, hm⟩ | ⟨hm0, hv1, hm⟩ | ⟨hm0, hm1, hm2, hv1, hm⟩
    · have e1 : a1 = a := (nI_eq (by omega) (by omega)).mp (hi1.symm.trans hi)
      have e2 : k1 = k := (nI_eq (by omega) (by omega)).mp (hj1.symm.trans hj)
      subst e1; subst e2
      obtain ⟨c, hc7, rfl⟩ := nI_of2 (M := 6) (n := 6) rfl hg.1 hg.2
      rcases hc with ⟨hb, hv, hu⟩ | ⟨hfree, hlt, qa, hv, hu⟩
      · cases hv
        rcases hm with ⟨hb1, hv1, hm⟩ | ⟨h19, hlt1, hv1, hm⟩
        · subst hm; subst hu
          exact ⟨Agr_0 0 h, _, hv1, fun _ => ho⟩
        · rcases hb with hb | hb
          · rcases h.now ha with ⟨q1, q2⟩ | ⟨r, q1, q2⟩
            · exact absurd q1 hb
            · exact absurd (h19.symm.trans q2.2.1) (m1_ne (by have := q2.1; omega))
          · exact absurd hlt1 hb
      · cases hv
        have hnow : mI t 19 a1 = -1 := by
          rcases h.now ha with ⟨q1, q2⟩ | ⟨r, q1, q2⟩
          · exact q2
          · rw [hfree] at q1; cases q1
        rcases hm with ⟨hb1, hv1, hm⟩ | ⟨h19, hlt1, hv1, hm⟩
        · rcases hb1 with hb1 | hb1
          · exact absurd hnow hb1
          · exact absurd hlt hb1
        · subst hm; subst hu
          obtain ⟨n', hR⟩ := RR_ask (qa := qa) (arg := arg) h ha hk (show c < 7 by omega) hfree hlt
          refine ⟨⟨by rw [mSet_38, mAskS_38], ⟨n', hR⟩, by rw [fSet_cA, askS_c6], by rw [mSet_mA, mAskS_mA]⟩, _, hv1, fun _ => ?_⟩
          rw [ho]
          exact congrArg Int32.toInt64 (hR.askNum hlt)
    · exact absurd ⟨by rw [hi]; exact inR_of (n := 4) ha (by decide), by rw [hj]; exact inR_of (n := 4) hk (by decide)⟩ hm0
    · exact absurd hg hm2
  · subst hu
    rcases hm with ⟨a1, k1, ha1, hk1, hi1, hj1, hg1, hm⟩ | ⟨hm0, hv1, hm⟩ | ⟨hm0, hm1, hm2, hv1, hm⟩
    · exact absurd ⟨by rw [hi1]; exact inR_of (n := 4) ha1 (by decide), by rw [hj1]; exact inR_of (n := 4) hk1 (by decide)⟩ hn
    · subst hm; exact ⟨Agr_0 1 h, _, hv1, fun e => absurd e (by decide)⟩
    · exact absurd ⟨hm0, hm1⟩ hn
  · subst hu
    rcases hm with ⟨a1, k1, ha1, hk1, hi1, hj1, hg1, hm⟩ | ⟨hm0, hv1, hm⟩ | ⟨hm0, hm1, hm2, hv1, hm⟩
    · exact absurd hg1 hn
    · exact absurd ⟨hr1, hr2⟩ hm0
    · subst hm; exact ⟨Agr_0 2 h, _, hv1, fun e => absurd e (by decide)⟩
theorem Ag_run {z : CS} {t : MS} {n : Nat} (h : RR z t n) (i : Int32) {w : Int32} {u : CS} {o : Int64} {v : Value} {s : MS} (hc : (fun w u o => (w = 0 ∧ ∃ x : Int32, (fun (v : Value) (u : CS) => ∃ lim1 d, i = nI lim1 ∧ lim1 ≤ 1000 ∧ v = .int (nI d) ∧ Jc z t d u ∧ d ≤ lim1 ∧ (d = lim1 ∨ cI u 25 0 = 0) ∧ ∀ d1, d1 < d → ∃ x1, Jc z t d1 x1 ∧ ¬ cI x1 25 0 = 0) (.int x) u ∧ o = x.toInt64) ∨ (w = 1 ∧ u = z ∧ ¬ inG i 0 1000)) w u o) (hm : (fun v u => (∃ lim1 d, i = nI lim1 ∧ lim1 ≤ 1000 ∧ v = .int (nI d) ∧ Jm t d u ∧ d ≤ lim1 ∧ (d = lim1 ∨ mI u 36 0 = 0) ∧ ∀ d1, d1 < d → ∃ x1, Jm t d1 x1 ∧ ¬ mI x1 36 0 = 0) ∨ (¬ inG i 0 1000 ∧ v = .int 0 ∧ u = tI t 38 0 1)) v s) : Agr z t w u s ∧ AgI w o v := by
  rcases hc with ⟨rfl, x, ⟨l1, d, hi, hl1, hv, hJ, hd, hend, hbef⟩, ho⟩ | ⟨rfl, hu, hn⟩
  · cases hv
    rcases hm with ⟨l2, d2, hi2, hl2, hv1, hJ2, hd2, hend2, hbef2⟩ | ⟨hn1, hv1, hm⟩
    · have el : l2 = l1 := (nI_eq (by omega) (by omega)).mp (hi2.symm.trans hi)
      subst el
      obtain ⟨⟨n1, hR⟩, h6⟩ := hJ
      obtain ⟨hs, -⟩ := hJ2
      have ed : d2 = d := by
        rcases Nat.lt_trichotomy d2 d with hlt | heq | hgt
        · exfalso
          obtain ⟨x1, ⟨⟨n2, hR2⟩, -⟩, hx1⟩ := hbef d2 hlt
          rcases hend2 with he | he
          · omega
          · rw [hs, hR2.n36.1] at he
            exact hx1 (by rw [hR2.n36.2.2]; exact he)
        · exact heq
        · exfalso
          obtain ⟨x1, ⟨hx2, -⟩, hx1⟩ := hbef2 d hgt
          rcases hend with he | he
          · omega
          · rw [hR.n36.2.2] at he
            exact hx1 (by rw [hx2, hR.n36.1]; exact he)
      subst ed; subst hs
      exact ⟨⟨by rw [mSteps_38, t38], ⟨n1, hR⟩, h6, by rw [mSteps_mA]; rfl⟩, _, hv1, fun _ => ho⟩
    · exact absurd (by rw [hi]; exact inG_of hl1) hn1
  · subst hu
    rcases hm with ⟨l2, d2, hi2, hl2, hv1, hJ2, hd2, hend2, hbef2⟩ | ⟨hn1, hv1, hm⟩
    · exact absurd (by rw [hi2]; exact inG_of hl2) hn
    · subst hm
      exact ⟨Agr_0 1 h, _, hv1, fun e => absurd e (by decide)⟩
