theorem mSet_mA (k : Nat) : ∀ (x : MS) (j n : Nat) (so a r its te ve : Int32) (va : Int64) (set : Int32), mA (mSet k x j n so a r its te ve va set) = mA x := by
  induction k with
  | zero => intros; rfl
  | succ k ih => intro x j n so a r its te ve va set; rw [mSet]; split; rw [ih, mSend_mA]; rw [ih]
theorem mTk_mA (x : MS) (n so a k r q ch : Nat) (b te ve : Int32) (va : Int64) : mA (mTk x n so a k r q ch b te ve va) = mA x := by
  unfold mTk
  split
  · split
    · unfold mPrep; split; rw [mSend_mA]; rfl; rw [mRefuse, mSend_mA]
    · rfl
  · unfold mProm; split
    · split
      · rw [mHear_mA]; rfl
      · rw [mBegin, mSet_mA]; simp only [tI_mA]; rw [mWork_mA, mHear_mA]; rfl
    · rfl
  · split
    · unfold mAcc; split; rw [mSend_mA]; rfl; rw [mRefuse, mSend_mA]
    · rfl
  · unfold mTaken; split; (split <;> rfl); rfl
  · unfold mRefd; split <;> rfl
theorem mTake_mA (z : MS) (i n : Nat) : mA (mTake z i n) = mA z := by rw [mTake, mTk_mA, mDrop_mA]
set_option maxHeartbeats 4000000 in
set_option maxRecDepth 100000 in
theorem m7_run (l : Launch) (D : va_G) (y : Nat → ClassId) (z : MS) (sz : Nat) (i : Int32) (J : Nat → MS → Prop) (hJ0 : J 0 (tI z 38 0 0)) (hJ : ∀ d x, J d x → ∃ n, mI x 36 0 = nI n ∧ n ≤ 300 ∧ MB x ∧ mI x 38 0 = 0 ∧ (0 < n → (∃ so a k r q ch, mMsg x 0 so a k r q ch) ∧ J (d + 1) (mTake x 0 n))) : Met l yX7_run wsX7_run ({ frames := 4, cells := 0, slots := 0, locals := 130 }) (va_Pc [.ref (mA z 0 0), .int i] (mPre D y z sz)) (mQ1 D y z sz (fun v u => (∃ lim1 d, i = nI lim1 ∧ lim1 ≤ 1000 ∧ v = .int (nI d) ∧ J d u ∧ d ≤ lim1 ∧ (d = lim1 ∨ mI u 36 0 = 0) ∧ ∀ d1, d1 < d → ∃ x1, J d1 x1 ∧ ¬ mI x1 36 0 = 0) ∨ (¬ inG i 0 1000 ∧ v = .int 0 ∧ u = tI z 38 0 1))) 0 0 (mF z sz) := by
  refine Met.ofW (cc := cX7_run) (maxL := 4) (ret := (some .int)) (by decide) rfl ?_
  intro p e s m args below meth c s₁ B hml hv
  obtain ⟨rfl, hsz, hW0, hK⟩ := hv
  have hx := B.exec
  have hb := B.bytes
  have hr := B.returns
  have hts := atoms_spec (ws := wsX7_run) B.pre
  have hown : s.vm.findClass RX7 = some m.cls := findClass_of_methodNamed B.named
  have hlocks := B.notSynchronized
  subst hsz
  have hW := hW0.self (sz := s.heap.size)
  have hA : ∀ q, s.heap.size ≤ q → mF z s.heap.size q := fun q h => Or.inr h
  have hS : va_S (mF z s.heap.size) s.heap s.heap [] := va_S.rf
  have hl := lv_entry ([.ref (mA z 0 0), .int i]) (n := 4) (Nat.le_of_ble_eq_true rfl)
  rw [lg_entry_eq]
  generalize (lg_sl ([.ref (mA z 0 0), .int i]) ++ List.replicate (4 - (lg_sl ([.ref (mA z 0 0), .int i])).length) Slot.unset).toArray = ls at hl ⊢
  have hl : lv_has ls 4 [(0, .ref (mA z 0 0)), (1, .int i)] := hl
  have hX7 : ∀ w ∈ wsX70, w ∈ wsX7_run := by decide +kernel
  by_cases hok : inG i 0 1000
  · obtain ⟨lim, hlim, rfl⟩ := nI_of2 (M := 1000) (n := 1000) (by decide) hok.1 hok.2
    refine lv_aload_n hx hb dX7_run_0 rfl (lv_at hl 0 rfl) ?_
    refine lv_iload_n hx hb dX7_run_1 rfl (lv_at hl 1 rfl) ?_
    refine lv_if_lt (tgt := 12) hx hb dX7_run_2 (by decide) (fun c_ => absurd c_ hok.1) (fun _ => ?_)
    refine lv_iload_n hx hb dX7_run_5 rfl (lv_at hl 1 rfl) ?_
    refine lv_sipush (v := 1000) hx hb dX7_run_6 (by decide) ?_
    refine lv_icmp_le (tgt := 16) hx hb dX7_run_9 (by decide) (fun _ => ?_) (fun c_ => absurd hok.2 c_)
    refine lv_iconst (v := 0) hx hb dX7_run_16 (by decide) ?_
    refine pM_thrown hx hb hts hX7 hown hK.1 hW hS rfl (hts (.fieldLink RX7 120 "SharedRegistersModel" "thrown" "I") (by decide +kernel)) dX7_run_17 (fun H locs hW hS => ?_)
    refine lv_iconst (v := 0) hx hb dX7_run_20 (by decide) ?_
    refine lv_istore_n (lv' := [(2, _), (0, _), (1, _)]) hx hb dX7_run_21 rfl hl (by decide) rfl (fun ls hl => ?_)
    have loop : ∀ (k : Nat) (x : MS) (d : Nat) (H : Heap) (locs : List Loc) (ls : Array Slot), d + k = lim → J d x → (∀ d1, d1 < d → ∃ x1, J d1 x1 ∧ ¬ mI x1 36 0 = 0) → mw D y (mF z s.heap.size) x H → va_S (mF z s.heap.size) s.heap H locs → lv_has ls 4 [(2, .int (nI d)), (0, .ref (mA x 0 0)), (1, .int (nI lim))] → W p l e (headSpec wsX7_run { frames := 4, cells := 0, slots := 0, locals := 130 }).room s m #[.ref (mA z 0 0), .int (nI lim)] below meth c H locs 0 0 (MQ below (mQ1 D y z s.heap.size (fun v u => (∃ lim1 d, nI lim = nI lim1 ∧ lim1 ≤ 1000 ∧ v = .int (nI d) ∧ J d u ∧ d ≤ lim1 ∧ (d = lim1 ∨ mI u 36 0 = 0) ∧ ∀ d1, d1 < d → ∃ x1, J d1 x1 ∧ ¬ mI x1 36 0 = 0) ∨ (¬ inG (nI lim) 0 1000 ∧ v = .int 0 ∧ u = tI z 38 0 1))) #[.ref (mA z 0 0), .int (nI lim)] s 0 0 (mF z s.heap.size)) (F0 m 22 ls []) := by
      intro k
      induction k with
      | zero =>
        intro x d H locs ls hd hj hbef hW hS hl
        obtain ⟨n, h36, hn3, hBx, h38, hstep⟩ := hJ d x hj
        refine lv_aload_n hx hb dX7_run_22 rfl (lv_at hl 1 rfl) ?_
        refine gM 38 hx hb hts hX7 hown hK.1 hW rfl (by decide) rfl (hts (.fieldLink RX7 120 "SharedRegistersModel" "thrown" "I") (by decide +kernel)) rfl dX7_run_23 ?_
        rw [show mI x 38 0 = 0 from h38]
        refine lv_if_ne (tgt := 53) hx hb dX7_run_26 (by decide) (fun c_ => absurd c_ (by decide)) (fun _ => ?_)
        refine lv_iload_n hx hb dX7_run_29 rfl (lv_at hl 0 rfl) ?_
        refine lv_iload_n hx hb dX7_run_30 rfl (lv_at hl 2 rfl) ?_
        refine lv_icmp_ge (tgt := 53) hx hb dX7_run_31 (by decide) (fun _ => ?_) (fun c_ => absurd (nI_le (by omega) (by omega)) c_)
        refine lv_iload_n hx hb dX7_run_53 rfl (lv_at hl 0 rfl) ?_
        refine W.iret hx hb hr ?_ hS.2.2 dX7_run_54
        refine mq1 ?_ hW hS
        exact Or.inl ⟨lim, d, rfl, hlim, rfl, hj, by omega, Or.inl (by omega), hbef⟩
      | succ k ih =>
        intro x d H locs ls hd hj hbef hW hS hl
        obtain ⟨n, h36, hn3, hBx, h38, hstep⟩ := hJ d x hj
        refine lv_aload_n hx hb dX7_run_22 rfl (lv_at hl 1 rfl) ?_
        refine gM 38 hx hb hts hX7 hown hK.1 hW rfl (by decide) rfl (hts (.fieldLink RX7 120 "SharedRegistersModel" "thrown" "I") (by decide +kernel)) rfl dX7_run_23 ?_
        rw [show mI x 38 0 = 0 from h38]
        refine lv_if_ne (tgt := 53) hx hb dX7_run_26 (by decide) (fun c_ => absurd c_ (by decide)) (fun _ => ?_)
        refine lv_iload_n hx hb dX7_run_29 rfl (lv_at hl 0 rfl) ?_
        refine lv_iload_n hx hb dX7_run_30 rfl (lv_at hl 2 rfl) ?_
        refine lv_icmp_ge (tgt := 53) hx hb dX7_run_31 (by decide) (fun c_ => absurd c_ (nI_ge (by omega) (by omega))) (fun _ => ?_)
        refine lv_aload_n hx hb dX7_run_34 rfl (lv_at hl 1 rfl) ?_
        refine gM 0 hx hb hts hX7 hown hK.1 hW rfl (by decide) rfl (hts (.fieldLink RX7 124 "SharedRegistersModel" "many" "I") (by decide +kernel)) rfl dX7_run_35 ?_
        rw [show mI x 36 0 = nI n from h36]
        by_cases hn0 : n = 0
        · refine lv_if_le (tgt := 53) hx hb dX7_run_38 (by decide) (fun _ => ?_) (fun c_ => absurd (by rw [hn0]; decide) c_)
          refine lv_iload_n hx hb dX7_run_53 rfl (lv_at hl 0 rfl) ?_
          refine W.iret hx hb hr ?_ hS.2.2 dX7_run_54
          refine mq1 ?_ hW hS
          exact Or.inl ⟨lim, d, rfl, hlim, rfl, hj, by omega, Or.inr (by rw [h36, hn0]; rfl), hbef⟩
        · refine lv_if_le (tgt := 53) hx hb dX7_run_38 (by decide) (fun c_ => absurd c_ (nI_nle (by omega) (by omega))) (fun _ => ?_)
          obtain ⟨⟨so, a, k1, r, q, ch, hm⟩, hnext⟩ := hstep (by omega)
          refine lv_aload_n hx hb dX7_run_41 rfl (lv_at hl 1 rfl) ?_
          refine lv_iconst (v := 0) hx hb dX7_run_42 (by decide) ?_
          refine mc1 (va_runV (As := [.int (nI 0)]) (rest := []) ⟨hx, hb, hml, hown, hts⟩ (m7_takeOne l D y x _ 0 n so a k1 r q ch h36 (by omega) hn3 hBx hm) (cwV 1 hts gX7_run_X7_takeOne rfl rfl rfl (by decide +kernel) ⟨Nat.le_of_ble_eq_true rfl, Nat.le_of_ble_eq_true rfl⟩) (mPreV (k := 0) (q := (RX7, TX7, 39)) hW hK (show 0 < 1 from Nat.zero_lt_one) rfl rfl [.int (nI 0)]) rfl rfl hl.1 rfl (lv_room (Nat.le_of_ble_eq_true rfl)) dX7_run_43 ⟨Nat.le_of_ble_eq_true rfl, Nat.le_of_ble_eq_true rfl⟩) hW hS hA (fun v43 u43 H locs hu43 hW hS => ?_)
          obtain ⟨rfl, hu43⟩ := hu43
          rw [← mTake_eq hm] at hu43
          have hA43 : mA u43 = mA x := by rw [hu43, mTake_mA]
          rw [← hA43] at hl
          refine lv_istore_n (lv' := [(3, _), (2, _), (0, _), (1, _)]) hx hb dX7_run_46 rfl hl (by decide) rfl (fun ls hl => ?_)
          refine lv_iinc (v := nI (d + 1)) (lv' := [(2, _), (3, _), (0, _), (1, _)]) hx hb dX7_run_47 hl (k := 1) rfl (nI_1 _) (by decide) rfl (fun ls hl => ?_)
          refine lv_goto (tgt := 22) hx hb dX7_run_50 (by decide) ?_
          exact ih u43 (d + 1) _ _ ls (by omega) (by rw [hu43]; exact hnext) (fun d1 h1 => (Nat.lt_or_ge d1 d).elim (fun g => hbef d1 g) (fun g => ⟨x, (show d1 = d by omega) ▸ hj, by rw [h36]; exact nI_ne0 (by omega) (by omega)⟩)) hW hS (lv_sub hl [0, 2, 3] rfl)
    exact loop lim (tI z 38 0 0) 0 _ _ ls (by omega) hJ0 (fun _ h => absurd h (Nat.not_lt_zero _)) hW hS (lv_sub hl [0, 1, 2] rfl)
  · refine lv_aload_n hx hb dX7_run_0 rfl (lv_at hl 0 rfl) ?_
    refine lv_iload_n hx hb dX7_run_1 rfl (lv_at hl 1 rfl) ?_
    refine lv_if_lt (tgt := 12) hx hb dX7_run_2 (by decide) (fun c_2 => ?_) (fun c_2 => ?_)
    · refine lv_iconst (v := 1) hx hb dX7_run_12 (by decide) ?_
      refine lv_goto (tgt := 17) hx hb dX7_run_13 (by decide) ?_
      refine pM_thrown hx hb hts hX7 hown hK.1 hW hS rfl (hts (.fieldLink RX7 120 "SharedRegistersModel" "thrown" "I") (by decide +kernel)) dX7_run_17 (fun H locs hW hS => ?_)
      refine lv_iconst (v := 0) hx hb dX7_run_20 (by decide) ?_
      refine lv_istore_n (lv' := [(2, _), (0, _), (1, _)]) hx hb dX7_run_21 rfl hl (by decide) rfl (fun ls hl => ?_)
      refine lv_aload_n hx hb dX7_run_22 rfl (lv_at hl 1 rfl) ?_
      refine gM 38 hx hb hts hX7 hown hK.1 hW (by simp only [tI_mA, tJ_mA]) (by decide) rfl (hts (.fieldLink RX7 120 "SharedRegistersModel" "thrown" "I") (by decide +kernel)) rfl dX7_run_23 ?_
      rw [show mI (tI z 38 0 1) 38 0 = 1 from by simp [tI_mI, tJ_mI, tI_mJ, tJ_mJ, up2]]
      refine lv_if_ne (tgt := 53) hx hb dX7_run_26 (by decide) (fun _ => ?_) (fun c_ => absurd c_ (by decide))
      refine lv_iload_n hx hb dX7_run_53 rfl (lv_at hl 0 rfl) ?_
      refine W.iret hx hb hr ?_ hS.2.2 dX7_run_54
      refine mq1 ?_ hW hS
      exact Or.inr ⟨hok, rfl, rfl⟩
    · refine lv_iload_n hx hb dX7_run_5 rfl (lv_at hl 1 rfl) ?_
      refine lv_sipush (v := 1000) hx hb dX7_run_6 (by decide) ?_
      refine lv_icmp_le (tgt := 16) hx hb dX7_run_9 (by decide) (fun c_9 => ?_) (fun c_9 => ?_)
      · exact absurd ⟨c_2, c_9⟩ hok
      · refine lv_iconst (v := 1) hx hb dX7_run_12 (by decide) ?_
        refine lv_goto (tgt := 17) hx hb dX7_run_13 (by decide) ?_
        refine pM_thrown hx hb hts hX7 hown hK.1 hW hS rfl (hts (.fieldLink RX7 120 "SharedRegistersModel" "thrown" "I") (by decide +kernel)) dX7_run_17 (fun H locs hW hS => ?_)
        refine lv_iconst (v := 0) hx hb dX7_run_20 (by decide) ?_
        refine lv_istore_n (lv' := [(2, _), (0, _), (1, _)]) hx hb dX7_run_21 rfl hl (by decide) rfl (fun ls hl => ?_)
        refine lv_aload_n hx hb dX7_run_22 rfl (lv_at hl 1 rfl) ?_
        refine gM 38 hx hb hts hX7 hown hK.1 hW (by simp only [tI_mA, tJ_mA]) (by decide) rfl (hts (.fieldLink RX7 120 "SharedRegistersModel" "thrown" "I") (by decide +kernel)) rfl dX7_run_23 ?_
        rw [show mI (tI z 38 0 1) 38 0 = 1 from by simp [tI_mI, tJ_mI, tI_mJ, tJ_mJ, up2]]
        refine lv_if_ne (tgt := 53) hx hb dX7_run_26 (by decide) (fun _ => ?_) (fun c_ => absurd c_ (by decide))
        refine lv_iload_n hx hb dX7_run_53 rfl (lv_at hl 0 rfl) ?_
        refine W.iret hx hb hr ?_ hS.2.2 dX7_run_54
        refine mq1 ?_ hW hS
        exact Or.inr ⟨hok, rfl, rfl⟩
