set_option maxHeartbeats 4000000 in
set_option maxRecDepth 100000 in
theorem m_run (l : Launch) (hl0 : l.stackTraces = false) (D : va_G) (y : Nat → ClassId) (z : CS) (sz : Nat) (i : Int32) (J : Nat → CS → Prop) (hJ0 : J 0 z) (hJ : ∀ d x, J d x → ∃ n, RowOk x n ∧ cInv x ∧ (0 < n → ∃ so a k q, msgOk x (cS x 3 0) so a k q ∧ ∀ u, takeTo (fDraw x 0 n) (cS x 3 0) so a k q u → J (d + 1) u)) : vx_Met l yX6_run wsX6_run ({ frames := 7, cells := 1001, slots := 3006, locals := 180 }) (va_Pc [.ref (cA z 6 0), .int i] (cPreX D y z sz)) (cQ1 D y z sz (fun v u => ∃ lim1 d, i = nI lim1 ∧ lim1 ≤ 1000 ∧ v = .int (nI d) ∧ J d u ∧ d ≤ lim1 ∧ (d = lim1 ∨ cI u 25 0 = 0) ∧ ∀ d1, d1 < d → ∃ x1, J d1 x1 ∧ ¬ cI x1 25 0 = 0)) (cX D y z sz (fun E => E = cG_ ∧ ¬ inG i 0 1000)) 1001 3006 (cF z sz) := by
  refine vx_ofW (cc := cX6_run) (maxL := 3) (ret := (some .int)) (by decide) rfl ?_
  intro p e s m args below meth c s₁ B hml hnt hv
  obtain ⟨rfl, hsz, hW0, hK, hZ⟩ := hv
  have hx := B.exec
  have hb := B.bytes
  have hr := B.returns
  have hts := atoms_spec (ws := wsX6_run) B.pre
  have hown : s.vm.findClass RX6 = some m.cls := findClass_of_methodNamed B.named
  have hlocks := B.notSynchronized
  subst hsz
  have hW := hW0.self (sz := s.heap.size)
  have hA : ∀ q, s.heap.size ≤ q → cF z s.heap.size q := fun q h => Or.inr h
  have hS : va_S (cF z s.heap.size) s.heap s.heap [] := va_S.rf
  have hl := lv_entry ([.ref (cA z 6 0), .int i]) (n := 3) (Nat.le_of_ble_eq_true rfl)
  rw [lg_entry_eq]
  generalize (lg_sl ([.ref (cA z 6 0), .int i]) ++ List.replicate (3 - (lg_sl ([.ref (cA z 6 0), .int i])).length) Slot.unset).toArray = ls at hl ⊢
  have hl : lv_has ls 3 [(0, .ref (cA z 6 0)), (1, .int i)] := hl
  have hX6 : ∀ w ∈ wsX60, w ∈ wsX6_run := by decide +kernel
  have hX4 : ∀ w ∈ wsX40, w ∈ wsX6_run := by decide +kernel
  refine lv_iload_n hx hb dX6_run_0 rfl (lv_at hl 1 rfl) ?_
  refine lv_iconst (v := 0) hx hb dX6_run_1 (by decide) ?_
  refine lv_sipush (v := 1000) hx hb dX6_run_2 (by decide) ?_
  refine cx0 (vx_runS (As := [.int i, .int 0, .int 1000]) (rest := []) ⟨hx, hb, hml, hown, hts⟩ (m_needRange l hl0 D y z _ i 0 1000) (va_cwS 3 hts gX6_run_X6_needRange rfl rfl rfl (by decide +kernel) ⟨Nat.le_of_ble_eq_true rfl, Nat.le_of_ble_eq_true rfl⟩) (cPreSX hW hK hZ hS hA [.int i, .int 0, .int 1000]) rfl rfl hl.1 rfl (lv_room (Nat.le_of_ble_eq_true rfl)) dX6_run_5 ⟨Nat.le_of_ble_eq_true rfl, Nat.le_of_ble_eq_true rfl⟩) hW hS hA (fun E ce q9 H locs hpx hW hS h1 h2 h3 => cxo hnt hlocks (hpx) hW hS h1 h2 h3 (Nat.le_of_ble_eq_true rfl) (Nat.le_of_ble_eq_true rfl)) (fun u5 H locs hu5 hW hS => ?_)
  obtain ⟨f5, hG⟩ := hu5
  replace f5 := f5.symm
  subst f5
  obtain ⟨lim, hlim, rfl⟩ := nI_of2 (M := 1000) (n := 1000) (by decide) hG.1 hG.2
  refine lv_iconst (v := 0) hx hb dX6_run_8 (by decide) ?_
  refine lv_istore_n (lv' := [(2, _), (0, _), (1, _)]) hx hb dX6_run_9 rfl hl (by decide) rfl (fun ls hl => ?_)
  have loop : ∀ (k : Nat) (x : CS) (d cl sl : Nat) (H : Heap) (locs : List Loc) (ls : Array Slot), d + k = lim → cl = 1 + d → sl = 6 + 3 * d → J d x → (∀ d1, d1 < d → ∃ x1, J d1 x1 ∧ ¬ cI x1 25 0 = 0) → cw D y (cF z s.heap.size) x H → va_S (cF z s.heap.size) s.heap H locs → lv_has ls 3 [(2, .int (nI d)), (0, .ref (cA x 6 0)), (1, .int (nI lim))] → W p l e (headSpec wsX6_run { frames := 7, cells := 1001, slots := 3006, locals := 180 }).room s m #[.ref (cA z 6 0), .int (nI lim)] below meth c H locs cl sl (vx_MQ below (cQ1 D y z s.heap.size (fun v u => ∃ lim1 d, nI lim = nI lim1 ∧ lim1 ≤ 1000 ∧ v = .int (nI d) ∧ J d u ∧ d ≤ lim1 ∧ (d = lim1 ∨ cI u 25 0 = 0) ∧ ∀ d1, d1 < d → ∃ x1, J d1 x1 ∧ ¬ cI x1 25 0 = 0)) (cX D y z s.heap.size (fun E => E = cG_ ∧ ¬ inG (nI lim) 0 1000)) #[.ref (cA z 6 0), .int (nI lim)] s 1001 3006 (cF z s.heap.size)) (F0 m 10 ls []) := by
    intro k
    induction k with
    | zero =>
      intro x d cl sl H locs ls hd hcl hsl hj hbef hW hS hl
      refine lv_iload_n hx hb dX6_run_10 rfl (lv_at hl 0 rfl) ?_
      refine lv_iload_n hx hb dX6_run_11 rfl (lv_at hl 2 rfl) ?_
      refine lv_icmp_ge (tgt := 37) hx hb dX6_run_12 (by decide) (fun _ => ?_) (fun c_ => absurd (nI_le (by omega) (by omega)) c_)
      refine lv_iload_n hx hb dX6_run_37 rfl (lv_at hl 0 rfl) ?_
      refine vx_ret ?_
      refine W.widen (k := 1001) (n := 3006) (by omega) (by omega) ?_
      refine W.iret hx hb hr ?_ hS.2.2 dX6_run_38
      refine cq1 ?_ hW hS
      exact ⟨lim, d, rfl, hlim, rfl, hj, by omega, Or.inl (by omega), hbef⟩
    | succ k ih =>
      intro x d cl sl H locs ls hd hcl hsl hj hbef hW hS hl
      obtain ⟨n, hrow, hI, hstep⟩ := hJ d x hj
      refine lv_iload_n hx hb dX6_run_10 rfl (lv_at hl 0 rfl) ?_
      refine lv_iload_n hx hb dX6_run_11 rfl (lv_at hl 2 rfl) ?_
      refine lv_icmp_ge (tgt := 37) hx hb dX6_run_12 (by decide) (fun c_ => absurd c_ (nI_ge (by omega) (by omega))) (fun _ => ?_)
      refine lv_aload_n hx hb dX6_run_15 rfl (lv_at hl 1 rfl) ?_
      refine g_SharedRegisters_row hx hb hts hX6 hown hK.1 hW rfl (by first | assumption | omega | exact Nat.zero_lt_one | decide) (hts (.fieldLink RX6 49 "SharedRegisters" "row" "LSharedRegisters$Row;") (by decide +kernel)) dX6_run_16 ?_
      refine gN_Row_size hx hb hts hX4 hown hK.1 hW rfl (by first | assumption | omega | exact Nat.zero_lt_one | decide) (hK.2 _ (List.mem_of_getElem? (i := 27) rfl)) dX6_run_19 ?_
      rw [hrow.1]
      by_cases hn0 : n = 0
      · refine lv_if_le (tgt := 37) hx hb dX6_run_22 (by decide) (fun _ => ?_) (fun c_ => absurd (by rw [hn0]; decide) c_)
        refine lv_iload_n hx hb dX6_run_37 rfl (lv_at hl 0 rfl) ?_
        refine vx_ret ?_
        refine W.widen (k := 1001) (n := 3006) (by omega) (by omega) ?_
        refine W.iret hx hb hr ?_ hS.2.2 dX6_run_38
        refine cq1 ?_ hW hS
        exact ⟨lim, d, rfl, hlim, rfl, hj, by omega, Or.inr (by rw [hrow.1, hn0]; rfl), hbef⟩
      · have hn3 := hrow.2.1
        refine lv_if_le (tgt := 37) hx hb dX6_run_22 (by decide) (fun c_ => absurd c_ (nI_nle (by omega) (by omega))) (fun _ => ?_)
        obtain ⟨so, a, k1, q, hmsg, hnext⟩ := hstep (by omega)
        refine lv_aload_n hx hb dX6_run_25 rfl (lv_at hl 1 rfl) ?_
        refine lv_iconst (v := 0) hx hb dX6_run_26 (by decide) ?_
        refine cc1 (va_runV (As := [.int (nI 0)]) (rest := []) ⟨hx, hb, hml, hown, hts⟩ (m_deliver l D y x _ 0 n so a k1 q (by omega) hrow hI hmsg) (cwV 1 hts gX6_run_X6_deliver rfl rfl rfl (by decide +kernel) ⟨Nat.le_of_ble_eq_true rfl, Nat.le_of_ble_eq_true rfl⟩) (cPreV (k := 6) (q := (RX6, TX6, 7)) hW hK (show 0 < 1 from Nat.zero_lt_one) rfl rfl [.int (nI 0)]) rfl rfl hl.1 rfl (lv_room (Nat.le_of_ble_eq_true rfl)) dX6_run_27 ⟨by simp only [headSpec]; omega, by simp only [headSpec]; omega⟩) hW hS hA (fun v27 u27 H locs hu27 hW hS => ?_)
        obtain ⟨e27, f27⟩ := hu27
        have hA27 : cA u27 6 0 = cA x 6 0 := by rw [takeTo_cA f27 (by decide), fDraw_cA]
        rw [← hA27] at hl
        subst e27
        refine lv_pop hx hb dX6_run_30 rfl ?_
        refine lv_iinc (v := nI (d + 1)) (lv' := [(2, _), (0, _), (1, _)]) hx hb dX6_run_31 hl (k := 0) rfl (nI_1 d) (by decide) rfl (fun ls hl => ?_)
        refine lv_goto (tgt := 10) hx hb dX6_run_34 (by decide) ?_
        exact ih u27 (d + 1) _ _ _ _ ls (by omega) (by omega) (by omega) (hnext _ f27) (fun d1 h1 => (Nat.lt_or_ge d1 d).elim (fun g => hbef d1 g) (fun g => ⟨x, (show d1 = d by omega) ▸ hj, by rw [hrow.1]; exact nI_ne0 (by omega) (by omega)⟩)) hW hS (lv_sub hl [0, 1, 2] rfl)
  exact loop lim z 0 _ _ _ _ ls (by omega) rfl rfl hJ0 (fun _ h => absurd h (Nat.not_lt_zero _)) hW hS (lv_sub hl [0, 1, 2] rfl)
