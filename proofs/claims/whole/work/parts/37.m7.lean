set_option maxHeartbeats 4000000 in
set_option maxRecDepth 100000 in
theorem m7_plan (l : Launch) (D : va_G) (y : Nat → ClassId) (z : MS) (sz : Nat) (i j se en : Int32) : Met l yX7_plan wsX7_plan ({ frames := 1, cells := 0, slots := 0, locals := 40 }) (va_Pc [.ref (mA z 0 0), .int i, .int j, .int se, .int en] (mPre D y z sz)) (mQ0 D y z sz (fun u => (∃ a k, a < 4 ∧ k < 2 ∧ i = nI a ∧ j = nI k ∧ inG se 1 511 ∧ inG en 1 (mBits 9 se 0 0) ∧ u = tI (tI (tI z 38 0 0) 15 (2 * a + k) se) 16 (2 * a + k) en) ∨ (¬ (inR i 4 ∧ inR j 2) ∧ u = tI z 38 0 1) ∨ (inR i 4 ∧ inR j 2 ∧ ¬ (inG se 1 511 ∧ inG en 1 (mBits 9 se 0 0)) ∧ u = tI z 38 0 2))) 0 0 (mF z sz) := by
  refine Met.ofW (cc := cX7_plan) (maxL := 5) (ret := none) (by decide) rfl ?_
  intro p e s m args below meth c s₁ B hml hv
  obtain ⟨rfl, hsz, hW0, hK⟩ := hv
  have hx := B.exec
  have hb := B.bytes
  have hr := B.returns
  have hts := atoms_spec (ws := wsX7_plan) B.pre
  have hown : s.vm.findClass RX7 = some m.cls := findClass_of_methodNamed B.named
  have hlocks := B.notSynchronized
  subst hsz
  have hW := hW0.self (sz := s.heap.size)
  have hA : ∀ q, s.heap.size ≤ q → mF z s.heap.size q := fun q h => Or.inr h
  have hS : va_S (mF z s.heap.size) s.heap s.heap [] := va_S.rf
  have hl := lv_entry ([.ref (mA z 0 0), .int i, .int j, .int se, .int en]) (n := 5) (Nat.le_of_ble_eq_true rfl)
  rw [lg_entry_eq]
  generalize (lg_sl ([.ref (mA z 0 0), .int i, .int j, .int se, .int en]) ++ List.replicate (5 - (lg_sl ([.ref (mA z 0 0), .int i, .int j, .int se, .int en])).length) Slot.unset).toArray = ls at hl ⊢
  have hl : lv_has ls 5 [(0, .ref (mA z 0 0)), (1, .int i), (2, .int j), (3, .int se), (4, .int en)] := hl
  have hX7 : ∀ w ∈ wsX70, w ∈ wsX7_plan := by decide +kernel
  by_cases hok : inR i 4 ∧ inR j 2
  · obtain ⟨hR1, hR2⟩ := hok
    obtain ⟨a, ha, rfl⟩ := inR_nat (n := 4) hR1 (by decide)
    obtain ⟨k, hk, rfl⟩ := inR_nat (n := 2) hR2 (by decide)
    rcases (show k = 0 ∨ k = 1 by omega) with rfl | rfl
    · by_cases hg : inG se 1 511 ∧ inG en 1 (mBits 9 se 0 0)
      · refine lv_aload_n hx hb dX7_plan_0 rfl (lv_at hl 0 rfl) ?_
        refine lv_iload_n hx hb dX7_plan_1 rfl (lv_at hl 1 rfl) ?_
        refine mc1 (va_runS (As := [.int (nI a)]) (rest := [.ref (mA z 0 0)]) ⟨hx, hb, hml, hown, hts⟩ (m7_noAsker l D y z _ (nI a)) (va_cwS 1 hts gX7_plan_X7_noAsker rfl rfl rfl (by decide +kernel) ⟨Nat.le_of_ble_eq_true rfl, Nat.le_of_ble_eq_true rfl⟩) (mPreS hW hK [.int (nI a)]) rfl rfl hl.1 rfl (lv_room (Nat.le_of_ble_eq_true rfl)) dX7_plan_2 ⟨Nat.le_of_ble_eq_true rfl, Nat.le_of_ble_eq_true rfl⟩) hW hS hA (fun v2 u2 H locs hu2 hW hS => ?_)
        obtain ⟨rfl, f2⟩ := hu2
        replace f2 := f2.symm
        subst f2
        rw [if_pos (show (¬ _ < (0 : Int32) ∧ _ < _) from hR1)]
        refine lv_if_ne (tgt := 17) hx hb dX7_plan_5 (by decide) (fun c_ => absurd c_ (by decide)) (fun _ => ?_)
        refine lv_iload_n hx hb dX7_plan_8 rfl (lv_at hl 2 rfl) ?_
        refine lv_if_lt (tgt := 17) hx hb dX7_plan_9 (by decide) (fun c_ => absurd c_ (by decide)) (fun _ => ?_)
        refine lv_iload_n hx hb dX7_plan_12 rfl (lv_at hl 2 rfl) ?_
        refine lv_iconst (v := 1) hx hb dX7_plan_13 (by decide) ?_
        refine lv_icmp_le (tgt := 21) hx hb dX7_plan_14 (by decide) (fun _ => ?_) (fun c_ => absurd c_ (by decide))
        refine lv_iload_n hx hb dX7_plan_21 rfl (lv_at hl 3 rfl) ?_
        refine lv_iconst (v := 1) hx hb dX7_plan_22 (by decide) ?_
        refine lv_icmp_lt (tgt := 48) hx hb dX7_plan_23 (by decide) (fun c_23 => ?_) (fun c_23 => ?_)
        · exact absurd c_23 hg.1.1
        · refine lv_iload_n hx hb dX7_plan_26 rfl (lv_at hl 3 rfl) ?_
          refine lv_sipush (v := 511) hx hb dX7_plan_27 (by decide) ?_
          refine lv_icmp_gt (tgt := 48) hx hb dX7_plan_30 (by decide) (fun c_30 => ?_) (fun c_30 => ?_)
          · exact absurd hg.1.2 (Int32.not_le.mpr c_30)
          · refine lv_iload hx hb dX7_plan_33 (lv_at hl 4 rfl) ?_
            refine lv_iconst (v := 1) hx hb dX7_plan_35 (by decide) ?_
            refine lv_icmp_lt (tgt := 48) hx hb dX7_plan_36 (by decide) (fun c_36 => ?_) (fun c_36 => ?_)
            · exact absurd c_36 hg.2.1
            · refine lv_iload hx hb dX7_plan_39 (lv_at hl 4 rfl) ?_
              refine lv_iload_n hx hb dX7_plan_41 rfl (lv_at hl 3 rfl) ?_
              refine mc1 (va_runS (As := [.int se]) (rest := [.int en, .ref (mA z 0 0)]) ⟨hx, hb, hml, hown, hts⟩ (m7_bits l D y z _ se) (va_cwS 1 hts gX7_plan_X7_bits rfl rfl rfl (by decide +kernel) ⟨Nat.le_of_ble_eq_true rfl, Nat.le_of_ble_eq_true rfl⟩) (mPreS hW hK [.int se]) rfl rfl hl.1 rfl (lv_room (Nat.le_of_ble_eq_true rfl)) dX7_plan_42 ⟨Nat.le_of_ble_eq_true rfl, Nat.le_of_ble_eq_true rfl⟩) hW hS hA (fun v42 u42 H locs hu42 hW hS => ?_)
              obtain ⟨rfl, f42⟩ := hu42
              replace f42 := f42.symm
              subst f42
              refine lv_icmp_le (tgt := 52) hx hb dX7_plan_45 (by decide) (fun c_45 => ?_) (fun c_45 => ?_)
              · refine lv_iconst (v := 0) hx hb dX7_plan_52 (by decide) ?_
                refine pM_thrown hx hb hts hX7 hown hK.1 hW hS rfl (hts (.fieldLink RX7 120 "SharedRegistersModel" "thrown" "I") (by decide +kernel)) dX7_plan_53 (fun H locs hW hS => ?_)
                refine lv_aload_n hx hb dX7_plan_56 rfl (lv_at hl 0 rfl) ?_
                refine gM 38 hx hb hts hX7 hown hK.1 hW (by simp only [tI_mA, tJ_mA]) (by decide) rfl (hts (.fieldLink RX7 120 "SharedRegistersModel" "thrown" "I") (by decide +kernel)) rfl dX7_plan_57 ?_
                rw [show mI (tI z 38 0 0) 38 0 = 0 from by simp [tI_mI, tJ_mI, tI_mJ, tJ_mJ, up2]]
                refine lv_if_ne (tgt := 86) hx hb dX7_plan_60 (by decide) (fun c_ => absurd c_ (by decide)) (fun _ => ?_)
                refine lv_aload_n hx hb dX7_plan_63 rfl (lv_at hl 0 rfl) ?_
                refine gM 16 hx hb hts hX7 hown hK.1 hW (by simp only [tI_mA, tJ_mA]) (by decide) rfl (hts (.fieldLink RX7 57 "SharedRegistersModel" "set" "[I") (by decide +kernel)) rfl dX7_plan_64 ?_
                refine lv_iconst (v := 2) hx hb dX7_plan_67 (by decide) ?_
                refine lv_iload_n hx hb dX7_plan_68 rfl (lv_at hl 1 rfl) ?_
                refine lv_imul hx hb dX7_plan_69 ?_
                rw [show (2 : Int32) * nI a = nI (2 * a) from pk_mul 2 _]
                refine lv_iload_n hx hb dX7_plan_70 rfl (lv_at hl 2 rfl) ?_
                refine lv_iadd hx hb dX7_plan_71 ?_
                rw [show nI (2 * a) + nI 0 = nI (2 * a + 0) from nI_add _ _]
                refine lv_iload_n hx hb dX7_plan_72 rfl (lv_at hl 3 rfl) ?_
                refine mis_n 15 hx hb hK.1 hW hS (by simp only [tI_mA, tJ_mA]) (by decide) rfl (show _ < 8 by omega) (by decide) dX7_plan_73 (fun H locs hW hS => ?_)
                refine lv_aload_n hx hb dX7_plan_74 rfl (lv_at hl 0 rfl) ?_
                refine gM 17 hx hb hts hX7 hown hK.1 hW (by simp only [tI_mA, tJ_mA]) (by decide) rfl (hts (.fieldLink RX7 60 "SharedRegistersModel" "enough" "[I") (by decide +kernel)) rfl dX7_plan_75 ?_
                refine lv_iconst (v := 2) hx hb dX7_plan_78 (by decide) ?_
                refine lv_iload_n hx hb dX7_plan_79 rfl (lv_at hl 1 rfl) ?_
                refine lv_imul hx hb dX7_plan_80 ?_
                rw [show (2 : Int32) * nI a = nI (2 * a) from pk_mul 2 _]
                refine lv_iload_n hx hb dX7_plan_81 rfl (lv_at hl 2 rfl) ?_
                refine lv_iadd hx hb dX7_plan_82 ?_
                rw [show nI (2 * a) + nI 0 = nI (2 * a + 0) from nI_add _ _]
                refine lv_iload hx hb dX7_plan_83 (lv_at hl 4 rfl) ?_
                refine mis_n 16 hx hb hK.1 hW hS (by simp only [tI_mA, tJ_mA]) (by decide) rfl (show _ < 8 by omega) (by decide) dX7_plan_85 (fun H locs hW hS => ?_)
                refine W.vret hx hb hr ?_ hS.2.2 dX7_plan_86
                refine mq0 ?_ hW hS
                exact Or.inl ⟨a, 0, ha, by decide, rfl, rfl, hg.1, hg.2, rfl⟩
              · exact absurd hg.2.2 c_45
      · refine lv_aload_n hx hb dX7_plan_0 rfl (lv_at hl 0 rfl) ?_
        refine lv_iload_n hx hb dX7_plan_1 rfl (lv_at hl 1 rfl) ?_
        refine mc1 (va_runS (As := [.int (nI a)]) (rest := [.ref (mA z 0 0)]) ⟨hx, hb, hml, hown, hts⟩ (m7_noAsker l D y z _ (nI a)) (va_cwS 1 hts gX7_plan_X7_noAsker rfl rfl rfl (by decide +kernel) ⟨Nat.le_of_ble_eq_true rfl, Nat.le_of_ble_eq_true rfl⟩) (mPreS hW hK [.int (nI a)]) rfl rfl hl.1 rfl (lv_room (Nat.le_of_ble_eq_true rfl)) dX7_plan_2 ⟨Nat.le_of_ble_eq_true rfl, Nat.le_of_ble_eq_true rfl⟩) hW hS hA (fun v2 u2 H locs hu2 hW hS => ?_)
        obtain ⟨rfl, f2⟩ := hu2
        replace f2 := f2.symm
        subst f2
        rw [if_pos (show (¬ _ < (0 : Int32) ∧ _ < _) from hR1)]
        refine lv_if_ne (tgt := 17) hx hb dX7_plan_5 (by decide) (fun c_ => absurd c_ (by decide)) (fun _ => ?_)
        refine lv_iload_n hx hb dX7_plan_8 rfl (lv_at hl 2 rfl) ?_
        refine lv_if_lt (tgt := 17) hx hb dX7_plan_9 (by decide) (fun c_ => absurd c_ (by decide)) (fun _ => ?_)
        refine lv_iload_n hx hb dX7_plan_12 rfl (lv_at hl 2 rfl) ?_
        refine lv_iconst (v := 1) hx hb dX7_plan_13 (by decide) ?_
        refine lv_icmp_le (tgt := 21) hx hb dX7_plan_14 (by decide) (fun _ => ?_) (fun c_ => absurd c_ (by decide))
        refine lv_iload_n hx hb dX7_plan_21 rfl (lv_at hl 3 rfl) ?_
        refine lv_iconst (v := 1) hx hb dX7_plan_22 (by decide) ?_
        refine lv_icmp_lt (tgt := 48) hx hb dX7_plan_23 (by decide) (fun c_23 => ?_) (fun c_23 => ?_)
        · refine lv_iconst (v := 2) hx hb dX7_plan_48 (by decide) ?_
          refine lv_goto (tgt := 53) hx hb dX7_plan_49 (by decide) ?_
          refine pM_thrown hx hb hts hX7 hown hK.1 hW hS rfl (hts (.fieldLink RX7 120 "SharedRegistersModel" "thrown" "I") (by decide +kernel)) dX7_plan_53 (fun H locs hW hS => ?_)
          refine lv_aload_n hx hb dX7_plan_56 rfl (lv_at hl 0 rfl) ?_
          refine gM 38 hx hb hts hX7 hown hK.1 hW (by simp only [tI_mA, tJ_mA]) (by decide) rfl (hts (.fieldLink RX7 120 "SharedRegistersModel" "thrown" "I") (by decide +kernel)) rfl dX7_plan_57 ?_
          rw [show mI (tI z 38 0 2) 38 0 = 2 from by simp [tI_mI, tJ_mI, tI_mJ, tJ_mJ, up2]]
          refine lv_if_ne (tgt := 86) hx hb dX7_plan_60 (by decide) (fun _ => ?_) (fun c_ => absurd c_ (by decide))
          refine W.vret hx hb hr ?_ hS.2.2 dX7_plan_86
          refine mq0 ?_ hW hS
          exact Or.inr (Or.inr ⟨hR1, hR2, hg, rfl⟩)
        · refine lv_iload_n hx hb dX7_plan_26 rfl (lv_at hl 3 rfl) ?_
          refine lv_sipush (v := 511) hx hb dX7_plan_27 (by decide) ?_
          refine lv_icmp_gt (tgt := 48) hx hb dX7_plan_30 (by decide) (fun c_30 => ?_) (fun c_30 => ?_)
          · refine lv_iconst (v := 2) hx hb dX7_plan_48 (by decide) ?_
            refine lv_goto (tgt := 53) hx hb dX7_plan_49 (by decide) ?_
            refine pM_thrown hx hb hts hX7 hown hK.1 hW hS rfl (hts (.fieldLink RX7 120 "SharedRegistersModel" "thrown" "I") (by decide +kernel)) dX7_plan_53 (fun H locs hW hS => ?_)
            refine lv_aload_n hx hb dX7_plan_56 rfl (lv_at hl 0 rfl) ?_
            refine gM 38 hx hb hts hX7 hown hK.1 hW (by simp only [tI_mA, tJ_mA]) (by decide) rfl (hts (.fieldLink RX7 120 "SharedRegistersModel" "thrown" "I") (by decide +kernel)) rfl dX7_plan_57 ?_
            rw [show mI (tI z 38 0 2) 38 0 = 2 from by simp [tI_mI, tJ_mI, tI_mJ, tJ_mJ, up2]]
            refine lv_if_ne (tgt := 86) hx hb dX7_plan_60 (by decide) (fun _ => ?_) (fun c_ => absurd c_ (by decide))
            refine W.vret hx hb hr ?_ hS.2.2 dX7_plan_86
            refine mq0 ?_ hW hS
            exact Or.inr (Or.inr ⟨hR1, hR2, hg, rfl⟩)
          · refine lv_iload hx hb dX7_plan_33 (lv_at hl 4 rfl) ?_
            refine lv_iconst (v := 1) hx hb dX7_plan_35 (by decide) ?_
            refine lv_icmp_lt (tgt := 48) hx hb dX7_plan_36 (by decide) (fun c_36 => ?_) (fun c_36 => ?_)
            · refine lv_iconst (v := 2) hx hb dX7_plan_48 (by decide) ?_
              refine lv_goto (tgt := 53) hx hb dX7_plan_49 (by decide) ?_
              refine pM_thrown hx hb hts hX7 hown hK.1 hW hS rfl (hts (.fieldLink RX7 120 "SharedRegistersModel" "thrown" "I") (by decide +kernel)) dX7_plan_53 (fun H locs hW hS => ?_)
              refine lv_aload_n hx hb dX7_plan_56 rfl (lv_at hl 0 rfl) ?_
              refine gM 38 hx hb hts hX7 hown hK.1 hW (by simp only [tI_mA, tJ_mA]) (by decide) rfl (hts (.fieldLink RX7 120 "SharedRegistersModel" "thrown" "I") (by decide +kernel)) rfl dX7_plan_57 ?_
              rw [show mI (tI z 38 0 2) 38 0 = 2 from by simp [tI_mI, tJ_mI, tI_mJ, tJ_mJ, up2]]
              refine lv_if_ne (tgt := 86) hx hb dX7_plan_60 (by decide) (fun _ => ?_) (fun c_ => absurd c_ (by decide))
              refine W.vret hx hb hr ?_ hS.2.2 dX7_plan_86
              refine mq0 ?_ hW hS
              exact Or.inr (Or.inr ⟨hR1, hR2, hg, rfl⟩)
            · refine lv_iload hx hb dX7_plan_39 (lv_at hl 4 rfl) ?_
              refine lv_iload_n hx hb dX7_plan_41 rfl (lv_at hl 3 rfl) ?_
              refine mc1 (va_runS (As := [.int se]) (rest := [.int en, .ref (mA z 0 0)]) ⟨hx, hb, hml, hown, hts⟩ (m7_bits l D y z _ se) (va_cwS 1 hts gX7_plan_X7_bits rfl rfl rfl (by decide +kernel) ⟨Nat.le_of_ble_eq_true rfl, Nat.le_of_ble_eq_true rfl⟩) (mPreS hW hK [.int se]) rfl rfl hl.1 rfl (lv_room (Nat.le_of_ble_eq_true rfl)) dX7_plan_42 ⟨Nat.le_of_ble_eq_true rfl, Nat.le_of_ble_eq_true rfl⟩) hW hS hA (fun v42 u42 H locs hu42 hW hS => ?_)
              obtain ⟨rfl, f42⟩ := hu42
              replace f42 := f42.symm
              subst f42
              refine lv_icmp_le (tgt := 52) hx hb dX7_plan_45 (by decide) (fun c_45 => ?_) (fun c_45 => ?_)
              · exact absurd ⟨⟨c_23, Int32.not_lt.mp c_30⟩, c_36, c_45⟩ hg
              · refine lv_iconst (v := 2) hx hb dX7_plan_48 (by decide) ?_
                refine lv_goto (tgt := 53) hx hb dX7_plan_49 (by decide) ?_
                refine pM_thrown hx hb hts hX7 hown hK.1 hW hS rfl (hts (.fieldLink RX7 120 "SharedRegistersModel" "thrown" "I") (by decide +kernel)) dX7_plan_53 (fun H locs hW hS => ?_)
                refine lv_aload_n hx hb dX7_plan_56 rfl (lv_at hl 0 rfl) ?_
                refine gM 38 hx hb hts hX7 hown hK.1 hW (by simp only [tI_mA, tJ_mA]) (by decide) rfl (hts (.fieldLink RX7 120 "SharedRegistersModel" "thrown" "I") (by decide +kernel)) rfl dX7_plan_57 ?_
                rw [show mI (tI z 38 0 2) 38 0 = 2 from by simp [tI_mI, tJ_mI, tI_mJ, tJ_mJ, up2]]
                refine lv_if_ne (tgt := 86) hx hb dX7_plan_60 (by decide) (fun _ => ?_) (fun c_ => absurd c_ (by decide))
                refine W.vret hx hb hr ?_ hS.2.2 dX7_plan_86
                refine mq0 ?_ hW hS
                exact Or.inr (Or.inr ⟨hR1, hR2, hg, rfl⟩)
    · by_cases hg : inG se 1 511 ∧ inG en 1 (mBits 9 se 0 0)
      · refine lv_aload_n hx hb dX7_plan_0 rfl (lv_at hl 0 rfl) ?_
        refine lv_iload_n hx hb dX7_plan_1 rfl (lv_at hl 1 rfl) ?_
        refine mc1 (va_runS (As := [.int (nI a)]) (rest := [.ref (mA z 0 0)]) ⟨hx, hb, hml, hown, hts⟩ (m7_noAsker l D y z _ (nI a)) (va_cwS 1 hts gX7_plan_X7_noAsker rfl rfl rfl (by decide +kernel) ⟨Nat.le_of_ble_eq_true rfl, Nat.le_of_ble_eq_true rfl⟩) (mPreS hW hK [.int (nI a)]) rfl rfl hl.1 rfl (lv_room (Nat.le_of_ble_eq_true rfl)) dX7_plan_2 ⟨Nat.le_of_ble_eq_true rfl, Nat.le_of_ble_eq_true rfl⟩) hW hS hA (fun v2 u2 H locs hu2 hW hS => ?_)
        obtain ⟨rfl, f2⟩ := hu2
        replace f2 := f2.symm
        subst f2
        rw [if_pos (show (¬ _ < (0 : Int32) ∧ _ < _) from hR1)]
        refine lv_if_ne (tgt := 17) hx hb dX7_plan_5 (by decide) (fun c_ => absurd c_ (by decide)) (fun _ => ?_)
        refine lv_iload_n hx hb dX7_plan_8 rfl (lv_at hl 2 rfl) ?_
        refine lv_if_lt (tgt := 17) hx hb dX7_plan_9 (by decide) (fun c_ => absurd c_ (by decide)) (fun _ => ?_)
        refine lv_iload_n hx hb dX7_plan_12 rfl (lv_at hl 2 rfl) ?_
        refine lv_iconst (v := 1) hx hb dX7_plan_13 (by decide) ?_
        refine lv_icmp_le (tgt := 21) hx hb dX7_plan_14 (by decide) (fun _ => ?_) (fun c_ => absurd c_ (by decide))
        refine lv_iload_n hx hb dX7_plan_21 rfl (lv_at hl 3 rfl) ?_
        refine lv_iconst (v := 1) hx hb dX7_plan_22 (by decide) ?_
        refine lv_icmp_lt (tgt := 48) hx hb dX7_plan_23 (by decide) (fun c_23 => ?_) (fun c_23 => ?_)
        · exact absurd c_23 hg.1.1
        · refine lv_iload_n hx hb dX7_plan_26 rfl (lv_at hl 3 rfl) ?_
          refine lv_sipush (v := 511) hx hb dX7_plan_27 (by decide) ?_
          refine lv_icmp_gt (tgt := 48) hx hb dX7_plan_30 (by decide) (fun c_30 => ?_) (fun c_30 => ?_)
          · exact absurd hg.1.2 (Int32.not_le.mpr c_30)
          · refine lv_iload hx hb dX7_plan_33 (lv_at hl 4 rfl) ?_
            refine lv_iconst (v := 1) hx hb dX7_plan_35 (by decide) ?_
            refine lv_icmp_lt (tgt := 48) hx hb dX7_plan_36 (by decide) (fun c_36 => ?_) (fun c_36 => ?_)
            · exact absurd c_36 hg.2.1
            · refine lv_iload hx hb dX7_plan_39 (lv_at hl 4 rfl) ?_
              refine lv_iload_n hx hb dX7_plan_41 rfl (lv_at hl 3 rfl) ?_
              refine mc1 (va_runS (As := [.int se]) (rest := [.int en, .ref (mA z 0 0)]) ⟨hx, hb, hml, hown, hts⟩ (m7_bits l D y z _ se) (va_cwS 1 hts gX7_plan_X7_bits rfl rfl rfl (by decide +kernel) ⟨Nat.le_of_ble_eq_true rfl, Nat.le_of_ble_eq_true rfl⟩) (mPreS hW hK [.int se]) rfl rfl hl.1 rfl (lv_room (Nat.le_of_ble_eq_true rfl)) dX7_plan_42 ⟨Nat.le_of_ble_eq_true rfl, Nat.le_of_ble_eq_true rfl⟩) hW hS hA (fun v42 u42 H locs hu42 hW hS => ?_)
              obtain ⟨rfl, f42⟩ := hu42
              replace f42 := f42.symm
              subst f42
              refine lv_icmp_le (tgt := 52) hx hb dX7_plan_45 (by decide) (fun c_45 => ?_) (fun c_45 => ?_)
              · refine lv_iconst (v := 0) hx hb dX7_plan_52 (by decide) ?_
                refine pM_thrown hx hb hts hX7 hown hK.1 hW hS rfl (hts (.fieldLink RX7 120 "SharedRegistersModel" "thrown" "I") (by decide +kernel)) dX7_plan_53 (fun H locs hW hS => ?_)
                refine lv_aload_n hx hb dX7_plan_56 rfl (lv_at hl 0 rfl) ?_
                refine gM 38 hx hb hts hX7 hown hK.1 hW (by simp only [tI_mA, tJ_mA]) (by decide) rfl (hts (.fieldLink RX7 120 "SharedRegistersModel" "thrown" "I") (by decide +kernel)) rfl dX7_plan_57 ?_
                rw [show mI (tI z 38 0 0) 38 0 = 0 from by simp [tI_mI, tJ_mI, tI_mJ, tJ_mJ, up2]]
                refine lv_if_ne (tgt := 86) hx hb dX7_plan_60 (by decide) (fun c_ => absurd c_ (by decide)) (fun _ => ?_)
                refine lv_aload_n hx hb dX7_plan_63 rfl (lv_at hl 0 rfl) ?_
                refine gM 16 hx hb hts hX7 hown hK.1 hW (by simp only [tI_mA, tJ_mA]) (by decide) rfl (hts (.fieldLink RX7 57 "SharedRegistersModel" "set" "[I") (by decide +kernel)) rfl dX7_plan_64 ?_
                refine lv_iconst (v := 2) hx hb dX7_plan_67 (by decide) ?_
                refine lv_iload_n hx hb dX7_plan_68 rfl (lv_at hl 1 rfl) ?_
                refine lv_imul hx hb dX7_plan_69 ?_
                rw [show (2 : Int32) * nI a = nI (2 * a) from pk_mul 2 _]
                refine lv_iload_n hx hb dX7_plan_70 rfl (lv_at hl 2 rfl) ?_
                refine lv_iadd hx hb dX7_plan_71 ?_
                rw [show nI (2 * a) + nI 1 = nI (2 * a + 1) from nI_add _ _]
                refine lv_iload_n hx hb dX7_plan_72 rfl (lv_at hl 3 rfl) ?_
                refine mis_n 15 hx hb hK.1 hW hS (by simp only [tI_mA, tJ_mA]) (by decide) rfl (show _ < 8 by omega) (by decide) dX7_plan_73 (fun H locs hW hS => ?_)
                refine lv_aload_n hx hb dX7_plan_74 rfl (lv_at hl 0 rfl) ?_
                refine gM 17 hx hb hts hX7 hown hK.1 hW (by simp only [tI_mA, tJ_mA]) (by decide) rfl (hts (.fieldLink RX7 60 "SharedRegistersModel" "enough" "[I") (by decide +kernel)) rfl dX7_plan_75 ?_
                refine lv_iconst (v := 2) hx hb dX7_plan_78 (by decide) ?_
                refine lv_iload_n hx hb dX7_plan_79 rfl (lv_at hl 1 rfl) ?_
                refine lv_imul hx hb dX7_plan_80 ?_
                rw [show (2 : Int32) * nI a = nI (2 * a) from pk_mul 2 _]
                refine lv_iload_n hx hb dX7_plan_81 rfl (lv_at hl 2 rfl) ?_
                refine lv_iadd hx hb dX7_plan_82 ?_
                rw [show nI (2 * a) + nI 1 = nI (2 * a + 1) from nI_add _ _]
                refine lv_iload hx hb dX7_plan_83 (lv_at hl 4 rfl) ?_
                refine mis_n 16 hx hb hK.1 hW hS (by simp only [tI_mA, tJ_mA]) (by decide) rfl (show _ < 8 by omega) (by decide) dX7_plan_85 (fun H locs hW hS => ?_)
                refine W.vret hx hb hr ?_ hS.2.2 dX7_plan_86
                refine mq0 ?_ hW hS
                exact Or.inl ⟨a, 1, ha, by decide, rfl, rfl, hg.1, hg.2, rfl⟩
              · exact absurd hg.2.2 c_45
      · refine lv_aload_n hx hb dX7_plan_0 rfl (lv_at hl 0 rfl) ?_
        refine lv_iload_n hx hb dX7_plan_1 rfl (lv_at hl 1 rfl) ?_
        refine mc1 (va_runS (As := [.int (nI a)]) (rest := [.ref (mA z 0 0)]) ⟨hx, hb, hml, hown, hts⟩ (m7_noAsker l D y z _ (nI a)) (va_cwS 1 hts gX7_plan_X7_noAsker rfl rfl rfl (by decide +kernel) ⟨Nat.le_of_ble_eq_true rfl, Nat.le_of_ble_eq_true rfl⟩) (mPreS hW hK [.int (nI a)]) rfl rfl hl.1 rfl (lv_room (Nat.le_of_ble_eq_true rfl)) dX7_plan_2 ⟨Nat.le_of_ble_eq_true rfl, Nat.le_of_ble_eq_true rfl⟩) hW hS hA (fun v2 u2 H locs hu2 hW hS => ?_)
        obtain ⟨rfl, f2⟩ := hu2
        replace f2 := f2.symm
        subst f2
        rw [if_pos (show (¬ _ < (0 : Int32) ∧ _ < _) from hR1)]
        refine lv_if_ne (tgt := 17) hx hb dX7_plan_5 (by decide) (fun c_ => absurd c_ (by decide)) (fun _ => ?_)
        refine lv_iload_n hx hb dX7_plan_8 rfl (lv_at hl 2 rfl) ?_
        refine lv_if_lt (tgt := 17) hx hb dX7_plan_9 (by decide) (fun c_ => absurd c_ (by decide)) (fun _ => ?_)
        refine lv_iload_n hx hb dX7_plan_12 rfl (lv_at hl 2 rfl) ?_
        refine lv_iconst (v := 1) hx hb dX7_plan_13 (by decide) ?_
        refine lv_icmp_le (tgt := 21) hx hb dX7_plan_14 (by decide) (fun _ => ?_) (fun c_ => absurd c_ (by decide))
        refine lv_iload_n hx hb dX7_plan_21 rfl (lv_at hl 3 rfl) ?_
        refine lv_iconst (v := 1) hx hb dX7_plan_22 (by decide) ?_
        refine lv_icmp_lt (tgt := 48) hx hb dX7_plan_23 (by decide) (fun c_23 => ?_) (fun c_23 => ?_)
        · refine lv_iconst (v := 2) hx hb dX7_plan_48 (by decide) ?_
          refine lv_goto (tgt := 53) hx hb dX7_plan_49 (by decide) ?_
          refine pM_thrown hx hb hts hX7 hown hK.1 hW hS rfl (hts (.fieldLink RX7 120 "SharedRegistersModel" "thrown" "I") (by decide +kernel)) dX7_plan_53 (fun H locs hW hS => ?_)
          refine lv_aload_n hx hb dX7_plan_56 rfl (lv_at hl 0 rfl) ?_
          refine gM 38 hx hb hts hX7 hown hK.1 hW (by simp only [tI_mA, tJ_mA]) (by decide) rfl (hts (.fieldLink RX7 120 "SharedRegistersModel" "thrown" "I") (by decide +kernel)) rfl dX7_plan_57 ?_
          rw [show mI (tI z 38 0 2) 38 0 = 2 from by simp [tI_mI, tJ_mI, tI_mJ, tJ_mJ, up2]]
          refine lv_if_ne (tgt := 86) hx hb dX7_plan_60 (by decide) (fun _ => ?_) (fun c_ => absurd c_ (by decide))
          refine W.vret hx hb hr ?_ hS.2.2 dX7_plan_86
          refine mq0 ?_ hW hS
          exact Or.inr (Or.inr ⟨hR1, hR2, hg, rfl⟩)
        · refine lv_iload_n hx hb dX7_plan_26 rfl (lv_at hl 3 rfl) ?_
          refine lv_sipush (v := 511) hx hb dX7_plan_27 (by decide) ?_
          refine lv_icmp_gt (tgt := 48) hx hb dX7_plan_30 (by decide) (fun c_30 => ?_) (fun c_30 => ?_)
          · refine lv_iconst (v := 2) hx hb dX7_plan_48 (by decide) ?_
            refine lv_goto (tgt := 53) hx hb dX7_plan_49 (by decide) ?_
            refine pM_thrown hx hb hts hX7 hown hK.1 hW hS rfl (hts (.fieldLink RX7 120 "SharedRegistersModel" "thrown" "I") (by decide +kernel)) dX7_plan_53 (fun H locs hW hS => ?_)
            refine lv_aload_n hx hb dX7_plan_56 rfl (lv_at hl 0 rfl) ?_
            refine gM 38 hx hb hts hX7 hown hK.1 hW (by simp only [tI_mA, tJ_mA]) (by decide) rfl (hts (.fieldLink RX7 120 "SharedRegistersModel" "thrown" "I") (by decide +kernel)) rfl dX7_plan_57 ?_
            rw [show mI (tI z 38 0 2) 38 0 = 2 from by simp [tI_mI, tJ_mI, tI_mJ, tJ_mJ, up2]]
            refine lv_if_ne (tgt := 86) hx hb dX7_plan_60 (by decide) (fun _ => ?_) (fun c_ => absurd c_ (by decide))
            refine W.vret hx hb hr ?_ hS.2.2 dX7_plan_86
            refine mq0 ?_ hW hS
            exact Or.inr (Or.inr ⟨hR1, hR2, hg, rfl⟩)
          · refine lv_iload hx hb dX7_plan_33 (lv_at hl 4 rfl) ?_
            refine lv_iconst (v := 1) hx hb dX7_plan_35 (by decide) ?_
            refine lv_icmp_lt (tgt := 48) hx hb dX7_plan_36 (by decide) (fun c_36 => ?_) (fun c_36 => ?_)
            · refine lv_iconst (v := 2) hx hb dX7_plan_48 (by decide) ?_
              refine lv_goto (tgt := 53) hx hb dX7_plan_49 (by decide) ?_
              refine pM_thrown hx hb hts hX7 hown hK.1 hW hS rfl (hts (.fieldLink RX7 120 "SharedRegistersModel" "thrown" "I") (by decide +kernel)) dX7_plan_53 (fun H locs hW hS => ?_)
              refine lv_aload_n hx hb dX7_plan_56 rfl (lv_at hl 0 rfl) ?_
              refine gM 38 hx hb hts hX7 hown hK.1 hW (by simp only [tI_mA, tJ_mA]) (by decide) rfl (hts (.fieldLink RX7 120 "SharedRegistersModel" "thrown" "I") (by decide +kernel)) rfl dX7_plan_57 ?_
              rw [show mI (tI z 38 0 2) 38 0 = 2 from by simp [tI_mI, tJ_mI, tI_mJ, tJ_mJ, up2]]
              refine lv_if_ne (tgt := 86) hx hb dX7_plan_60 (by decide) (fun _ => ?_) (fun c_ => absurd c_ (by decide))
              refine W.vret hx hb hr ?_ hS.2.2 dX7_plan_86
              refine mq0 ?_ hW hS
              exact Or.inr (Or.inr ⟨hR1, hR2, hg, rfl⟩)
            · refine lv_iload hx hb dX7_plan_39 (lv_at hl 4 rfl) ?_
              refine lv_iload_n hx hb dX7_plan_41 rfl (lv_at hl 3 rfl) ?_
              refine mc1 (va_runS (As := [.int se]) (rest := [.int en, .ref (mA z 0 0)]) ⟨hx, hb, hml, hown, hts⟩ (m7_bits l D y z _ se) (va_cwS 1 hts gX7_plan_X7_bits rfl rfl rfl (by decide +kernel) ⟨Nat.le_of_ble_eq_true rfl, Nat.le_of_ble_eq_true rfl⟩) (mPreS hW hK [.int se]) rfl rfl hl.1 rfl (lv_room (Nat.le_of_ble_eq_true rfl)) dX7_plan_42 ⟨Nat.le_of_ble_eq_true rfl, Nat.le_of_ble_eq_true rfl⟩) hW hS hA (fun v42 u42 H locs hu42 hW hS => ?_)
              obtain ⟨rfl, f42⟩ := hu42
              replace f42 := f42.symm
              subst f42
              refine lv_icmp_le (tgt := 52) hx hb dX7_plan_45 (by decide) (fun c_45 => ?_) (fun c_45 => ?_)
              · exact absurd ⟨⟨c_23, Int32.not_lt.mp c_30⟩, c_36, c_45⟩ hg
              · refine lv_iconst (v := 2) hx hb dX7_plan_48 (by decide) ?_
                refine lv_goto (tgt := 53) hx hb dX7_plan_49 (by decide) ?_
                refine pM_thrown hx hb hts hX7 hown hK.1 hW hS rfl (hts (.fieldLink RX7 120 "SharedRegistersModel" "thrown" "I") (by decide +kernel)) dX7_plan_53 (fun H locs hW hS => ?_)
                refine lv_aload_n hx hb dX7_plan_56 rfl (lv_at hl 0 rfl) ?_
                refine gM 38 hx hb hts hX7 hown hK.1 hW (by simp only [tI_mA, tJ_mA]) (by decide) rfl (hts (.fieldLink RX7 120 "SharedRegistersModel" "thrown" "I") (by decide +kernel)) rfl dX7_plan_57 ?_
                rw [show mI (tI z 38 0 2) 38 0 = 2 from by simp [tI_mI, tJ_mI, tI_mJ, tJ_mJ, up2]]
                refine lv_if_ne (tgt := 86) hx hb dX7_plan_60 (by decide) (fun _ => ?_) (fun c_ => absurd c_ (by decide))
                refine W.vret hx hb hr ?_ hS.2.2 dX7_plan_86
                refine mq0 ?_ hW hS
                exact Or.inr (Or.inr ⟨hR1, hR2, hg, rfl⟩)
  · by_cases hq0 : inR i 4
    · refine lv_aload_n hx hb dX7_plan_0 rfl (lv_at hl 0 rfl) ?_
      refine lv_iload_n hx hb dX7_plan_1 rfl (lv_at hl 1 rfl) ?_
      refine mc1 (va_runS (As := [.int i]) (rest := [.ref (mA z 0 0)]) ⟨hx, hb, hml, hown, hts⟩ (m7_noAsker l D y z _ i) (va_cwS 1 hts gX7_plan_X7_noAsker rfl rfl rfl (by decide +kernel) ⟨Nat.le_of_ble_eq_true rfl, Nat.le_of_ble_eq_true rfl⟩) (mPreS hW hK [.int i]) rfl rfl hl.1 rfl (lv_room (Nat.le_of_ble_eq_true rfl)) dX7_plan_2 ⟨Nat.le_of_ble_eq_true rfl, Nat.le_of_ble_eq_true rfl⟩) hW hS hA (fun v2 u2 H locs hu2 hW hS => ?_)
      obtain ⟨rfl, f2⟩ := hu2
      replace f2 := f2.symm
      subst f2
      rw [if_pos (show (¬ _ < (0 : Int32) ∧ _ < _) from hq0)]
      refine lv_if_ne (tgt := 17) hx hb dX7_plan_5 (by decide) (fun c_ => absurd c_ (by decide)) (fun _ => ?_)
      refine lv_iload_n hx hb dX7_plan_8 rfl (lv_at hl 2 rfl) ?_
      refine lv_if_lt (tgt := 17) hx hb dX7_plan_9 (by decide) (fun c_9 => ?_) (fun c_9 => ?_)
      · refine lv_iconst (v := 1) hx hb dX7_plan_17 (by decide) ?_
        refine lv_goto (tgt := 53) hx hb dX7_plan_18 (by decide) ?_
        refine pM_thrown hx hb hts hX7 hown hK.1 hW hS rfl (hts (.fieldLink RX7 120 "SharedRegistersModel" "thrown" "I") (by decide +kernel)) dX7_plan_53 (fun H locs hW hS => ?_)
        refine lv_aload_n hx hb dX7_plan_56 rfl (lv_at hl 0 rfl) ?_
        refine gM 38 hx hb hts hX7 hown hK.1 hW (by simp only [tI_mA, tJ_mA]) (by decide) rfl (hts (.fieldLink RX7 120 "SharedRegistersModel" "thrown" "I") (by decide +kernel)) rfl dX7_plan_57 ?_
        rw [show mI (tI z 38 0 1) 38 0 = 1 from by simp [tI_mI, tJ_mI, tI_mJ, tJ_mJ, up2]]
        refine lv_if_ne (tgt := 86) hx hb dX7_plan_60 (by decide) (fun _ => ?_) (fun c_ => absurd c_ (by decide))
        refine W.vret hx hb hr ?_ hS.2.2 dX7_plan_86
        refine mq0 ?_ hW hS
        exact Or.inr (Or.inl ⟨hok, rfl⟩)
      · refine lv_iload_n hx hb dX7_plan_12 rfl (lv_at hl 2 rfl) ?_
        refine lv_iconst (v := 1) hx hb dX7_plan_13 (by decide) ?_
        refine lv_icmp_le (tgt := 21) hx hb dX7_plan_14 (by decide) (fun c_14 => ?_) (fun c_14 => ?_)
        · exact absurd ⟨hq0, c_9, le_lt c_14 (by decide)⟩ hok
        · refine lv_iconst (v := 1) hx hb dX7_plan_17 (by decide) ?_
          refine lv_goto (tgt := 53) hx hb dX7_plan_18 (by decide) ?_
          refine pM_thrown hx hb hts hX7 hown hK.1 hW hS rfl (hts (.fieldLink RX7 120 "SharedRegistersModel" "thrown" "I") (by decide +kernel)) dX7_plan_53 (fun H locs hW hS => ?_)
          refine lv_aload_n hx hb dX7_plan_56 rfl (lv_at hl 0 rfl) ?_
          refine gM 38 hx hb hts hX7 hown hK.1 hW (by simp only [tI_mA, tJ_mA]) (by decide) rfl (hts (.fieldLink RX7 120 "SharedRegistersModel" "thrown" "I") (by decide +kernel)) rfl dX7_plan_57 ?_
          rw [show mI (tI z 38 0 1) 38 0 = 1 from by simp [tI_mI, tJ_mI, tI_mJ, tJ_mJ, up2]]
          refine lv_if_ne (tgt := 86) hx hb dX7_plan_60 (by decide) (fun _ => ?_) (fun c_ => absurd c_ (by decide))
          refine W.vret hx hb hr ?_ hS.2.2 dX7_plan_86
          refine mq0 ?_ hW hS
          exact Or.inr (Or.inl ⟨hok, rfl⟩)
    · refine lv_aload_n hx hb dX7_plan_0 rfl (lv_at hl 0 rfl) ?_
      refine lv_iload_n hx hb dX7_plan_1 rfl (lv_at hl 1 rfl) ?_
      refine mc1 (va_runS (As := [.int i]) (rest := [.ref (mA z 0 0)]) ⟨hx, hb, hml, hown, hts⟩ (m7_noAsker l D y z _ i) (va_cwS 1 hts gX7_plan_X7_noAsker rfl rfl rfl (by decide +kernel) ⟨Nat.le_of_ble_eq_true rfl, Nat.le_of_ble_eq_true rfl⟩) (mPreS hW hK [.int i]) rfl rfl hl.1 rfl (lv_room (Nat.le_of_ble_eq_true rfl)) dX7_plan_2 ⟨Nat.le_of_ble_eq_true rfl, Nat.le_of_ble_eq_true rfl⟩) hW hS hA (fun v2 u2 H locs hu2 hW hS => ?_)
      obtain ⟨rfl, f2⟩ := hu2
      replace f2 := f2.symm
      subst f2
      rw [if_neg (show ¬ (¬ _ < (0 : Int32) ∧ _ < _) from hq0)]
      refine lv_if_ne (tgt := 17) hx hb dX7_plan_5 (by decide) (fun _ => ?_) (fun c_ => absurd c_ (by decide))
      refine lv_iconst (v := 1) hx hb dX7_plan_17 (by decide) ?_
      refine lv_goto (tgt := 53) hx hb dX7_plan_18 (by decide) ?_
      refine pM_thrown hx hb hts hX7 hown hK.1 hW hS rfl (hts (.fieldLink RX7 120 "SharedRegistersModel" "thrown" "I") (by decide +kernel)) dX7_plan_53 (fun H locs hW hS => ?_)
      refine lv_aload_n hx hb dX7_plan_56 rfl (lv_at hl 0 rfl) ?_
      refine gM 38 hx hb hts hX7 hown hK.1 hW (by simp only [tI_mA, tJ_mA]) (by decide) rfl (hts (.fieldLink RX7 120 "SharedRegistersModel" "thrown" "I") (by decide +kernel)) rfl dX7_plan_57 ?_
      rw [show mI (tI z 38 0 1) 38 0 = 1 from by simp [tI_mI, tJ_mI, tI_mJ, tJ_mJ, up2]]
      refine lv_if_ne (tgt := 86) hx hb dX7_plan_60 (by decide) (fun _ => ?_) (fun c_ => absurd c_ (by decide))
      refine W.vret hx hb hr ?_ hS.2.2 dX7_plan_86
      refine mq0 ?_ hW hS
      exact Or.inr (Or.inl ⟨hok, rfl⟩)
def tCatch (z : MS) (p q : Nat) : MS := tJ (tI (tI (tI (tI z 9 p (if mI z 9 q ≤ mI z 9 p then mI z 9 p else mI z 9 q)) 10 p (mI z 10 q)) 11 p (mI z 11 q)) 12 p (mI z 12 q)) 13 p (mJ z 13 q)
def mCatch (z : MS) (p q : Nat) : MS := if mI z 10 q ≤ mI z 10 p then z else tCatch z p q
def mCopy : Nat → MS → Nat → Nat → Nat → MS
  | 0, z, _, _, _ => z
  | j + 1, z, t, f, k => mCopy j (mCatch z (4 * t + k) (4 * f + k)) t f (k + 1)
def mCnt4 : Nat → MS → Nat → Nat → Nat → Int32
  | 0, _, _, _, _ => 0
  | j + 1, z, t, f, k => (if mI z 10 (4 * f + k) ≤ mI z 10 (4 * t + k) then 0 else 1) + mCnt4 j (mCatch z (4 * t + k) (4 * f + k)) t f (k + 1)
theorem mCatch_mA (z : MS) (p q : Nat) : mA (mCatch z p q) = mA z := by unfold mCatch; split <;> rfl
theorem mCatch_38 (z : MS) (p q : Nat) : mI (mCatch z p q) 38 0 = mI z 38 0 := by unfold mCatch; split; rfl; simp [tCatch, tI_mI, tJ_mI, up2]
theorem mCatch_11 {z : MS} {p q : Nat} (h : ∀ i, mI z 11 i = 0 ∨ mI z 11 i = 1) : ∀ i, mI (mCatch z p q) 11 i = 0 ∨ mI (mCatch z p q) 11 i = 1 := by
  intro i
  unfold mCatch
  split
  · exact h i
  · simp only [tCatch, tI_mI, tJ_mI]
    rw [up2_k (by decide)]
    by_cases hi : i = p
    · subst hi; rw [up2_s]; exact h q
    · rw [up2_i hi, up2_k (by decide), up2_k (by decide)]; exact h i
set_option maxHeartbeats 4000000 in
set_option maxRecDepth 100000 in
theorem m7_copy (l : Launch) (D : va_G) (y : Nat → ClassId) (z : MS) (sz : Nat) (i j : Int32) (hB : MB z) : Met l yX7_copy wsX7_copy ({ frames := 1, cells := 0, slots := 0, locals := 40 }) (va_Pc [.ref (mA z 0 0), .int i, .int j] (mPre D y z sz)) (mQ1 D y z sz (fun v u => (∃ t1 f1, t1 < 9 ∧ f1 < 9 ∧ i = nI t1 ∧ j = nI f1 ∧ v = .int (mCnt4 4 (tI z 38 0 0) t1 f1 0) ∧ u = mCopy 4 (tI z 38 0 0) t1 f1 0) ∨ (¬ (inR i 9 ∧ inR j 9) ∧ v = .int 0 ∧ u = tI z 38 0 1))) 0 0 (mF z sz) := by
  refine Met.ofW (cc := cX7_copy) (maxL := 7) (ret := (some .int)) (by decide) rfl ?_
  intro p e s m args below meth c s₁ B hml hv
  obtain ⟨rfl, hsz, hW0, hK⟩ := hv
  have hx := B.exec
  have hb := B.bytes
  have hr := B.returns
  have hts := atoms_spec (ws := wsX7_copy) B.pre
  have hown : s.vm.findClass RX7 = some m.cls := findClass_of_methodNamed B.named
  have hlocks := B.notSynchronized
  subst hsz
  have hW := hW0.self (sz := s.heap.size)
  have hA : ∀ q, s.heap.size ≤ q → mF z s.heap.size q := fun q h => Or.inr h
  have hS : va_S (mF z s.heap.size) s.heap s.heap [] := va_S.rf
  have hl := lv_entry ([.ref (mA z 0 0), .int i, .int j]) (n := 7) (Nat.le_of_ble_eq_true rfl)
  rw [lg_entry_eq]
  generalize (lg_sl ([.ref (mA z 0 0), .int i, .int j]) ++ List.replicate (7 - (lg_sl ([.ref (mA z 0 0), .int i, .int j])).length) Slot.unset).toArray = ls at hl ⊢
  have hl : lv_has ls 7 [(0, .ref (mA z 0 0)), (1, .int i), (2, .int j)] := hl
  have hX7 : ∀ w ∈ wsX70, w ∈ wsX7_copy := by decide +kernel
  by_cases hok : inR i 9 ∧ inR j 9
  · obtain ⟨hR1, hR2⟩ := hok
    obtain ⟨t, ht, rfl⟩ := inR_nat (n := 9) hR1 (by decide)
    obtain ⟨f, hf, rfl⟩ := inR_nat (n := 9) hR2 (by decide)
    refine lv_aload_n hx hb dX7_copy_0 rfl (lv_at hl 0 rfl) ?_
    refine lv_iload_n hx hb dX7_copy_1 rfl (lv_at hl 1 rfl) ?_
    refine mc1 (va_runS (As := [.int (nI t)]) (rest := [.ref (mA z 0 0)]) ⟨hx, hb, hml, hown, hts⟩ (m7_noKeeper l D y z _ (nI t)) (va_cwS 1 hts gX7_copy_X7_noKeeper rfl rfl rfl (by decide +kernel) ⟨Nat.le_of_ble_eq_true rfl, Nat.le_of_ble_eq_true rfl⟩) (mPreS hW hK [.int (nI t)]) rfl rfl hl.1 rfl (lv_room (Nat.le_of_ble_eq_true rfl)) dX7_copy_2 ⟨Nat.le_of_ble_eq_true rfl, Nat.le_of_ble_eq_true rfl⟩) hW hS hA (fun v2 u2 H locs hu2 hW hS => ?_)
    obtain ⟨rfl, f2⟩ := hu2
    replace f2 := f2.symm
    subst f2
    rw [if_pos (show (¬ _ < (0 : Int32) ∧ _ < _) from hR1)]
    refine lv_if_ne (tgt := 15) hx hb dX7_copy_5 (by decide) (fun c_ => absurd c_ (by decide)) (fun _ => ?_)
    refine lv_iload_n hx hb dX7_copy_8 rfl (lv_at hl 2 rfl) ?_
    refine mc1 (va_runS (As := [.int (nI f)]) (rest := [.ref (mA z 0 0)]) ⟨hx, hb, hml, hown, hts⟩ (m7_noKeeper l D y z _ (nI f)) (va_cwS 1 hts gX7_copy_X7_noKeeper rfl rfl rfl (by decide +kernel) ⟨Nat.le_of_ble_eq_true rfl, Nat.le_of_ble_eq_true rfl⟩) (mPreS hW hK [.int (nI f)]) rfl rfl hl.1 rfl (lv_room (Nat.le_of_ble_eq_true rfl)) dX7_copy_9 ⟨Nat.le_of_ble_eq_true rfl, Nat.le_of_ble_eq_true rfl⟩) hW hS hA (fun v9 u9 H locs hu9 hW hS => ?_)
    obtain ⟨rfl, f9⟩ := hu9
    replace f9 := f9.symm
    subst f9
    rw [if_pos (show (¬ _ < (0 : Int32) ∧ _ < _) from hR2)]
    refine lv_if_eq (tgt := 19) hx hb dX7_copy_12 (by decide) (fun _ => ?_) (fun c_ => absurd c_ (by decide))
    refine lv_iconst (v := 0) hx hb dX7_copy_19 (by decide) ?_
    refine pM_thrown hx hb hts hX7 hown hK.1 hW hS rfl (hts (.fieldLink RX7 120 "SharedRegistersModel" "thrown" "I") (by decide +kernel)) dX7_copy_20 (fun H locs hW hS => ?_)
    refine lv_iconst (v := 0) hx hb dX7_copy_23 (by decide) ?_
    refine lv_istore_n (lv' := [(3, _), (0, _), (1, _), (2, _)]) hx hb dX7_copy_24 rfl hl (by decide) rfl (fun ls hl => ?_)
    refine lv_iconst (v := 0) hx hb dX7_copy_25 (by decide) ?_
    refine lv_istore (lv' := [(4, _), (3, _), (0, _), (1, _), (2, _)]) hx hb dX7_copy_26 hl (by decide) rfl (fun ls hl => ?_)
    have loop : ∀ (n : Nat) (x : MS) (k : Nat) (c0 : Int32) (H : Heap) (locs : List Loc) (ls : Array Slot), k + n = 4 → mI x 38 0 = 0 → (∀ q, mI x 11 q = 0 ∨ mI x 11 q = 1) → mCopy n x t f k = mCopy 4 (tI z 38 0 0) t f 0 → c0 + mCnt4 n x t f k = mCnt4 4 (tI z 38 0 0) t f 0 → mw D y (mF z s.heap.size) x H → va_S (mF z s.heap.size) s.heap H locs → lv_has ls 7 [(4, .int (nI k)), (3, .int c0), (0, .ref (mA x 0 0)), (1, .int (nI t)), (2, .int (nI f))] → W p l e (headSpec wsX7_copy { frames := 1, cells := 0, slots := 0, locals := 40 }).room s m #[.ref (mA z 0 0), .int (nI t), .int (nI f)] below meth c H locs 0 0 (MQ below (mQ1 D y z s.heap.size (fun v u => (∃ t1 f1, t1 < 9 ∧ f1 < 9 ∧ nI t = nI t1 ∧ nI f = nI f1 ∧ v = .int (mCnt4 4 (tI z 38 0 0) t1 f1 0) ∧ u = mCopy 4 (tI z 38 0 0) t1 f1 0) ∨ (¬ (inR (nI t) 9 ∧ inR (nI f) 9) ∧ v = .int 0 ∧ u = tI z 38 0 1))) #[.ref (mA z 0 0), .int (nI t), .int (nI f)] s 0 0 (mF z s.heap.size)) (F0 m 28 ls []) := by
      intro n
      induction n with
      | zero =>
        intro x k c0 H locs ls hk h38 h11 hfx hcx hW hS hl
        refine lv_iload hx hb dX7_copy_28 (lv_at hl 0 rfl) ?_
        refine lv_iconst (v := 4) hx hb dX7_copy_30 (by decide) ?_
        refine lv_icmp_ge (tgt := 180) hx hb dX7_copy_31 (by decide) (fun _ => ?_) (fun c_31 => absurd (show (4 : Int32) ≤ nI k from nI_le (a := 4) (by omega) (by omega)) c_31)
        refine lv_iload_n hx hb dX7_copy_180 rfl (lv_at hl 1 rfl) ?_
        refine W.iret hx hb hr ?_ hS.2.2 dX7_copy_181
        refine mq1 ?_ hW hS
        exact Or.inl ⟨t, f, ht, hf, rfl, rfl, by rw [← hcx, mCnt4, i32_a0], hfx⟩
      | succ n ih =>
        intro x k c0 H locs ls hk h38 h11 hfx hcx hW hS hl
        refine lv_iload hx hb dX7_copy_28 (lv_at hl 0 rfl) ?_
        refine lv_iconst (v := 4) hx hb dX7_copy_30 (by decide) ?_
        refine lv_icmp_ge (tgt := 180) hx hb dX7_copy_31 (by decide) (fun c_31 => absurd c_31 (show ¬ (4 : Int32) ≤ nI k from nI_ge (b := 4) (by omega) (by decide))) (fun _ => ?_)
        have hp1 : 4 * t + k < 36 := by omega
        have hp2 : 4 * f + k < 36 := by omega
        have h11f := h11 (4 * f + k)
        refine lv_aload_n hx hb dX7_copy_34 rfl (lv_at hl 2 rfl) ?_
        refine gM 38 hx hb hts hX7 hown hK.1 hW rfl (by decide) rfl (hts (.fieldLink RX7 120 "SharedRegistersModel" "thrown" "I") (by decide +kernel)) rfl dX7_copy_35 ?_
        rw [show mI x 38 0 = 0 from h38]
        refine lv_if_ne (tgt := 180) hx hb dX7_copy_38 (by decide) (fun c_ => absurd c_ (by decide)) (fun _ => ?_)
        refine lv_iconst (v := 4) hx hb dX7_copy_41 (by decide) ?_
        refine lv_iload_n hx hb dX7_copy_42 rfl (lv_at hl 3 rfl) ?_
        refine lv_imul hx hb dX7_copy_43 ?_
        rw [show (4 : Int32) * nI t = nI (4 * t) from pk_mul 4 _]
        refine lv_iload hx hb dX7_copy_44 (lv_at hl 0 rfl) ?_
        refine lv_iadd hx hb dX7_copy_46 ?_
        rw [show nI (4 * t) + nI k = nI (4 * t + k) from nI_add _ _]
        refine lv_istore (lv' := [(5, _), (4, _), (3, _), (0, _), (1, _), (2, _)]) hx hb dX7_copy_47 hl (by decide) rfl (fun ls hl => ?_)
        refine lv_iconst (v := 4) hx hb dX7_copy_49 (by decide) ?_
        refine lv_iload_n hx hb dX7_copy_50 rfl (lv_at hl 5 rfl) ?_
        refine lv_imul hx hb dX7_copy_51 ?_
        rw [show (4 : Int32) * nI f = nI (4 * f) from pk_mul 4 _]
        refine lv_iload hx hb dX7_copy_52 (lv_at hl 1 rfl) ?_
        refine lv_iadd hx hb dX7_copy_54 ?_
        rw [show nI (4 * f) + nI k = nI (4 * f + k) from nI_add _ _]
        refine lv_istore (lv' := [(6, _), (5, _), (4, _), (3, _), (0, _), (1, _), (2, _)]) hx hb dX7_copy_55 hl (by decide) rfl (fun ls hl => ?_)
        refine lv_aload_n hx hb dX7_copy_57 rfl (lv_at hl 4 rfl) ?_
        refine gM 11 hx hb hts hX7 hown hK.1 hW rfl (by decide) rfl (hts (.fieldLink RX7 42 "SharedRegistersModel" "accepted" "[I") (by decide +kernel)) rfl dX7_copy_58 ?_
        refine lv_iload hx hb dX7_copy_61 (lv_at hl 0 rfl) ?_
        refine mil_n 10 hx hb hK.1 hW rfl (by decide) rfl (show _ < 36 by omega) (by decide) dX7_copy_63 ?_
        refine lv_aload_n hx hb dX7_copy_64 rfl (lv_at hl 4 rfl) ?_
        refine gM 11 hx hb hts hX7 hown hK.1 hW rfl (by decide) rfl (hts (.fieldLink RX7 42 "SharedRegistersModel" "accepted" "[I") (by decide +kernel)) rfl dX7_copy_65 ?_
        refine lv_iload hx hb dX7_copy_68 (lv_at hl 1 rfl) ?_
        refine mil_n 10 hx hb hK.1 hW rfl (by decide) rfl (show _ < 36 by omega) (by decide) dX7_copy_70 ?_
        refine lv_icmp_le (tgt := 174) hx hb dX7_copy_71 (by decide) (fun c_71 => ?_) (fun c_71 => ?_)
        · refine lv_iinc (v := nI (k + 1)) (lv' := [(4, _), (6, _), (5, _), (3, _), (0, _), (1, _), (2, _)]) hx hb dX7_copy_174 hl (k := 2) rfl (nI_1 _) (by decide) rfl (fun ls hl => ?_)
          refine lv_goto (tgt := 28) hx hb dX7_copy_177 (by decide) ?_
          have hcat : mCatch x (4 * t + k) (4 * f + k) = x := by rw [mCatch, if_pos c_71]
          exact ih x (k + 1) c0 _ _ ls (by omega) h38 h11 (by rw [← hfx, mCopy, hcat]) (by rw [← hcx, mCnt4, hcat, if_pos c_71]; simp) hW hS (lv_sub hl [0, 3, 4, 5, 6] rfl)
        · refine lv_aload_n hx hb dX7_copy_74 rfl (lv_at hl 4 rfl) ?_
          refine gM 10 hx hb hts hX7 hown hK.1 hW rfl (by decide) rfl (hts (.fieldLink RX7 39 "SharedRegistersModel" "promise" "[I") (by decide +kernel)) rfl dX7_copy_75 ?_
          refine lv_iload hx hb dX7_copy_78 (lv_at hl 1 rfl) ?_
          refine lv_aload_n hx hb dX7_copy_80 rfl (lv_at hl 4 rfl) ?_
          refine gM 10 hx hb hts hX7 hown hK.1 hW rfl (by decide) rfl (hts (.fieldLink RX7 39 "SharedRegistersModel" "promise" "[I") (by decide +kernel)) rfl dX7_copy_81 ?_
          refine lv_iload hx hb dX7_copy_84 (lv_at hl 0 rfl) ?_
          refine mil_n 9 hx hb hK.1 hW rfl (by decide) rfl (show _ < 36 by omega) (by decide) dX7_copy_86 ?_
          refine lv_aload_n hx hb dX7_copy_87 rfl (lv_at hl 4 rfl) ?_
          refine gM 10 hx hb hts hX7 hown hK.1 hW rfl (by decide) rfl (hts (.fieldLink RX7 39 "SharedRegistersModel" "promise" "[I") (by decide +kernel)) rfl dX7_copy_88 ?_
          refine lv_iload hx hb dX7_copy_91 (lv_at hl 1 rfl) ?_
          refine mil_n 9 hx hb hK.1 hW rfl (by decide) rfl (show _ < 36 by omega) (by decide) dX7_copy_93 ?_
          refine lv_icmp_le (tgt := 107) hx hb dX7_copy_94 (by decide) (fun c_94 => ?_) (fun c_94 => ?_)
          · refine lv_aload_n hx hb dX7_copy_107 rfl (lv_at hl 4 rfl) ?_
            refine gM 10 hx hb hts hX7 hown hK.1 hW rfl (by decide) rfl (hts (.fieldLink RX7 39 "SharedRegistersModel" "promise" "[I") (by decide +kernel)) rfl dX7_copy_108 ?_
            refine lv_iload hx hb dX7_copy_111 (lv_at hl 1 rfl) ?_
            refine mil_n 9 hx hb hK.1 hW rfl (by decide) rfl (show _ < 36 by omega) (by decide) dX7_copy_113 ?_
            rw [show mI x 9 (4 * t + k) = (if mI x 9 (4 * f + k) ≤ mI x 9 (4 * t + k) then mI x 9 (4 * t + k) else mI x 9 (4 * f + k)) from by rw [if_pos c_94]]
            refine mis_n 9 hx hb hK.1 hW hS rfl (by decide) rfl (show _ < 36 by omega) (by decide) dX7_copy_114 (fun H locs hW hS => ?_)
            refine lv_aload_n hx hb dX7_copy_115 rfl (lv_at hl 4 rfl) ?_
            refine gM 11 hx hb hts hX7 hown hK.1 hW (by simp only [tI_mA, tJ_mA]) (by decide) rfl (hts (.fieldLink RX7 42 "SharedRegistersModel" "accepted" "[I") (by decide +kernel)) rfl dX7_copy_116 ?_
            refine lv_iload hx hb dX7_copy_119 (lv_at hl 1 rfl) ?_
            refine lv_aload_n hx hb dX7_copy_121 rfl (lv_at hl 4 rfl) ?_
            refine gM 11 hx hb hts hX7 hown hK.1 hW (by simp only [tI_mA, tJ_mA]) (by decide) rfl (hts (.fieldLink RX7 42 "SharedRegistersModel" "accepted" "[I") (by decide +kernel)) rfl dX7_copy_122 ?_
            refine lv_iload hx hb dX7_copy_125 (lv_at hl 0 rfl) ?_
            refine mil_n 10 hx hb hK.1 hW (by simp only [tI_mA, tJ_mA]) (by decide) rfl hp2 (by decide) dX7_copy_127 ?_
            rw [show mI (tI x 9 (4 * t + k) (if mI x 9 (4 * f + k) ≤ mI x 9 (4 * t + k) then mI x 9 (4 * t + k) else mI x 9 (4 * f + k))) 10 (4 * f + k) = mI x 10 (4 * f + k) from by simp [tI_mI, tJ_mI, tI_mJ, tJ_mJ, up2]]
            refine mis_n 10 hx hb hK.1 hW hS (by simp only [tI_mA, tJ_mA]) (by decide) rfl (show _ < 36 by omega) (by decide) dX7_copy_128 (fun H locs hW hS => ?_)
            refine lv_aload_n hx hb dX7_copy_129 rfl (lv_at hl 4 rfl) ?_
            refine gM 12 hx hb hts hX7 hown hK.1 hW (by simp only [tI_mA, tJ_mA]) (by decide) rfl (hts (.fieldLink RX7 45 "SharedRegistersModel" "there" "[Z") (by decide +kernel)) rfl dX7_copy_130 ?_
            refine lv_iload hx hb dX7_copy_133 (lv_at hl 1 rfl) ?_
            refine lv_aload_n hx hb dX7_copy_135 rfl (lv_at hl 4 rfl) ?_
            refine gM 12 hx hb hts hX7 hown hK.1 hW (by simp only [tI_mA, tJ_mA]) (by decide) rfl (hts (.fieldLink RX7 45 "SharedRegistersModel" "there" "[Z") (by decide +kernel)) rfl dX7_copy_136 ?_
            refine lv_iload hx hb dX7_copy_139 (lv_at hl 0 rfl) ?_
            refine mzl_n 11 hx hb hK.1 hW (by simp only [tI_mA, tJ_mA]) (by decide) rfl hp2 (by decide) dX7_copy_141 ?_
            rw [show mI (tI (tI x 9 (4 * t + k) (if mI x 9 (4 * f + k) ≤ mI x 9 (4 * t + k) then mI x 9 (4 * t + k) else mI x 9 (4 * f + k))) 10 (4 * t + k) (mI x 10 (4 * f + k))) 11 (4 * f + k) = mI x 11 (4 * f + k) from by simp [tI_mI, tJ_mI, tI_mJ, tJ_mJ, up2]]
            refine mzs_n 11 hx hb hK.1 hW hS (by simp only [tI_mA, tJ_mA]) (by decide) rfl (show _ < 36 by omega) (by decide) h11f dX7_copy_142 (fun H locs hW hS => ?_)
            refine lv_aload_n hx hb dX7_copy_143 rfl (lv_at hl 4 rfl) ?_
            refine gM 13 hx hb hts hX7 hown hK.1 hW (by simp only [tI_mA, tJ_mA]) (by decide) rfl (hts (.fieldLink RX7 48 "SharedRegistersModel" "keptVersion" "[I") (by decide +kernel)) rfl dX7_copy_144 ?_
            refine lv_iload hx hb dX7_copy_147 (lv_at hl 1 rfl) ?_
            refine lv_aload_n hx hb dX7_copy_149 rfl (lv_at hl 4 rfl) ?_
            refine gM 13 hx hb hts hX7 hown hK.1 hW (by simp only [tI_mA, tJ_mA]) (by decide) rfl (hts (.fieldLink RX7 48 "SharedRegistersModel" "keptVersion" "[I") (by decide +kernel)) rfl dX7_copy_150 ?_
            refine lv_iload hx hb dX7_copy_153 (lv_at hl 0 rfl) ?_
            refine mil_n 12 hx hb hK.1 hW (by simp only [tI_mA, tJ_mA]) (by decide) rfl hp2 (by decide) dX7_copy_155 ?_
            rw [show mI (tI (tI (tI x 9 (4 * t + k) (if mI x 9 (4 * f + k) ≤ mI x 9 (4 * t + k) then mI x 9 (4 * t + k) else mI x 9 (4 * f + k))) 10 (4 * t + k) (mI x 10 (4 * f + k))) 11 (4 * t + k) (mI x 11 (4 * f + k))) 12 (4 * f + k) = mI x 12 (4 * f + k) from by simp [tI_mI, tJ_mI, tI_mJ, tJ_mJ, up2]]
            refine mis_n 12 hx hb hK.1 hW hS (by simp only [tI_mA, tJ_mA]) (by decide) rfl (show _ < 36 by omega) (by decide) dX7_copy_156 (fun H locs hW hS => ?_)
            refine lv_aload_n hx hb dX7_copy_157 rfl (lv_at hl 4 rfl) ?_
            refine gM 14 hx hb hts hX7 hown hK.1 hW (by simp only [tI_mA, tJ_mA]) (by decide) rfl (hts (.fieldLink RX7 51 "SharedRegistersModel" "keptValue" "[J") (by decide +kernel)) rfl dX7_copy_158 ?_
            refine lv_iload hx hb dX7_copy_161 (lv_at hl 1 rfl) ?_
            refine lv_aload_n hx hb dX7_copy_163 rfl (lv_at hl 4 rfl) ?_
            refine gM 14 hx hb hts hX7 hown hK.1 hW (by simp only [tI_mA, tJ_mA]) (by decide) rfl (hts (.fieldLink RX7 51 "SharedRegistersModel" "keptValue" "[J") (by decide +kernel)) rfl dX7_copy_164 ?_
            refine lv_iload hx hb dX7_copy_167 (lv_at hl 0 rfl) ?_
            refine mll_n 13 hx hb hK.1 hW (by simp only [tI_mA, tJ_mA]) (by decide) rfl hp2 (by decide) dX7_copy_169 ?_
            rw [show mJ (tI (tI (tI (tI x 9 (4 * t + k) (if mI x 9 (4 * f + k) ≤ mI x 9 (4 * t + k) then mI x 9 (4 * t + k) else mI x 9 (4 * f + k))) 10 (4 * t + k) (mI x 10 (4 * f + k))) 11 (4 * t + k) (mI x 11 (4 * f + k))) 12 (4 * t + k) (mI x 12 (4 * f + k))) 13 (4 * f + k) = mJ x 13 (4 * f + k) from by simp [tI_mI, tJ_mI, tI_mJ, tJ_mJ, up2]]
            refine mls_n 13 hx hb hK.1 hW hS (by simp only [tI_mA, tJ_mA]) (by decide) rfl (show _ < 36 by omega) (by decide) dX7_copy_170 (fun H locs hW hS => ?_)
            refine lv_iinc (v := c0 + 1) (lv' := [(3, _), (6, _), (5, _), (4, _), (0, _), (1, _), (2, _)]) hx hb dX7_copy_171 hl (k := 3) rfl rfl (by decide) rfl (fun ls hl => ?_)
            refine lv_iinc (v := nI (k + 1)) (lv' := [(4, _), (3, _), (6, _), (5, _), (0, _), (1, _), (2, _)]) hx hb dX7_copy_174 hl (k := 3) rfl (nI_1 _) (by decide) rfl (fun ls hl => ?_)
            refine lv_goto (tgt := 28) hx hb dX7_copy_177 (by decide) ?_
            have hcat : mCatch x (4 * t + k) (4 * f + k) = tCatch x (4 * t + k) (4 * f + k) := by rw [mCatch, if_neg c_71]
            exact ih (tCatch x (4 * t + k) (4 * f + k)) (k + 1) (c0 + 1) _ _ ls (by omega) (by rw [← hcat, mCatch_38]; exact h38) (by rw [← hcat]; exact mCatch_11 h11) (by rw [← hfx, mCopy, hcat]) (by rw [← hcx, mCnt4, hcat, if_neg c_71]; exact i32_as _ _ _) hW hS (lv_sub hl [0, 1, 4, 5, 6] rfl)
          · refine lv_aload_n hx hb dX7_copy_97 rfl (lv_at hl 4 rfl) ?_
            refine gM 10 hx hb hts hX7 hown hK.1 hW rfl (by decide) rfl (hts (.fieldLink RX7 39 "SharedRegistersModel" "promise" "[I") (by decide +kernel)) rfl dX7_copy_98 ?_
            refine lv_iload hx hb dX7_copy_101 (lv_at hl 0 rfl) ?_
            refine mil_n 9 hx hb hK.1 hW rfl (by decide) rfl (show _ < 36 by omega) (by decide) dX7_copy_103 ?_
            refine lv_goto (tgt := 114) hx hb dX7_copy_104 (by decide) ?_
            rw [show mI x 9 (4 * f + k) = (if mI x 9 (4 * f + k) ≤ mI x 9 (4 * t + k) then mI x 9 (4 * t + k) else mI x 9 (4 * f + k)) from by rw [if_neg c_94]]
            refine mis_n 9 hx hb hK.1 hW hS rfl (by decide) rfl (show _ < 36 by omega) (by decide) dX7_copy_114 (fun H locs hW hS => ?_)
            refine lv_aload_n hx hb dX7_copy_115 rfl (lv_at hl 4 rfl) ?_
            refine gM 11 hx hb hts hX7 hown hK.1 hW (by simp only [tI_mA, tJ_mA]) (by decide) rfl (hts (.fieldLink RX7 42 "SharedRegistersModel" "accepted" "[I") (by decide +kernel)) rfl dX7_copy_116 ?_
            refine lv_iload hx hb dX7_copy_119 (lv_at hl 1 rfl) ?_
            refine lv_aload_n hx hb dX7_copy_121 rfl (lv_at hl 4 rfl) ?_
            refine gM 11 hx hb hts hX7 hown hK.1 hW (by simp only [tI_mA, tJ_mA]) (by decide) rfl (hts (.fieldLink RX7 42 "SharedRegistersModel" "accepted" "[I") (by decide +kernel)) rfl dX7_copy_122 ?_
            refine lv_iload hx hb dX7_copy_125 (lv_at hl 0 rfl) ?_
            refine mil_n 10 hx hb hK.1 hW (by simp only [tI_mA, tJ_mA]) (by decide) rfl hp2 (by decide) dX7_copy_127 ?_
            rw [show mI (tI x 9 (4 * t + k) (if mI x 9 (4 * f + k) ≤ mI x 9 (4 * t + k) then mI x 9 (4 * t + k) else mI x 9 (4 * f + k))) 10 (4 * f + k) = mI x 10 (4 * f + k) from by simp [tI_mI, tJ_mI, tI_mJ, tJ_mJ, up2]]
            refine mis_n 10 hx hb hK.1 hW hS (by simp only [tI_mA, tJ_mA]) (by decide) rfl (show _ < 36 by omega) (by decide) dX7_copy_128 (fun H locs hW hS => ?_)
            refine lv_aload_n hx hb dX7_copy_129 rfl (lv_at hl 4 rfl) ?_
            refine gM 12 hx hb hts hX7 hown hK.1 hW (by simp only [tI_mA, tJ_mA]) (by decide) rfl (hts (.fieldLink RX7 45 "SharedRegistersModel" "there" "[Z") (by decide +kernel)) rfl dX7_copy_130 ?_
            refine lv_iload hx hb dX7_copy_133 (lv_at hl 1 rfl) ?_
            refine lv_aload_n hx hb dX7_copy_135 rfl (lv_at hl 4 rfl) ?_
            refine gM 12 hx hb hts hX7 hown hK.1 hW (by simp only [tI_mA, tJ_mA]) (by decide) rfl (hts (.fieldLink RX7 45 "SharedRegistersModel" "there" "[Z") (by decide +kernel)) rfl dX7_copy_136 ?_
            refine lv_iload hx hb dX7_copy_139 (lv_at hl 0 rfl) ?_
            refine mzl_n 11 hx hb hK.1 hW (by simp only [tI_mA, tJ_mA]) (by decide) rfl hp2 (by decide) dX7_copy_141 ?_
            rw [show mI (tI (tI x 9 (4 * t + k) (if mI x 9 (4 * f + k) ≤ mI x 9 (4 * t + k) then mI x 9 (4 * t + k) else mI x 9 (4 * f + k))) 10 (4 * t + k) (mI x 10 (4 * f + k))) 11 (4 * f + k) = mI x 11 (4 * f + k) from by simp [tI_mI, tJ_mI, tI_mJ, tJ_mJ, up2]]
            refine mzs_n 11 hx hb hK.1 hW hS (by simp only [tI_mA, tJ_mA]) (by decide) rfl (show _ < 36 by omega) (by decide) h11f dX7_copy_142 (fun H locs hW hS => ?_)
            refine lv_aload_n hx hb dX7_copy_143 rfl (lv_at hl 4 rfl) ?_
            refine gM 13 hx hb hts hX7 hown hK.1 hW (by simp only [tI_mA, tJ_mA]) (by decide) rfl (hts (.fieldLink RX7 48 "SharedRegistersModel" "keptVersion" "[I") (by decide +kernel)) rfl dX7_copy_144 ?_
            refine lv_iload hx hb dX7_copy_147 (lv_at hl 1 rfl) ?_
            refine lv_aload_n hx hb dX7_copy_149 rfl (lv_at hl 4 rfl) ?_
            refine gM 13 hx hb hts hX7 hown hK.1 hW (by simp only [tI_mA, tJ_mA]) (by decide) rfl (hts (.fieldLink RX7 48 "SharedRegistersModel" "keptVersion" "[I") (by decide +kernel)) rfl dX7_copy_150 ?_
            refine lv_iload hx hb dX7_copy_153 (lv_at hl 0 rfl) ?_
            refine mil_n 12 hx hb hK.1 hW (by simp only [tI_mA, tJ_mA]) (by decide) rfl hp2 (by decide) dX7_copy_155 ?_
            rw [show mI (tI (tI (tI x 9 (4 * t + k) (if mI x 9 (4 * f + k) ≤ mI x 9 (4 * t + k) then mI x 9 (4 * t + k) else mI x 9 (4 * f + k))) 10 (4 * t + k) (mI x 10 (4 * f + k))) 11 (4 * t + k) (mI x 11 (4 * f + k))) 12 (4 * f + k) = mI x 12 (4 * f + k) from by simp [tI_mI, tJ_mI, tI_mJ, tJ_mJ, up2]]
            refine mis_n 12 hx hb hK.1 hW hS (by simp only [tI_mA, tJ_mA]) (by decide) rfl (show _ < 36 by omega) (by decide) dX7_copy_156 (fun H locs hW hS => ?_)
            refine lv_aload_n hx hb dX7_copy_157 rfl (lv_at hl 4 rfl) ?_
            refine gM 14 hx hb hts hX7 hown hK.1 hW (by simp only [tI_mA, tJ_mA]) (by decide) rfl (hts (.fieldLink RX7 51 "SharedRegistersModel" "keptValue" "[J") (by decide +kernel)) rfl dX7_copy_158 ?_
            refine lv_iload hx hb dX7_copy_161 (lv_at hl 1 rfl) ?_
            refine lv_aload_n hx hb dX7_copy_163 rfl (lv_at hl 4 rfl) ?_
            refine gM 14 hx hb hts hX7 hown hK.1 hW (by simp only [tI_mA, tJ_mA]) (by decide) rfl (hts (.fieldLink RX7 51 "SharedRegistersModel" "keptValue" "[J") (by decide +kernel)) rfl dX7_copy_164 ?_
            refine lv_iload hx hb dX7_copy_167 (lv_at hl 0 rfl) ?_
            refine mll_n 13 hx hb hK.1 hW (by simp only [tI_mA, tJ_mA]) (by decide) rfl hp2 (by decide) dX7_copy_169 ?_
            rw [show mJ (tI (tI (tI (tI x 9 (4 * t + k) (if mI x 9 (4 * f + k) ≤ mI x 9 (4 * t + k) then mI x 9 (4 * t + k) else mI x 9 (4 * f + k))) 10 (4 * t + k) (mI x 10 (4 * f + k))) 11 (4 * t + k) (mI x 11 (4 * f + k))) 12 (4 * t + k) (mI x 12 (4 * f + k))) 13 (4 * f + k) = mJ x 13 (4 * f + k) from by simp [tI_mI, tJ_mI, tI_mJ, tJ_mJ, up2]]
            refine mls_n 13 hx hb hK.1 hW hS (by simp only [tI_mA, tJ_mA]) (by decide) rfl (show _ < 36 by omega) (by decide) dX7_copy_170 (fun H locs hW hS => ?_)
            refine lv_iinc (v := c0 + 1) (lv' := [(3, _), (6, _), (5, _), (4, _), (0, _), (1, _), (2, _)]) hx hb dX7_copy_171 hl (k := 3) rfl rfl (by decide) rfl (fun ls hl => ?_)
            refine lv_iinc (v := nI (k + 1)) (lv' := [(4, _), (3, _), (6, _), (5, _), (0, _), (1, _), (2, _)]) hx hb dX7_copy_174 hl (k := 3) rfl (nI_1 _) (by decide) rfl (fun ls hl => ?_)
            refine lv_goto (tgt := 28) hx hb dX7_copy_177 (by decide) ?_
            have hcat : mCatch x (4 * t + k) (4 * f + k) = tCatch x (4 * t + k) (4 * f + k) := by rw [mCatch, if_neg c_71]
            exact ih (tCatch x (4 * t + k) (4 * f + k)) (k + 1) (c0 + 1) _ _ ls (by omega) (by rw [← hcat, mCatch_38]; exact h38) (by rw [← hcat]; exact mCatch_11 h11) (by rw [← hfx, mCopy, hcat]) (by rw [← hcx, mCnt4, hcat, if_neg c_71]; exact i32_as _ _ _) hW hS (lv_sub hl [0, 1, 4, 5, 6] rfl)
    exact loop 4 (tI z 38 0 0) 0 0 _ _ ls (by omega) (by rw [tI_mI, up2_s]) hB.2.1 rfl (by simp) hW hS (lv_sub hl [0, 1, 2, 3, 4] rfl)
  · by_cases hq0 : inR i 9
    · refine lv_aload_n hx hb dX7_copy_0 rfl (lv_at hl 0 rfl) ?_
      refine lv_iload_n hx hb dX7_copy_1 rfl (lv_at hl 1 rfl) ?_
      refine mc1 (va_runS (As := [.int i]) (rest := [.ref (mA z 0 0)]) ⟨hx, hb, hml, hown, hts⟩ (m7_noKeeper l D y z _ i) (va_cwS 1 hts gX7_copy_X7_noKeeper rfl rfl rfl (by decide +kernel) ⟨Nat.le_of_ble_eq_true rfl, Nat.le_of_ble_eq_true rfl⟩) (mPreS hW hK [.int i]) rfl rfl hl.1 rfl (lv_room (Nat.le_of_ble_eq_true rfl)) dX7_copy_2 ⟨Nat.le_of_ble_eq_true rfl, Nat.le_of_ble_eq_true rfl⟩) hW hS hA (fun v2 u2 H locs hu2 hW hS => ?_)
      obtain ⟨rfl, f2⟩ := hu2
      replace f2 := f2.symm
      subst f2
      rw [if_pos (show (¬ _ < (0 : Int32) ∧ _ < _) from hq0)]
      by_cases hq1 : inR j 9
      · refine lv_if_ne (tgt := 15) hx hb dX7_copy_5 (by decide) (fun c_ => absurd c_ (by decide)) (fun _ => ?_)
        refine lv_iload_n hx hb dX7_copy_8 rfl (lv_at hl 2 rfl) ?_
        refine mc1 (va_runS (As := [.int j]) (rest := [.ref (mA z 0 0)]) ⟨hx, hb, hml, hown, hts⟩ (m7_noKeeper l D y z _ j) (va_cwS 1 hts gX7_copy_X7_noKeeper rfl rfl rfl (by decide +kernel) ⟨Nat.le_of_ble_eq_true rfl, Nat.le_of_ble_eq_true rfl⟩) (mPreS hW hK [.int j]) rfl rfl hl.1 rfl (lv_room (Nat.le_of_ble_eq_true rfl)) dX7_copy_9 ⟨Nat.le_of_ble_eq_true rfl, Nat.le_of_ble_eq_true rfl⟩) hW hS hA (fun v9 u9 H locs hu9 hW hS => ?_)
        obtain ⟨rfl, f9⟩ := hu9
        replace f9 := f9.symm
        subst f9
        rw [if_pos (show (¬ _ < (0 : Int32) ∧ _ < _) from hq1)]
        refine lv_if_eq (tgt := 19) hx hb dX7_copy_12 (by decide) (fun _ => ?_) (fun c_ => absurd c_ (by decide))
        exact absurd ⟨hq0, hq1⟩ hok
      · refine lv_if_ne (tgt := 15) hx hb dX7_copy_5 (by decide) (fun c_ => absurd c_ (by decide)) (fun _ => ?_)
        refine lv_iload_n hx hb dX7_copy_8 rfl (lv_at hl 2 rfl) ?_
        refine mc1 (va_runS (As := [.int j]) (rest := [.ref (mA z 0 0)]) ⟨hx, hb, hml, hown, hts⟩ (m7_noKeeper l D y z _ j) (va_cwS 1 hts gX7_copy_X7_noKeeper rfl rfl rfl (by decide +kernel) ⟨Nat.le_of_ble_eq_true rfl, Nat.le_of_ble_eq_true rfl⟩) (mPreS hW hK [.int j]) rfl rfl hl.1 rfl (lv_room (Nat.le_of_ble_eq_true rfl)) dX7_copy_9 ⟨Nat.le_of_ble_eq_true rfl, Nat.le_of_ble_eq_true rfl⟩) hW hS hA (fun v9 u9 H locs hu9 hW hS => ?_)
        obtain ⟨rfl, f9⟩ := hu9
        replace f9 := f9.symm
        subst f9
        rw [if_neg (show ¬ (¬ _ < (0 : Int32) ∧ _ < _) from hq1)]
        refine lv_if_eq (tgt := 19) hx hb dX7_copy_12 (by decide) (fun c_ => absurd c_ (by decide)) (fun _ => ?_)
        refine lv_iconst (v := 1) hx hb dX7_copy_15 (by decide) ?_
        refine lv_goto (tgt := 20) hx hb dX7_copy_16 (by decide) ?_
        refine pM_thrown hx hb hts hX7 hown hK.1 hW hS rfl (hts (.fieldLink RX7 120 "SharedRegistersModel" "thrown" "I") (by decide +kernel)) dX7_copy_20 (fun H locs hW hS => ?_)
        refine lv_iconst (v := 0) hx hb dX7_copy_23 (by decide) ?_
        refine lv_istore_n (lv' := [(3, _), (0, _), (1, _), (2, _)]) hx hb dX7_copy_24 rfl hl (by decide) rfl (fun ls hl => ?_)
        refine lv_iconst (v := 0) hx hb dX7_copy_25 (by decide) ?_
        refine lv_istore (lv' := [(4, _), (3, _), (0, _), (1, _), (2, _)]) hx hb dX7_copy_26 hl (by decide) rfl (fun ls hl => ?_)
        refine lv_iload hx hb dX7_copy_28 (lv_at hl 0 rfl) ?_
        refine lv_iconst (v := 4) hx hb dX7_copy_30 (by decide) ?_
        refine lv_icmp_ge (tgt := 180) hx hb dX7_copy_31 (by decide) (fun c_ => absurd c_ (by decide)) (fun _ => ?_)
        refine lv_aload_n hx hb dX7_copy_34 rfl (lv_at hl 2 rfl) ?_
        refine gM 38 hx hb hts hX7 hown hK.1 hW (by simp only [tI_mA, tJ_mA]) (by decide) rfl (hts (.fieldLink RX7 120 "SharedRegistersModel" "thrown" "I") (by decide +kernel)) rfl dX7_copy_35 ?_
        rw [show mI (tI z 38 0 1) 38 0 = 1 from by simp [tI_mI, tJ_mI, tI_mJ, tJ_mJ, up2]]
        refine lv_if_ne (tgt := 180) hx hb dX7_copy_38 (by decide) (fun _ => ?_) (fun c_ => absurd c_ (by decide))
        refine lv_iload_n hx hb dX7_copy_180 rfl (lv_at hl 1 rfl) ?_
        refine W.iret hx hb hr ?_ hS.2.2 dX7_copy_181
        refine mq1 ?_ hW hS
        exact Or.inr ⟨hok, rfl, rfl⟩
    · refine lv_aload_n hx hb dX7_copy_0 rfl (lv_at hl 0 rfl) ?_
      refine lv_iload_n hx hb dX7_copy_1 rfl (lv_at hl 1 rfl) ?_
      refine mc1 (va_runS (As := [.int i]) (rest := [.ref (mA z 0 0)]) ⟨hx, hb, hml, hown, hts⟩ (m7_noKeeper l D y z _ i) (va_cwS 1 hts gX7_copy_X7_noKeeper rfl rfl rfl (by decide +kernel) ⟨Nat.le_of_ble_eq_true rfl, Nat.le_of_ble_eq_true rfl⟩) (mPreS hW hK [.int i]) rfl rfl hl.1 rfl (lv_room (Nat.le_of_ble_eq_true rfl)) dX7_copy_2 ⟨Nat.le_of_ble_eq_true rfl, Nat.le_of_ble_eq_true rfl⟩) hW hS hA (fun v2 u2 H locs hu2 hW hS => ?_)
      obtain ⟨rfl, f2⟩ := hu2
      replace f2 := f2.symm
      subst f2
      rw [if_neg (show ¬ (¬ _ < (0 : Int32) ∧ _ < _) from hq0)]
      refine lv_if_ne (tgt := 15) hx hb dX7_copy_5 (by decide) (fun _ => ?_) (fun c_ => absurd c_ (by decide))
      refine lv_iconst (v := 1) hx hb dX7_copy_15 (by decide) ?_
      refine lv_goto (tgt := 20) hx hb dX7_copy_16 (by decide) ?_
      refine pM_thrown hx hb hts hX7 hown hK.1 hW hS rfl (hts (.fieldLink RX7 120 "SharedRegistersModel" "thrown" "I") (by decide +kernel)) dX7_copy_20 (fun H locs hW hS => ?_)
      refine lv_iconst (v := 0) hx hb dX7_copy_23 (by decide) ?_
      refine lv_istore_n (lv' := [(3, _), (0, _), (1, _), (2, _)]) hx hb dX7_copy_24 rfl hl (by decide) rfl (fun ls hl => ?_)
      refine lv_iconst (v := 0) hx hb dX7_copy_25 (by decide) ?_
      refine lv_istore (lv' := [(4, _), (3, _), (0, _), (1, _), (2, _)]) hx hb dX7_copy_26 hl (by decide) rfl (fun ls hl => ?_)
      refine lv_iload hx hb dX7_copy_28 (lv_at hl 0 rfl) ?_
      refine lv_iconst (v := 4) hx hb dX7_copy_30 (by decide) ?_
      refine lv_icmp_ge (tgt := 180) hx hb dX7_copy_31 (by decide) (fun c_ => absurd c_ (by decide)) (fun _ => ?_)
      refine lv_aload_n hx hb dX7_copy_34 rfl (lv_at hl 2 rfl) ?_
      refine gM 38 hx hb hts hX7 hown hK.1 hW (by simp only [tI_mA, tJ_mA]) (by decide) rfl (hts (.fieldLink RX7 120 "SharedRegistersModel" "thrown" "I") (by decide +kernel)) rfl dX7_copy_35 ?_
      rw [show mI (tI z 38 0 1) 38 0 = 1 from by simp [tI_mI, tJ_mI, tI_mJ, tJ_mJ, up2]]
      refine lv_if_ne (tgt := 180) hx hb dX7_copy_38 (by decide) (fun _ => ?_) (fun c_ => absurd c_ (by decide))
      refine lv_iload_n hx hb dX7_copy_180 rfl (lv_at hl 1 rfl) ?_
      refine W.iret hx hb hr ?_ hS.2.2 dX7_copy_181
      refine mq1 ?_ hW hS
      exact Or.inr ⟨hok, rfl, rfl⟩
