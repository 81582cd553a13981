def mAskS (z : MS) (a q k : Nat) (ch : Int32) (arg : Int64) : MS := tI (tI (tI (tI (tJ (tI (tI (tI (tI (tI (tI (tI (tI (tJ (tI (tI (tI (tI (tI z 38 0 0) 37 0 (nI (q + 1))) 14 a (mI z 14 a + 1)) 27 q (nI k)) 28 q ch) 29 q arg) 30 q ((4 * (mI z 14 a + 1)) + nI a)) 31 q 0) 19 a (nI q)) 20 a 0) 21 a 0) 22 a 0) 23 a 0) 24 a 0) 25 a 0) 17 (2 * a) (mI z 15 (2 * a))) 18 (2 * a) (mI z 16 (2 * a))) 17 (2 * a + 1) (mI z 15 (2 * a + 1))) 18 (2 * a + 1) (mI z 16 (2 * a + 1))
set_option maxHeartbeats 4000000 in
set_option maxRecDepth 100000 in
theorem m7_ask (l : Launch) (D : va_G) (y : Nat → ClassId) (z : MS) (sz : Nat) (i j ch : Int32) (arg : Int64) (n q : Nat) (hn : mI z 36 0 = nI n) (hn0 : n ≤ 300) (hq : mI z 37 0 = nI q) (hq200 : q ≤ 200) (hH : MH z) : Met l yX7_ask wsX7_ask ({ frames := 1, cells := 0, slots := 0, locals := 40 }) (va_Pc [.ref (mA z 0 0), .int i, .int j, .int ch, .long arg] (mPre D y z sz)) (mQ1 D y z sz (fun v u => (∃ a1 k1, a1 < 4 ∧ k1 < 4 ∧ i = nI a1 ∧ j = nI k1 ∧ inG ch 0 6 ∧ (((¬ mI z 19 a1 = -1 ∨ ¬ q < 200) ∧ v = .int (-1) ∧ u = tI z 38 0 0) ∨ (mI z 19 a1 = -1 ∧ q < 200 ∧ v = .int (nI q) ∧ u = mSet 9 (mAskS z a1 q k1 ch arg) 0 n (0 : Int32) (nI a1) (nI q) (4 * (mI z 14 a1 + 1) + nI a1) 0 0 0 (mI z 15 (2 * a1))))) ∨ (¬ (inR i 4 ∧ inR j 4) ∧ v = .int 0 ∧ u = tI z 38 0 1) ∨ (inR i 4 ∧ inR j 4 ∧ ¬ inG ch 0 6 ∧ v = .int 0 ∧ u = tI z 38 0 2))) 0 0 (mF z sz) := by
  refine Met.ofW (cc := cX7_ask) (maxL := 8) (ret := (some .int)) (by decide) rfl ?_
  intro p e s m args below meth c s₁ B hml hv
  obtain ⟨rfl, hsz, hW0, hK⟩ := hv
  have hx := B.exec
  have hb := B.bytes
  have hr := B.returns
  have hts := atoms_spec (ws := wsX7_ask) B.pre
  have hown : s.vm.findClass RX7 = some m.cls := findClass_of_methodNamed B.named
  have hlocks := B.notSynchronized
  subst hsz
  have hW := hW0.self (sz := s.heap.size)
  have hA : ∀ q, s.heap.size ≤ q → mF z s.heap.size q := fun q h => Or.inr h
  have hS : va_S (mF z s.heap.size) s.heap s.heap [] := va_S.rf
  have hl := lv_entry ([.ref (mA z 0 0), .int i, .int j, .int ch, .long arg]) (n := 8) (Nat.le_of_ble_eq_true rfl)
  rw [lg_entry_eq]
  generalize (lg_sl ([.ref (mA z 0 0), .int i, .int j, .int ch, .long arg]) ++ List.replicate (8 - (lg_sl ([.ref (mA z 0 0), .int i, .int j, .int ch, .long arg])).length) Slot.unset).toArray = ls at hl ⊢
  have hl : lv_has ls 8 [(0, .ref (mA z 0 0)), (1, .int i), (2, .int j), (3, .int ch), (4, .long arg)] := hl
  have hX7 : ∀ w ∈ wsX70, w ∈ wsX7_ask := by decide +kernel
  by_cases hok : inR i 4 ∧ inR j 4
  · obtain ⟨hR1, hR2⟩ := hok
    obtain ⟨a, ha, rfl⟩ := inR_nat (n := 4) hR1 (by decide)
    obtain ⟨k, hk, rfl⟩ := inR_nat (n := 4) hR2 (by decide)
    by_cases hg : inG ch 0 6
    · rcases hH a ha with h19 | ⟨r, hr0, h19⟩
      · refine lv_aload_n hx hb dX7_ask_0 rfl (lv_at hl 0 rfl) ?_
        refine lv_iload_n hx hb dX7_ask_1 rfl (lv_at hl 1 rfl) ?_
        refine mc1 (va_runS (As := [.int (nI a)]) (rest := [.ref (mA z 0 0)]) ⟨hx, hb, hml, hown, hts⟩ (m7_noAsker l D y z _ (nI a)) (va_cwS 1 hts gX7_ask_X7_noAsker rfl rfl rfl (by decide +kernel) ⟨Nat.le_of_ble_eq_true rfl, Nat.le_of_ble_eq_true rfl⟩) (mPreS hW hK [.int (nI a)]) rfl rfl hl.1 rfl (lv_room (Nat.le_of_ble_eq_true rfl)) dX7_ask_2 ⟨Nat.le_of_ble_eq_true rfl, Nat.le_of_ble_eq_true rfl⟩) hW hS hA (fun v2 u2 H locs hu2 hW hS => ?_)
        obtain ⟨rfl, f2⟩ := hu2
        replace f2 := f2.symm
        subst f2
        rw [if_pos (show (¬ _ < (0 : Int32) ∧ _ < _) from hR1)]
        refine lv_if_ne (tgt := 15) hx hb dX7_ask_5 (by decide) (fun c_ => absurd c_ (by decide)) (fun _ => ?_)
        refine lv_iload_n hx hb dX7_ask_8 rfl (lv_at hl 2 rfl) ?_
        refine mc1 (va_runS (As := [.int (nI k)]) (rest := [.ref (mA z 0 0)]) ⟨hx, hb, hml, hown, hts⟩ (m7_noKey l D y z _ (nI k)) (va_cwS 1 hts gX7_ask_X7_noKey rfl rfl rfl (by decide +kernel) ⟨Nat.le_of_ble_eq_true rfl, Nat.le_of_ble_eq_true rfl⟩) (mPreS hW hK [.int (nI k)]) rfl rfl hl.1 rfl (lv_room (Nat.le_of_ble_eq_true rfl)) dX7_ask_9 ⟨Nat.le_of_ble_eq_true rfl, Nat.le_of_ble_eq_true rfl⟩) hW hS hA (fun v9 u9 H locs hu9 hW hS => ?_)
        obtain ⟨rfl, f9⟩ := hu9
        replace f9 := f9.symm
        subst f9
        rw [if_pos (show (¬ _ < (0 : Int32) ∧ _ < _) from hR2)]
        refine lv_if_eq (tgt := 19) hx hb dX7_ask_12 (by decide) (fun _ => ?_) (fun c_ => absurd c_ (by decide))
        refine lv_iload_n hx hb dX7_ask_19 rfl (lv_at hl 3 rfl) ?_
        refine lv_if_lt (tgt := 29) hx hb dX7_ask_20 (by decide) (fun c_20 => ?_) (fun c_20 => ?_)
        · exact absurd c_20 hg.1
        · refine lv_iload_n hx hb dX7_ask_23 rfl (lv_at hl 3 rfl) ?_
          refine lv_bipush (v := 6) hx hb dX7_ask_24 (by decide) ?_
          refine lv_icmp_le (tgt := 33) hx hb dX7_ask_26 (by decide) (fun c_26 => ?_) (fun c_26 => ?_)
          · refine lv_iconst (v := 0) hx hb dX7_ask_33 (by decide) ?_
            refine pM_thrown hx hb hts hX7 hown hK.1 hW hS rfl (hts (.fieldLink RX7 120 "SharedRegistersModel" "thrown" "I") (by decide +kernel)) dX7_ask_34 (fun H locs hW hS => ?_)
            refine lv_aload_n hx hb dX7_ask_37 rfl (lv_at hl 0 rfl) ?_
            refine gM 38 hx hb hts hX7 hown hK.1 hW (by simp only [tI_mA, tJ_mA]) (by decide) rfl (hts (.fieldLink RX7 120 "SharedRegistersModel" "thrown" "I") (by decide +kernel)) rfl dX7_ask_38 ?_
            rw [show mI (tI z 38 0 0) 38 0 = 0 from by simp [tI_mI, tJ_mI, tI_mJ, tJ_mJ, up2]]
            refine lv_if_le (tgt := 46) hx hb dX7_ask_41 (by decide) (fun _ => ?_) (fun c_ => absurd c_ (by decide))
            refine lv_aload_n hx hb dX7_ask_46 rfl (lv_at hl 0 rfl) ?_
            refine gM 20 hx hb hts hX7 hown hK.1 hW (by simp only [tI_mA, tJ_mA]) (by decide) rfl (hts (.fieldLink RX7 69 "SharedRegistersModel" "now" "[I") (by decide +kernel)) rfl dX7_ask_47 ?_
            refine lv_iload_n hx hb dX7_ask_50 rfl (lv_at hl 1 rfl) ?_
            refine mil_n 19 hx hb hK.1 hW (by simp only [tI_mA, tJ_mA]) (by decide) rfl (show _ < 4 by omega) (by decide) dX7_ask_51 ?_
            rw [show mI (tI z 38 0 0) 19 a = mI z 19 a from by simp [tI_mI, tJ_mI, tI_mJ, tJ_mJ, up2]]
            rw [show mI z 19 a = (-1) from h19]
            refine lv_if_ge (tgt := 65) hx hb dX7_ask_52 (by decide) (fun c_ => absurd c_ (by decide)) (fun _ => ?_)
            refine lv_aload_n hx hb dX7_ask_55 rfl (lv_at hl 0 rfl) ?_
            refine gM 28 hx hb hts hX7 hown hK.1 hW (by simp only [tI_mA, tJ_mA]) (by decide) rfl (hts (.fieldLink RX7 134 "SharedRegistersModel" "requests" "I") (by decide +kernel)) rfl dX7_ask_56 ?_
            rw [show mI (tI z 38 0 0) 37 0 = mI z 37 0 from by simp [tI_mI, tJ_mI, tI_mJ, tJ_mJ, up2]]
            rw [show mI z 37 0 = nI q from hq]
            refine lv_sipush (v := 200) hx hb dX7_ask_59 (by decide) ?_
            refine lv_icmp_ne (tgt := 67) hx hb dX7_ask_62 (by decide) (fun c_62 => ?_) (fun c_62 => ?_)
            · have hlt : q < 200 := by rcases Nat.lt_or_ge q 200 with g | g; exact g; exact absurd (show nI q = 200 from by rw [show q = 200 by omega]; rfl) c_62
              refine lv_aload_n hx hb dX7_ask_67 rfl (lv_at hl 0 rfl) ?_
              refine gM 28 hx hb hts hX7 hown hK.1 hW (by simp only [tI_mA, tJ_mA]) (by decide) rfl (hts (.fieldLink RX7 134 "SharedRegistersModel" "requests" "I") (by decide +kernel)) rfl dX7_ask_68 ?_
              rw [show mI (tI z 38 0 0) 37 0 = mI z 37 0 from by simp [tI_mI, tJ_mI, tI_mJ, tJ_mJ, up2]]
              rw [show mI z 37 0 = nI q from hq]
              refine lv_istore (lv' := [(6, _), (0, _), (1, _), (2, _), (3, _), (4, _)]) hx hb dX7_ask_71 hl (by decide) rfl (fun ls hl => ?_)
              refine lv_aload_n hx hb dX7_ask_73 rfl (lv_at hl 1 rfl) ?_
              refine lv_dup hx hb dX7_ask_74 rfl ?_
              refine gM 28 hx hb hts hX7 hown hK.1 hW (by simp only [tI_mA, tJ_mA]) (by decide) rfl (hts (.fieldLink RX7 134 "SharedRegistersModel" "requests" "I") (by decide +kernel)) rfl dX7_ask_75 ?_
              rw [show mI (tI z 38 0 0) 37 0 = mI z 37 0 from by simp [tI_mI, tJ_mI, tI_mJ, tJ_mJ, up2]]
              rw [show mI z 37 0 = nI q from hq]
              refine lv_iconst (v := 1) hx hb dX7_ask_78 (by decide) ?_
              refine lv_iadd hx hb dX7_ask_79 ?_
              rw [show nI q + 1 = nI (q + 1) from nI_1 _]
              refine pM_requests hx hb hts hX7 hown hK.1 hW hS (by simp only [tI_mA, tJ_mA]) (hts (.fieldLink RX7 134 "SharedRegistersModel" "requests" "I") (by decide +kernel)) dX7_ask_80 (fun H locs hW hS => ?_)
              refine lv_aload_n hx hb dX7_ask_83 rfl (lv_at hl 1 rfl) ?_
              refine gM 15 hx hb hts hX7 hown hK.1 hW (by simp only [tI_mA, tJ_mA]) (by decide) rfl (hts (.fieldLink RX7 54 "SharedRegistersModel" "count" "[I") (by decide +kernel)) rfl dX7_ask_84 ?_
              refine lv_iload_n hx hb dX7_ask_87 rfl (lv_at hl 2 rfl) ?_
              refine lv_dup2_11 hx hb dX7_ask_88 rfl rfl ?_
              refine mil_n 14 hx hb hK.1 hW (by simp only [tI_mA, tJ_mA]) (by decide) rfl (show _ < 4 by omega) (by decide) dX7_ask_89 ?_
              rw [show mI (tI (tI z 38 0 0) 37 0 (nI (q + 1))) 14 a = mI z 14 a from by simp [tI_mI, tJ_mI, tI_mJ, tJ_mJ, up2]]
              refine lv_iconst (v := 1) hx hb dX7_ask_90 (by decide) ?_
              refine lv_iadd hx hb dX7_ask_91 ?_
              refine mis_n 14 hx hb hK.1 hW hS (by simp only [tI_mA, tJ_mA]) (by decide) rfl (show _ < 4 by omega) (by decide) dX7_ask_92 (fun H locs hW hS => ?_)
              refine lv_aload_n hx hb dX7_ask_93 rfl (lv_at hl 1 rfl) ?_
              refine gM 29 hx hb hts hX7 hown hK.1 hW (by simp only [tI_mA, tJ_mA]) (by decide) rfl (hts (.fieldLink RX7 93 "SharedRegistersModel" "key" "[I") (by decide +kernel)) rfl dX7_ask_94 ?_
              refine lv_iload hx hb dX7_ask_97 (lv_at hl 0 rfl) ?_
              refine lv_iload_n hx hb dX7_ask_99 rfl (lv_at hl 3 rfl) ?_
              refine mis_n 27 hx hb hK.1 hW hS (by simp only [tI_mA, tJ_mA]) (by decide) rfl (show _ < 200 by omega) (by decide) dX7_ask_100 (fun H locs hW hS => ?_)
              refine lv_aload_n hx hb dX7_ask_101 rfl (lv_at hl 1 rfl) ?_
              refine gM 30 hx hb hts hX7 hown hK.1 hW (by simp only [tI_mA, tJ_mA]) (by decide) rfl (hts (.fieldLink RX7 96 "SharedRegistersModel" "change" "[I") (by decide +kernel)) rfl dX7_ask_102 ?_
              refine lv_iload hx hb dX7_ask_105 (lv_at hl 0 rfl) ?_
              refine lv_iload_n hx hb dX7_ask_107 rfl (lv_at hl 4 rfl) ?_
              refine mis_n 28 hx hb hK.1 hW hS (by simp only [tI_mA, tJ_mA]) (by decide) rfl (show _ < 200 by omega) (by decide) dX7_ask_108 (fun H locs hW hS => ?_)
              refine lv_aload_n hx hb dX7_ask_109 rfl (lv_at hl 1 rfl) ?_
              refine gM 31 hx hb hts hX7 hown hK.1 hW (by simp only [tI_mA, tJ_mA]) (by decide) rfl (hts (.fieldLink RX7 99 "SharedRegistersModel" "argument" "[J") (by decide +kernel)) rfl dX7_ask_110 ?_
              refine lv_iload hx hb dX7_ask_113 (lv_at hl 0 rfl) ?_
              refine lv_lload hx hb dX7_ask_115 (lv_at hl 5 rfl) ?_
              refine mls_n 29 hx hb hK.1 hW hS (by simp only [tI_mA, tJ_mA]) (by decide) rfl (show _ < 200 by omega) (by decide) dX7_ask_117 (fun H locs hW hS => ?_)
              refine lv_aload_n hx hb dX7_ask_118 rfl (lv_at hl 1 rfl) ?_
              refine gM 32 hx hb hts hX7 hown hK.1 hW (by simp only [tI_mA, tJ_mA]) (by decide) rfl (hts (.fieldLink RX7 102 "SharedRegistersModel" "its" "[I") (by decide +kernel)) rfl dX7_ask_119 ?_
              refine lv_iload hx hb dX7_ask_122 (lv_at hl 0 rfl) ?_
              refine lv_iconst (v := 4) hx hb dX7_ask_124 (by decide) ?_
              refine lv_aload_n hx hb dX7_ask_125 rfl (lv_at hl 1 rfl) ?_
              refine gM 15 hx hb hts hX7 hown hK.1 hW (by simp only [tI_mA, tJ_mA]) (by decide) rfl (hts (.fieldLink RX7 54 "SharedRegistersModel" "count" "[I") (by decide +kernel)) rfl dX7_ask_126 ?_
              refine lv_iload_n hx hb dX7_ask_129 rfl (lv_at hl 2 rfl) ?_
              refine mil_n 14 hx hb hK.1 hW (by simp only [tI_mA, tJ_mA]) (by decide) rfl (show _ < 4 by omega) (by decide) dX7_ask_130 ?_
              rw [show mI (tJ (tI (tI (tI (tI (tI z 38 0 0) 37 0 (nI (q + 1))) 14 a (mI z 14 a + 1)) 27 q (nI k)) 28 q ch) 29 q arg) 14 a = (mI z 14 a + 1) from by simp [tI_mI, tJ_mI, tI_mJ, tJ_mJ, up2]]
              refine lv_imul hx hb dX7_ask_131 ?_
              refine lv_iload_n hx hb dX7_ask_132 rfl (lv_at hl 2 rfl) ?_
              refine lv_iadd hx hb dX7_ask_133 ?_
              refine mis_n 30 hx hb hK.1 hW hS (by simp only [tI_mA, tJ_mA]) (by decide) rfl (show _ < 200 by omega) (by decide) dX7_ask_134 (fun H locs hW hS => ?_)
              refine lv_aload_n hx hb dX7_ask_135 rfl (lv_at hl 1 rfl) ?_
              refine gM 33 hx hb hts hX7 hown hK.1 hW (by simp only [tI_mA, tJ_mA]) (by decide) rfl (hts (.fieldLink RX7 105 "SharedRegistersModel" "ended" "[I") (by decide +kernel)) rfl dX7_ask_136 ?_
              refine lv_iload hx hb dX7_ask_139 (lv_at hl 0 rfl) ?_
              refine lv_iconst (v := 0) hx hb dX7_ask_141 (by decide) ?_
              refine mis_n 31 hx hb hK.1 hW hS (by simp only [tI_mA, tJ_mA]) (by decide) rfl (show _ < 200 by omega) (by decide) dX7_ask_142 (fun H locs hW hS => ?_)
              refine lv_aload_n hx hb dX7_ask_143 rfl (lv_at hl 1 rfl) ?_
              refine gM 20 hx hb hts hX7 hown hK.1 hW (by simp only [tI_mA, tJ_mA]) (by decide) rfl (hts (.fieldLink RX7 69 "SharedRegistersModel" "now" "[I") (by decide +kernel)) rfl dX7_ask_144 ?_
              refine lv_iload_n hx hb dX7_ask_147 rfl (lv_at hl 2 rfl) ?_
              refine lv_iload hx hb dX7_ask_148 (lv_at hl 0 rfl) ?_
              refine mis_n 19 hx hb hK.1 hW hS (by simp only [tI_mA, tJ_mA]) (by decide) rfl (show _ < 4 by omega) (by decide) dX7_ask_150 (fun H locs hW hS => ?_)
              refine lv_aload_n hx hb dX7_ask_151 rfl (lv_at hl 1 rfl) ?_
              refine gM 21 hx hb hts hX7 hown hK.1 hW (by simp only [tI_mA, tJ_mA]) (by decide) rfl (hts (.fieldLink RX7 72 "SharedRegistersModel" "accepting" "[Z") (by decide +kernel)) rfl dX7_ask_152 ?_
              refine lv_iload_n hx hb dX7_ask_155 rfl (lv_at hl 2 rfl) ?_
              refine lv_iconst (v := 0) hx hb dX7_ask_156 (by decide) ?_
              refine mzs_n 20 hx hb hK.1 hW hS (by simp only [tI_mA, tJ_mA]) (by decide) rfl (show _ < 4 by omega) (by decide) (by first | exact Or.inl rfl | exact Or.inr rfl | assumption) dX7_ask_157 (fun H locs hW hS => ?_)
              refine lv_aload_n hx hb dX7_ask_158 rfl (lv_at hl 1 rfl) ?_
              refine gM 22 hx hb hts hX7 hown hK.1 hW (by simp only [tI_mA, tJ_mA]) (by decide) rfl (hts (.fieldLink RX7 75 "SharedRegistersModel" "answered" "[I") (by decide +kernel)) rfl dX7_ask_159 ?_
              refine lv_iload_n hx hb dX7_ask_162 rfl (lv_at hl 2 rfl) ?_
              refine lv_iconst (v := 0) hx hb dX7_ask_163 (by decide) ?_
              refine mis_n 21 hx hb hK.1 hW hS (by simp only [tI_mA, tJ_mA]) (by decide) rfl (show _ < 4 by omega) (by decide) dX7_ask_164 (fun H locs hW hS => ?_)
              refine lv_aload_n hx hb dX7_ask_165 rfl (lv_at hl 1 rfl) ?_
              refine gM 23 hx hb hts hX7 hown hK.1 hW (by simp only [tI_mA, tJ_mA]) (by decide) rfl (hts (.fieldLink RX7 78 "SharedRegistersModel" "best" "[I") (by decide +kernel)) rfl dX7_ask_166 ?_
              refine lv_iload_n hx hb dX7_ask_169 rfl (lv_at hl 2 rfl) ?_
              refine lv_iconst (v := 0) hx hb dX7_ask_170 (by decide) ?_
              refine mis_n 22 hx hb hK.1 hW hS (by simp only [tI_mA, tJ_mA]) (by decide) rfl (show _ < 4 by omega) (by decide) dX7_ask_171 (fun H locs hW hS => ?_)
              refine lv_aload_n hx hb dX7_ask_172 rfl (lv_at hl 1 rfl) ?_
              refine gM 24 hx hb hts hX7 hown hK.1 hW (by simp only [tI_mA, tJ_mA]) (by decide) rfl (hts (.fieldLink RX7 81 "SharedRegistersModel" "has" "[Z") (by decide +kernel)) rfl dX7_ask_173 ?_
              refine lv_iload_n hx hb dX7_ask_176 rfl (lv_at hl 2 rfl) ?_
              refine lv_iconst (v := 0) hx hb dX7_ask_177 (by decide) ?_
              refine mzs_n 23 hx hb hK.1 hW hS (by simp only [tI_mA, tJ_mA]) (by decide) rfl (show _ < 4 by omega) (by decide) (by first | exact Or.inl rfl | exact Or.inr rfl | assumption) dX7_ask_178 (fun H locs hW hS => ?_)
              refine lv_aload_n hx hb dX7_ask_179 rfl (lv_at hl 1 rfl) ?_
              refine gM 25 hx hb hts hX7 hown hK.1 hW (by simp only [tI_mA, tJ_mA]) (by decide) rfl (hts (.fieldLink RX7 84 "SharedRegistersModel" "hasVersion" "[I") (by decide +kernel)) rfl dX7_ask_180 ?_
              refine lv_iload_n hx hb dX7_ask_183 rfl (lv_at hl 2 rfl) ?_
              refine lv_iconst (v := 0) hx hb dX7_ask_184 (by decide) ?_
              refine mis_n 24 hx hb hK.1 hW hS (by simp only [tI_mA, tJ_mA]) (by decide) rfl (show _ < 4 by omega) (by decide) dX7_ask_185 (fun H locs hW hS => ?_)
              refine lv_aload_n hx hb dX7_ask_186 rfl (lv_at hl 1 rfl) ?_
              refine gM 26 hx hb hts hX7 hown hK.1 hW (by simp only [tI_mA, tJ_mA]) (by decide) rfl (hts (.fieldLink RX7 87 "SharedRegistersModel" "hasValue" "[J") (by decide +kernel)) rfl dX7_ask_187 ?_
              refine lv_iload_n hx hb dX7_ask_190 rfl (lv_at hl 2 rfl) ?_
              refine lv_lconst (v := 0) hx hb dX7_ask_191 (by decide) ?_
              refine mls_n 25 hx hb hK.1 hW hS (by simp only [tI_mA, tJ_mA]) (by decide) rfl (show _ < 4 by omega) (by decide) dX7_ask_192 (fun H locs hW hS => ?_)
              refine lv_iconst (v := 2) hx hb dX7_ask_193 (by decide) ?_
              refine lv_iload_n hx hb dX7_ask_194 rfl (lv_at hl 2 rfl) ?_
              refine lv_imul hx hb dX7_ask_195 ?_
              rw [show (2 : Int32) * nI a = nI (2 * a) from pk_mul 2 _]
              refine lv_istore (lv' := [(7, _), (6, _), (0, _), (1, _), (2, _), (3, _), (4, _)]) hx hb dX7_ask_196 hl (by decide) rfl (fun ls hl => ?_)
              refine lv_iload hx hb dX7_ask_198 (lv_at hl 0 rfl) ?_
              refine lv_iconst (v := 2) hx hb dX7_ask_200 (by decide) ?_
              refine lv_iload_n hx hb dX7_ask_201 rfl (lv_at hl 3 rfl) ?_
              refine lv_imul hx hb dX7_ask_202 ?_
              rw [show (2 : Int32) * nI a = nI (2 * a) from pk_mul 2 _]
              refine lv_iconst (v := 2) hx hb dX7_ask_203 (by decide) ?_
              refine lv_iadd hx hb dX7_ask_204 ?_
              rw [show nI (2 * a) + 2 = nI (2 * a + 2) from nI_add _ 2]
              refine lv_icmp_ge (tgt := 242) hx hb dX7_ask_205 (by decide) (fun c_ => absurd c_ (nI_ge (by omega) (by omega))) (fun _ => ?_)
              refine lv_aload_n hx hb dX7_ask_208 rfl (lv_at hl 2 rfl) ?_
              refine gM 18 hx hb hts hX7 hown hK.1 hW (by simp only [tI_mA, tJ_mA]) (by decide) rfl (hts (.fieldLink RX7 63 "SharedRegistersModel" "nowSet" "[I") (by decide +kernel)) rfl dX7_ask_209 ?_
              refine lv_iload hx hb dX7_ask_212 (lv_at hl 0 rfl) ?_
              refine lv_aload_n hx hb dX7_ask_214 rfl (lv_at hl 2 rfl) ?_
              refine gM 16 hx hb hts hX7 hown hK.1 hW (by simp only [tI_mA, tJ_mA]) (by decide) rfl (hts (.fieldLink RX7 57 "SharedRegistersModel" "set" "[I") (by decide +kernel)) rfl dX7_ask_215 ?_
              refine lv_iload hx hb dX7_ask_218 (lv_at hl 0 rfl) ?_
              refine mil_n 15 hx hb hK.1 hW (by simp only [tI_mA, tJ_mA]) (by decide) rfl (show _ < 8 by omega) (by decide) dX7_ask_220 ?_
              rw [show mI (tJ (tI (tI (tI (tI (tI (tI (tI (tI (tJ (tI (tI (tI (tI (tI z 38 0 0) 37 0 (nI (q + 1))) 14 a (mI z 14 a + 1)) 27 q (nI k)) 28 q ch) 29 q arg) 30 q ((4 * (mI z 14 a + 1)) + nI a)) 31 q 0) 19 a (nI q)) 20 a 0) 21 a 0) 22 a 0) 23 a 0) 24 a 0) 25 a 0) 15 (2 * a) = mI z 15 (2 * a) from by simp [tI_mI, tJ_mI, tI_mJ, tJ_mJ, up2]]
              refine mis_n 17 hx hb hK.1 hW hS (by simp only [tI_mA, tJ_mA]) (by decide) rfl (show _ < 8 by omega) (by decide) dX7_ask_221 (fun H locs hW hS => ?_)
              refine lv_aload_n hx hb dX7_ask_222 rfl (lv_at hl 2 rfl) ?_
              refine gM 19 hx hb hts hX7 hown hK.1 hW (by simp only [tI_mA, tJ_mA]) (by decide) rfl (hts (.fieldLink RX7 66 "SharedRegistersModel" "nowEnough" "[I") (by decide +kernel)) rfl dX7_ask_223 ?_
              refine lv_iload hx hb dX7_ask_226 (lv_at hl 0 rfl) ?_
              refine lv_aload_n hx hb dX7_ask_228 rfl (lv_at hl 2 rfl) ?_
              refine gM 17 hx hb hts hX7 hown hK.1 hW (by simp only [tI_mA, tJ_mA]) (by decide) rfl (hts (.fieldLink RX7 60 "SharedRegistersModel" "enough" "[I") (by decide +kernel)) rfl dX7_ask_229 ?_
              refine lv_iload hx hb dX7_ask_232 (lv_at hl 0 rfl) ?_
              refine mil_n 16 hx hb hK.1 hW (by simp only [tI_mA, tJ_mA]) (by decide) rfl (show _ < 8 by omega) (by decide) dX7_ask_234 ?_
              rw [show mI (tI (tJ (tI (tI (tI (tI (tI (tI (tI (tI (tJ (tI (tI (tI (tI (tI z 38 0 0) 37 0 (nI (q + 1))) 14 a (mI z 14 a + 1)) 27 q (nI k)) 28 q ch) 29 q arg) 30 q ((4 * (mI z 14 a + 1)) + nI a)) 31 q 0) 19 a (nI q)) 20 a 0) 21 a 0) 22 a 0) 23 a 0) 24 a 0) 25 a 0) 17 (2 * a) (mI z 15 (2 * a))) 16 (2 * a) = mI z 16 (2 * a) from by simp [tI_mI, tJ_mI, tI_mJ, tJ_mJ, up2]]
              refine mis_n 18 hx hb hK.1 hW hS (by simp only [tI_mA, tJ_mA]) (by decide) rfl (show _ < 8 by omega) (by decide) dX7_ask_235 (fun H locs hW hS => ?_)
              refine lv_iinc (v := nI (2 * a + 1)) (lv' := [(7, _), (6, _), (0, _), (1, _), (2, _), (3, _), (4, _)]) hx hb dX7_ask_236 hl (k := 0) rfl (nI_1 _) (by decide) rfl (fun ls hl => ?_)
              refine lv_goto (tgt := 198) hx hb dX7_ask_239 (by decide) ?_
              refine lv_iload hx hb dX7_ask_198 (lv_at hl 0 rfl) ?_
              refine lv_iconst (v := 2) hx hb dX7_ask_200 (by decide) ?_
              refine lv_iload_n hx hb dX7_ask_201 rfl (lv_at hl 3 rfl) ?_
              refine lv_imul hx hb dX7_ask_202 ?_
              rw [show (2 : Int32) * nI a = nI (2 * a) from pk_mul 2 _]
              refine lv_iconst (v := 2) hx hb dX7_ask_203 (by decide) ?_
              refine lv_iadd hx hb dX7_ask_204 ?_
              rw [show nI (2 * a) + 2 = nI (2 * a + 2) from nI_add _ 2]
              refine lv_icmp_ge (tgt := 242) hx hb dX7_ask_205 (by decide) (fun c_ => absurd c_ (nI_ge (by omega) (by omega))) (fun _ => ?_)
              refine lv_aload_n hx hb dX7_ask_208 rfl (lv_at hl 2 rfl) ?_
              refine gM 18 hx hb hts hX7 hown hK.1 hW (by simp only [tI_mA, tJ_mA]) (by decide) rfl (hts (.fieldLink RX7 63 "SharedRegistersModel" "nowSet" "[I") (by decide +kernel)) rfl dX7_ask_209 ?_
              refine lv_iload hx hb dX7_ask_212 (lv_at hl 0 rfl) ?_
              refine lv_aload_n hx hb dX7_ask_214 rfl (lv_at hl 2 rfl) ?_
              refine gM 16 hx hb hts hX7 hown hK.1 hW (by simp only [tI_mA, tJ_mA]) (by decide) rfl (hts (.fieldLink RX7 57 "SharedRegistersModel" "set" "[I") (by decide +kernel)) rfl dX7_ask_215 ?_
              refine lv_iload hx hb dX7_ask_218 (lv_at hl 0 rfl) ?_
              refine mil_n 15 hx hb hK.1 hW (by simp only [tI_mA, tJ_mA]) (by decide) rfl (show _ < 8 by omega) (by decide) dX7_ask_220 ?_
              rw [show mI (tI (tI (tJ (tI (tI (tI (tI (tI (tI (tI (tI (tJ (tI (tI (tI (tI (tI z 38 0 0) 37 0 (nI (q + 1))) 14 a (mI z 14 a + 1)) 27 q (nI k)) 28 q ch) 29 q arg) 30 q ((4 * (mI z 14 a + 1)) + nI a)) 31 q 0) 19 a (nI q)) 20 a 0) 21 a 0) 22 a 0) 23 a 0) 24 a 0) 25 a 0) 17 (2 * a) (mI z 15 (2 * a))) 18 (2 * a) (mI z 16 (2 * a))) 15 (2 * a + 1) = mI z 15 (2 * a + 1) from by simp [tI_mI, tJ_mI, tI_mJ, tJ_mJ, up2]]
              refine mis_n 17 hx hb hK.1 hW hS (by simp only [tI_mA, tJ_mA]) (by decide) rfl (show _ < 8 by omega) (by decide) dX7_ask_221 (fun H locs hW hS => ?_)
              refine lv_aload_n hx hb dX7_ask_222 rfl (lv_at hl 2 rfl) ?_
              refine gM 19 hx hb hts hX7 hown hK.1 hW (by simp only [tI_mA, tJ_mA]) (by decide) rfl (hts (.fieldLink RX7 66 "SharedRegistersModel" "nowEnough" "[I") (by decide +kernel)) rfl dX7_ask_223 ?_
              refine lv_iload hx hb dX7_ask_226 (lv_at hl 0 rfl) ?_
              refine lv_aload_n hx hb dX7_ask_228 rfl (lv_at hl 2 rfl) ?_
              refine gM 17 hx hb hts hX7 hown hK.1 hW (by simp only [tI_mA, tJ_mA]) (by decide) rfl (hts (.fieldLink RX7 60 "SharedRegistersModel" "enough" "[I") (by decide +kernel)) rfl dX7_ask_229 ?_
              refine lv_iload hx hb dX7_ask_232 (lv_at hl 0 rfl) ?_
              refine mil_n 16 hx hb hK.1 hW (by simp only [tI_mA, tJ_mA]) (by decide) rfl (show _ < 8 by omega) (by decide) dX7_ask_234 ?_
              rw [show mI (tI (tI (tI (tJ (tI (tI (tI (tI (tI (tI (tI (tI (tJ (tI (tI (tI (tI (tI z 38 0 0) 37 0 (nI (q + 1))) 14 a (mI z 14 a + 1)) 27 q (nI k)) 28 q ch) 29 q arg) 30 q ((4 * (mI z 14 a + 1)) + nI a)) 31 q 0) 19 a (nI q)) 20 a 0) 21 a 0) 22 a 0) 23 a 0) 24 a 0) 25 a 0) 17 (2 * a) (mI z 15 (2 * a))) 18 (2 * a) (mI z 16 (2 * a))) 17 (2 * a + 1) (mI z 15 (2 * a + 1))) 16 (2 * a + 1) = mI z 16 (2 * a + 1) from by simp [tI_mI, tJ_mI, tI_mJ, tJ_mJ, up2]]
              refine mis_n 18 hx hb hK.1 hW hS (by simp only [tI_mA, tJ_mA]) (by decide) rfl (show _ < 8 by omega) (by decide) dX7_ask_235 (fun H locs hW hS => ?_)
              refine lv_iinc (v := nI (2 * a + 1 + 1)) (lv' := [(7, _), (6, _), (0, _), (1, _), (2, _), (3, _), (4, _)]) hx hb dX7_ask_236 hl (k := 0) rfl (nI_1 _) (by decide) rfl (fun ls hl => ?_)
              refine lv_goto (tgt := 198) hx hb dX7_ask_239 (by decide) ?_
              refine lv_iload hx hb dX7_ask_198 (lv_at hl 0 rfl) ?_
              refine lv_iconst (v := 2) hx hb dX7_ask_200 (by decide) ?_
              refine lv_iload_n hx hb dX7_ask_201 rfl (lv_at hl 3 rfl) ?_
              refine lv_imul hx hb dX7_ask_202 ?_
              rw [show (2 : Int32) * nI a = nI (2 * a) from pk_mul 2 _]
              refine lv_iconst (v := 2) hx hb dX7_ask_203 (by decide) ?_
              refine lv_iadd hx hb dX7_ask_204 ?_
              rw [show nI (2 * a) + 2 = nI (2 * a + 2) from nI_add _ 2]
              refine lv_icmp_ge (tgt := 242) hx hb dX7_ask_205 (by decide) (fun _ => ?_) (fun c_ => absurd (nI_le (by omega) (by omega)) c_)
              refine lv_iconst (v := 0) hx hb dX7_ask_242 (by decide) ?_
              refine lv_istore (lv' := [(7, _), (6, _), (0, _), (1, _), (2, _), (3, _), (4, _)]) hx hb dX7_ask_243 hl (by decide) rfl (fun ls hl => ?_)
              have loop : ∀ (k0 : Nat) (x : MS) (j n0 : Nat) (H : Heap) (locs : List Loc) (ls : Array Slot), j + k0 = 9 → mI x 36 0 = nI n0 → n0 ≤ 300 → mI x 17 (2 * a) = mI z 15 (2 * a) → mI x 30 q = 4 * (mI z 14 a + 1) + nI a → mSet k0 x j n0 (0 : Int32) (nI a) (nI q) (4 * (mI z 14 a + 1) + nI a) 0 0 0 (mI z 15 (2 * a)) = mSet 9 (mAskS z a q k ch arg) 0 n (0 : Int32) (nI a) (nI q) (4 * (mI z 14 a + 1) + nI a) 0 0 0 (mI z 15 (2 * a)) → mw D y (mF z s.heap.size) x H → va_S (mF z s.heap.size) s.heap H locs → lv_has ls 8 [(7, .int (nI j)), (0, .ref (mA x 0 0)), (1, .int (nI a)), (6, .int (nI q))] → W p l e (headSpec wsX7_ask { frames := 1, cells := 0, slots := 0, locals := 40 }).room s m #[.ref (mA z 0 0), .int (nI a), .int (nI k), .int ch, .long arg] below meth c H locs 0 0 (MQ below (mQ1 D y z s.heap.size (fun v u => (∃ a1 k1, a1 < 4 ∧ k1 < 4 ∧ nI a = nI a1 ∧ nI k = nI k1 ∧ inG ch 0 6 ∧ (((¬ mI z 19 a1 = -1 ∨ ¬ q < 200) ∧ v = .int (-1) ∧ u = tI z 38 0 0) ∨ (mI z 19 a1 = -1 ∧ q < 200 ∧ v = .int (nI q) ∧ u = mSet 9 (mAskS z a1 q k1 ch arg) 0 n (0 : Int32) (nI a1) (nI q) (4 * (mI z 14 a1 + 1) + nI a1) 0 0 0 (mI z 15 (2 * a1))))) ∨ (¬ (inR (nI a) 4 ∧ inR (nI k) 4) ∧ v = .int 0 ∧ u = tI z 38 0 1) ∨ (inR (nI a) 4 ∧ inR (nI k) 4 ∧ ¬ inG ch 0 6 ∧ v = .int 0 ∧ u = tI z 38 0 2))) #[.ref (mA z 0 0), .int (nI a), .int (nI k), .int ch, .long arg] s 0 0 (mF z s.heap.size)) (F0 m 245 ls []) := by
                intro k0
                induction k0 with
                | zero =>
                  intro x j n0 H locs ls hj h36 hn3 h17 h30 hf hW hS hl
                  refine lv_iload hx hb dX7_ask_245 (lv_at hl 0 rfl) ?_
                  refine lv_bipush (v := 9) hx hb dX7_ask_247 (by decide) ?_
                  refine lv_icmp_ge (tgt := 295) hx hb dX7_ask_249 (by decide) (fun _ => ?_) (fun c_249 => absurd (show (9 : Int32) ≤ nI j from nI_le (a := 9) (by omega) (by omega)) c_249)
                  refine lv_iload hx hb dX7_ask_295 (lv_at hl 3 rfl) ?_
                  refine W.iret hx hb hr ?_ hS.2.2 dX7_ask_297
                  refine mq1 ?_ hW hS
                  exact Or.inl ⟨a, k, ha, hk, rfl, rfl, hg, Or.inr ⟨h19, hlt, rfl, hf⟩⟩
                | succ k0 ih =>
                  intro x j n0 H locs ls hj h36 hn3 h17 h30 hf hW hS hl
                  refine lv_iload hx hb dX7_ask_245 (lv_at hl 0 rfl) ?_
                  refine lv_bipush (v := 9) hx hb dX7_ask_247 (by decide) ?_
                  refine lv_icmp_ge (tgt := 295) hx hb dX7_ask_249 (by decide) (fun c_249 => absurd c_249 (show ¬ (9 : Int32) ≤ nI j from nI_ge (b := 9) (by omega) (by decide))) (fun _ => ?_)
                  refine lv_aload_n hx hb dX7_ask_252 rfl (lv_at hl 1 rfl) ?_
                  refine gM 18 hx hb hts hX7 hown hK.1 hW rfl (by decide) rfl (hts (.fieldLink RX7 63 "SharedRegistersModel" "nowSet" "[I") (by decide +kernel)) rfl dX7_ask_253 ?_
                  refine lv_iconst (v := 2) hx hb dX7_ask_256 (by decide) ?_
                  refine lv_iload_n hx hb dX7_ask_257 rfl (lv_at hl 2 rfl) ?_
                  refine lv_imul hx hb dX7_ask_258 ?_
                  rw [show (2 : Int32) * nI a = nI (2 * a) from pk_mul 2 _]
                  refine mil_n 17 hx hb hK.1 hW rfl (by decide) rfl (show _ < 8 by omega) (by decide) dX7_ask_259 ?_
                  rw [show mI x 17 (2 * a) = mI z 15 (2 * a) from h17]
                  refine lv_iload hx hb dX7_ask_260 (lv_at hl 0 rfl) ?_
                  refine lv_ishr hx hb dX7_ask_262 ?_
                  refine lv_iconst (v := 1) hx hb dX7_ask_263 (by decide) ?_
                  refine lv_iand hx hb dX7_ask_264 ?_
                  refine lv_iconst (v := 1) hx hb dX7_ask_265 (by decide) ?_
                  refine lv_icmp_ne (tgt := 289) hx hb dX7_ask_266 (by decide) (fun c_266 => ?_) (fun c_266 => ?_)
                  · refine lv_iinc (v := nI (j + 1)) (lv' := [(7, _), (0, _), (1, _), (6, _)]) hx hb dX7_ask_289 hl (k := 0) rfl (nI_1 _) (by decide) rfl (fun ls hl => ?_)
                    refine lv_goto (tgt := 245) hx hb dX7_ask_292 (by decide) ?_
                    exact ih x (j + 1) n0 _ _ ls (by omega) h36 hn3 h17 h30 (by rw [← hf, mSet, if_neg c_266]) hW hS (lv_sub hl [0, 1, 2, 3] rfl)
                  · refine lv_aload_n hx hb dX7_ask_269 rfl (lv_at hl 1 rfl) ?_
                    refine lv_iconst (v := 0) hx hb dX7_ask_270 (by decide) ?_
                    refine lv_iload_n hx hb dX7_ask_271 rfl (lv_at hl 2 rfl) ?_
                    refine lv_iload hx hb dX7_ask_272 (lv_at hl 0 rfl) ?_
                    refine lv_iload hx hb dX7_ask_274 (lv_at hl 3 rfl) ?_
                    refine lv_aload_n hx hb dX7_ask_276 rfl (lv_at hl 1 rfl) ?_
                    refine gM 32 hx hb hts hX7 hown hK.1 hW rfl (by decide) rfl (hts (.fieldLink RX7 102 "SharedRegistersModel" "its" "[I") (by decide +kernel)) rfl dX7_ask_277 ?_
                    refine lv_iload hx hb dX7_ask_280 (lv_at hl 3 rfl) ?_
                    refine mil_n 30 hx hb hK.1 hW rfl (by decide) rfl (show _ < 200 by omega) (by decide) dX7_ask_282 ?_
                    rw [show mI x 30 q = 4 * (mI z 14 a + 1) + nI a from h30]
                    refine lv_iconst (v := 0) hx hb dX7_ask_283 (by decide) ?_
                    refine lv_iconst (v := 0) hx hb dX7_ask_284 (by decide) ?_
                    refine lv_lconst (v := 0) hx hb dX7_ask_285 (by decide) ?_
                    refine mc0 (va_runV (As := [.int 0, .int (nI a), .int (nI j), .int (nI q), .int (4 * (mI z 14 a + 1) + nI a), .int 0, .int 0, .long 0]) (rest := []) ⟨hx, hb, hml, hown, hts⟩ (m7_send l D y x _ n0 0 (nI a) (nI j) (nI q) (4 * (mI z 14 a + 1) + nI a) 0 0 0 h36 hn3 (Or.inl rfl)) (cwV 8 hts gX7_ask_X7_send rfl rfl rfl (by decide +kernel) ⟨Nat.le_of_ble_eq_true rfl, Nat.le_of_ble_eq_true rfl⟩) (mPreV (k := 0) (q := (RX7, TX7, 39)) hW hK (show 0 < 1 from Nat.zero_lt_one) rfl rfl [.int 0, .int (nI a), .int (nI j), .int (nI q), .int (4 * (mI z 14 a + 1) + nI a), .int 0, .int 0, .long 0]) rfl rfl hl.1 rfl (lv_room (Nat.le_of_ble_eq_true rfl)) dX7_ask_286 ⟨Nat.le_of_ble_eq_true rfl, Nat.le_of_ble_eq_true rfl⟩) hW hS hA (fun u286 H locs hu286 hW hS => ?_)
                    subst hu286
                    refine lv_iinc (v := nI (j + 1)) (lv' := [(7, _), (0, _), (1, _), (6, _)]) hx hb dX7_ask_289 hl (k := 0) rfl (nI_1 _) (by decide) rfl (fun ls hl => ?_)
                    refine lv_goto (tgt := 245) hx hb dX7_ask_292 (by decide) ?_
                    exact ih _ (j + 1) (nxt n0) _ _ ls (by omega) (mSend_36 h36) (nxt_le hn3) (by rw [mSend_mI (by decide) (by decide)]; exact h17) (by rw [mSend_mI (by decide) (by decide)]; exact h30) (by rw [← hf, mSet, if_pos c_266]) hW hS (by rw [mSend_mA]; exact lv_sub hl [0, 1, 2, 3] rfl)
              have hW9 : mw D y (mF z s.heap.size) (mAskS z a q k ch arg) H := by unfold mAskS; exact hW
              have hA9 : mA (mAskS z a q k ch arg) = mA z := by unfold mAskS; simp only [tI_mA, tJ_mA]
              rw [← hA9] at hl
              exact loop 9 (mAskS z a q k ch arg) 0 n _ _ ls (by omega) (by unfold mAskS; simp [tI_mI, tJ_mI, up2, hn]) hn0 (by unfold mAskS; simp [tI_mI, tJ_mI, up2]) (by unfold mAskS; simp [tI_mI, tJ_mI, up2]) rfl hW9 hS (lv_sub hl [0, 2, 3, 1] rfl)
            · have hge : ¬ q < 200 := fun g => absurd ((nI_eq (a := q) (b := 200) (by omega) (by decide)).mp c_62) (by omega)
              refine lv_iconst (v := (-1)) hx hb dX7_ask_65 (by decide) ?_
              refine W.iret hx hb hr ?_ hS.2.2 dX7_ask_66
              refine mq1 ?_ hW hS
              exact Or.inl ⟨a, k, ha, hk, rfl, rfl, hg, Or.inl ⟨Or.inr hge, rfl, rfl⟩⟩
          · exact absurd hg.2 c_26
      · refine lv_aload_n hx hb dX7_ask_0 rfl (lv_at hl 0 rfl) ?_
        refine lv_iload_n hx hb dX7_ask_1 rfl (lv_at hl 1 rfl) ?_
        refine mc1 (va_runS (As := [.int (nI a)]) (rest := [.ref (mA z 0 0)]) ⟨hx, hb, hml, hown, hts⟩ (m7_noAsker l D y z _ (nI a)) (va_cwS 1 hts gX7_ask_X7_noAsker rfl rfl rfl (by decide +kernel) ⟨Nat.le_of_ble_eq_true rfl, Nat.le_of_ble_eq_true rfl⟩) (mPreS hW hK [.int (nI a)]) rfl rfl hl.1 rfl (lv_room (Nat.le_of_ble_eq_true rfl)) dX7_ask_2 ⟨Nat.le_of_ble_eq_true rfl, Nat.le_of_ble_eq_true rfl⟩) hW hS hA (fun v2 u2 H locs hu2 hW hS => ?_)
        obtain ⟨rfl, f2⟩ := hu2
        replace f2 := f2.symm
        subst f2
        rw [if_pos (show (¬ _ < (0 : Int32) ∧ _ < _) from hR1)]
        refine lv_if_ne (tgt := 15) hx hb dX7_ask_5 (by decide) (fun c_ => absurd c_ (by decide)) (fun _ => ?_)
        refine lv_iload_n hx hb dX7_ask_8 rfl (lv_at hl 2 rfl) ?_
        refine mc1 (va_runS (As := [.int (nI k)]) (rest := [.ref (mA z 0 0)]) ⟨hx, hb, hml, hown, hts⟩ (m7_noKey l D y z _ (nI k)) (va_cwS 1 hts gX7_ask_X7_noKey rfl rfl rfl (by decide +kernel) ⟨Nat.le_of_ble_eq_true rfl, Nat.le_of_ble_eq_true rfl⟩) (mPreS hW hK [.int (nI k)]) rfl rfl hl.1 rfl (lv_room (Nat.le_of_ble_eq_true rfl)) dX7_ask_9 ⟨Nat.le_of_ble_eq_true rfl, Nat.le_of_ble_eq_true rfl⟩) hW hS hA (fun v9 u9 H locs hu9 hW hS => ?_)
        obtain ⟨rfl, f9⟩ := hu9
        replace f9 := f9.symm
        subst f9
        rw [if_pos (show (¬ _ < (0 : Int32) ∧ _ < _) from hR2)]
        refine lv_if_eq (tgt := 19) hx hb dX7_ask_12 (by decide) (fun _ => ?_) (fun c_ => absurd c_ (by decide))
        refine lv_iload_n hx hb dX7_ask_19 rfl (lv_at hl 3 rfl) ?_
        refine lv_if_lt (tgt := 29) hx hb dX7_ask_20 (by decide) (fun c_20 => ?_) (fun c_20 => ?_)
        · exact absurd c_20 hg.1
        · refine lv_iload_n hx hb dX7_ask_23 rfl (lv_at hl 3 rfl) ?_
          refine lv_bipush (v := 6) hx hb dX7_ask_24 (by decide) ?_
          refine lv_icmp_le (tgt := 33) hx hb dX7_ask_26 (by decide) (fun c_26 => ?_) (fun c_26 => ?_)
          · refine lv_iconst (v := 0) hx hb dX7_ask_33 (by decide) ?_
            refine pM_thrown hx hb hts hX7 hown hK.1 hW hS rfl (hts (.fieldLink RX7 120 "SharedRegistersModel" "thrown" "I") (by decide +kernel)) dX7_ask_34 (fun H locs hW hS => ?_)
            refine lv_aload_n hx hb dX7_ask_37 rfl (lv_at hl 0 rfl) ?_
            refine gM 38 hx hb hts hX7 hown hK.1 hW (by simp only [tI_mA, tJ_mA]) (by decide) rfl (hts (.fieldLink RX7 120 "SharedRegistersModel" "thrown" "I") (by decide +kernel)) rfl dX7_ask_38 ?_
            rw [show mI (tI z 38 0 0) 38 0 = 0 from by simp [tI_mI, tJ_mI, tI_mJ, tJ_mJ, up2]]
            refine lv_if_le (tgt := 46) hx hb dX7_ask_41 (by decide) (fun _ => ?_) (fun c_ => absurd c_ (by decide))
            refine lv_aload_n hx hb dX7_ask_46 rfl (lv_at hl 0 rfl) ?_
            refine gM 20 hx hb hts hX7 hown hK.1 hW (by simp only [tI_mA, tJ_mA]) (by decide) rfl (hts (.fieldLink RX7 69 "SharedRegistersModel" "now" "[I") (by decide +kernel)) rfl dX7_ask_47 ?_
            refine lv_iload_n hx hb dX7_ask_50 rfl (lv_at hl 1 rfl) ?_
            refine mil_n 19 hx hb hK.1 hW (by simp only [tI_mA, tJ_mA]) (by decide) rfl (show _ < 4 by omega) (by decide) dX7_ask_51 ?_
            rw [show mI (tI z 38 0 0) 19 a = mI z 19 a from by simp [tI_mI, tJ_mI, tI_mJ, tJ_mJ, up2]]
            rw [show mI z 19 a = nI r from h19]
            refine lv_if_ge (tgt := 65) hx hb dX7_ask_52 (by decide) (fun _ => ?_) (fun c_ => absurd (nI_pos' (by omega)) c_)
            refine lv_iconst (v := (-1)) hx hb dX7_ask_65 (by decide) ?_
            refine W.iret hx hb hr ?_ hS.2.2 dX7_ask_66
            refine mq1 ?_ hW hS
            exact Or.inl ⟨a, k, ha, hk, rfl, rfl, hg, Or.inl ⟨Or.inl (fun e9 => absurd (h19.symm.trans e9) (fun e8 => absurd (show nI r < 0 by rw [e8]; decide) (nI_pos (by omega)))), rfl, rfl⟩⟩
          · exact absurd hg.2 c_26
    · refine lv_aload_n hx hb dX7_ask_0 rfl (lv_at hl 0 rfl) ?_
      refine lv_iload_n hx hb dX7_ask_1 rfl (lv_at hl 1 rfl) ?_
      refine mc1 (va_runS (As := [.int (nI a)]) (rest := [.ref (mA z 0 0)]) ⟨hx, hb, hml, hown, hts⟩ (m7_noAsker l D y z _ (nI a)) (va_cwS 1 hts gX7_ask_X7_noAsker rfl rfl rfl (by decide +kernel) ⟨Nat.le_of_ble_eq_true rfl, Nat.le_of_ble_eq_true rfl⟩) (mPreS hW hK [.int (nI a)]) rfl rfl hl.1 rfl (lv_room (Nat.le_of_ble_eq_true rfl)) dX7_ask_2 ⟨Nat.le_of_ble_eq_true rfl, Nat.le_of_ble_eq_true rfl⟩) hW hS hA (fun v2 u2 H locs hu2 hW hS => ?_)
      obtain ⟨rfl, f2⟩ := hu2
      replace f2 := f2.symm
      subst f2
      rw [if_pos (show (¬ _ < (0 : Int32) ∧ _ < _) from hR1)]
      refine lv_if_ne (tgt := 15) hx hb dX7_ask_5 (by decide) (fun c_ => absurd c_ (by decide)) (fun _ => ?_)
      refine lv_iload_n hx hb dX7_ask_8 rfl (lv_at hl 2 rfl) ?_
      refine mc1 (va_runS (As := [.int (nI k)]) (rest := [.ref (mA z 0 0)]) ⟨hx, hb, hml, hown, hts⟩ (m7_noKey l D y z _ (nI k)) (va_cwS 1 hts gX7_ask_X7_noKey rfl rfl rfl (by decide +kernel) ⟨Nat.le_of_ble_eq_true rfl, Nat.le_of_ble_eq_true rfl⟩) (mPreS hW hK [.int (nI k)]) rfl rfl hl.1 rfl (lv_room (Nat.le_of_ble_eq_true rfl)) dX7_ask_9 ⟨Nat.le_of_ble_eq_true rfl, Nat.le_of_ble_eq_true rfl⟩) hW hS hA (fun v9 u9 H locs hu9 hW hS => ?_)
      obtain ⟨rfl, f9⟩ := hu9
      replace f9 := f9.symm
      subst f9
      rw [if_pos (show (¬ _ < (0 : Int32) ∧ _ < _) from hR2)]
      refine lv_if_eq (tgt := 19) hx hb dX7_ask_12 (by decide) (fun _ => ?_) (fun c_ => absurd c_ (by decide))
      refine lv_iload_n hx hb dX7_ask_19 rfl (lv_at hl 3 rfl) ?_
      refine lv_if_lt (tgt := 29) hx hb dX7_ask_20 (by decide) (fun c_20 => ?_) (fun c_20 => ?_)
      · refine lv_iconst (v := 2) hx hb dX7_ask_29 (by decide) ?_
        refine lv_goto (tgt := 34) hx hb dX7_ask_30 (by decide) ?_
        refine pM_thrown hx hb hts hX7 hown hK.1 hW hS rfl (hts (.fieldLink RX7 120 "SharedRegistersModel" "thrown" "I") (by decide +kernel)) dX7_ask_34 (fun H locs hW hS => ?_)
        refine lv_aload_n hx hb dX7_ask_37 rfl (lv_at hl 0 rfl) ?_
        refine gM 38 hx hb hts hX7 hown hK.1 hW (by simp only [tI_mA, tJ_mA]) (by decide) rfl (hts (.fieldLink RX7 120 "SharedRegistersModel" "thrown" "I") (by decide +kernel)) rfl dX7_ask_38 ?_
        rw [show mI (tI z 38 0 2) 38 0 = 2 from by simp [tI_mI, tJ_mI, tI_mJ, tJ_mJ, up2]]
        refine lv_if_le (tgt := 46) hx hb dX7_ask_41 (by decide) (fun c_ => absurd c_ (by decide)) (fun _ => ?_)
        refine lv_iconst (v := 0) hx hb dX7_ask_44 (by decide) ?_
        refine W.iret hx hb hr ?_ hS.2.2 dX7_ask_45
        refine mq1 ?_ hW hS
        exact Or.inr (Or.inr ⟨hR1, hR2, hg, rfl, rfl⟩)
      · refine lv_iload_n hx hb dX7_ask_23 rfl (lv_at hl 3 rfl) ?_
        refine lv_bipush (v := 6) hx hb dX7_ask_24 (by decide) ?_
        refine lv_icmp_le (tgt := 33) hx hb dX7_ask_26 (by decide) (fun c_26 => ?_) (fun c_26 => ?_)
        · exact absurd ⟨c_20, c_26⟩ hg
        · refine lv_iconst (v := 2) hx hb dX7_ask_29 (by decide) ?_
          refine lv_goto (tgt := 34) hx hb dX7_ask_30 (by decide) ?_
          refine pM_thrown hx hb hts hX7 hown hK.1 hW hS rfl (hts (.fieldLink RX7 120 "SharedRegistersModel" "thrown" "I") (by decide +kernel)) dX7_ask_34 (fun H locs hW hS => ?_)
          refine lv_aload_n hx hb dX7_ask_37 rfl (lv_at hl 0 rfl) ?_
          refine gM 38 hx hb hts hX7 hown hK.1 hW (by simp only [tI_mA, tJ_mA]) (by decide) rfl (hts (.fieldLink RX7 120 "SharedRegistersModel" "thrown" "I") (by decide +kernel)) rfl dX7_ask_38 ?_
          rw [show mI (tI z 38 0 2) 38 0 = 2 from by simp [tI_mI, tJ_mI, tI_mJ, tJ_mJ, up2]]
          refine lv_if_le (tgt := 46) hx hb dX7_ask_41 (by decide) (fun c_ => absurd c_ (by decide)) (fun _ => ?_)
          refine lv_iconst (v := 0) hx hb dX7_ask_44 (by decide) ?_
          refine W.iret hx hb hr ?_ hS.2.2 dX7_ask_45
          refine mq1 ?_ hW hS
          exact Or.inr (Or.inr ⟨hR1, hR2, hg, rfl, rfl⟩)
  · by_cases hq0 : inR i 4
    · refine lv_aload_n hx hb dX7_ask_0 rfl (lv_at hl 0 rfl) ?_
      refine lv_iload_n hx hb dX7_ask_1 rfl (lv_at hl 1 rfl) ?_
      refine mc1 (va_runS (As := [.int i]) (rest := [.ref (mA z 0 0)]) ⟨hx, hb, hml, hown, hts⟩ (m7_noAsker l D y z _ i) (va_cwS 1 hts gX7_ask_X7_noAsker rfl rfl rfl (by decide +kernel) ⟨Nat.le_of_ble_eq_true rfl, Nat.le_of_ble_eq_true rfl⟩) (mPreS hW hK [.int i]) rfl rfl hl.1 rfl (lv_room (Nat.le_of_ble_eq_true rfl)) dX7_ask_2 ⟨Nat.le_of_ble_eq_true rfl, Nat.le_of_ble_eq_true rfl⟩) hW hS hA (fun v2 u2 H locs hu2 hW hS => ?_)
      obtain ⟨rfl, f2⟩ := hu2
      replace f2 := f2.symm
      subst f2
      rw [if_pos (show (¬ _ < (0 : Int32) ∧ _ < _) from hq0)]
      by_cases hq1 : inR j 4
      · refine lv_if_ne (tgt := 15) hx hb dX7_ask_5 (by decide) (fun c_ => absurd c_ (by decide)) (fun _ => ?_)
        refine lv_iload_n hx hb dX7_ask_8 rfl (lv_at hl 2 rfl) ?_
        refine mc1 (va_runS (As := [.int j]) (rest := [.ref (mA z 0 0)]) ⟨hx, hb, hml, hown, hts⟩ (m7_noKey l D y z _ j) (va_cwS 1 hts gX7_ask_X7_noKey rfl rfl rfl (by decide +kernel) ⟨Nat.le_of_ble_eq_true rfl, Nat.le_of_ble_eq_true rfl⟩) (mPreS hW hK [.int j]) rfl rfl hl.1 rfl (lv_room (Nat.le_of_ble_eq_true rfl)) dX7_ask_9 ⟨Nat.le_of_ble_eq_true rfl, Nat.le_of_ble_eq_true rfl⟩) hW hS hA (fun v9 u9 H locs hu9 hW hS => ?_)
        obtain ⟨rfl, f9⟩ := hu9
        replace f9 := f9.symm
        subst f9
        rw [if_pos (show (¬ _ < (0 : Int32) ∧ _ < _) from hq1)]
        refine lv_if_eq (tgt := 19) hx hb dX7_ask_12 (by decide) (fun _ => ?_) (fun c_ => absurd c_ (by decide))
        exact absurd ⟨hq0, hq1⟩ hok
      · refine lv_if_ne (tgt := 15) hx hb dX7_ask_5 (by decide) (fun c_ => absurd c_ (by decide)) (fun _ => ?_)
        refine lv_iload_n hx hb dX7_ask_8 rfl (lv_at hl 2 rfl) ?_
        refine mc1 (va_runS (As := [.int j]) (rest := [.ref (mA z 0 0)]) ⟨hx, hb, hml, hown, hts⟩ (m7_noKey l D y z _ j) (va_cwS 1 hts gX7_ask_X7_noKey rfl rfl rfl (by decide +kernel) ⟨Nat.le_of_ble_eq_true rfl, Nat.le_of_ble_eq_true rfl⟩) (mPreS hW hK [.int j]) rfl rfl hl.1 rfl (lv_room (Nat.le_of_ble_eq_true rfl)) dX7_ask_9 ⟨Nat.le_of_ble_eq_true rfl, Nat.le_of_ble_eq_true rfl⟩) hW hS hA (fun v9 u9 H locs hu9 hW hS => ?_)
        obtain ⟨rfl, f9⟩ := hu9
        replace f9 := f9.symm
        subst f9
        rw [if_neg (show ¬ (¬ _ < (0 : Int32) ∧ _ < _) from hq1)]
        refine lv_if_eq (tgt := 19) hx hb dX7_ask_12 (by decide) (fun c_ => absurd c_ (by decide)) (fun _ => ?_)
        refine lv_iconst (v := 1) hx hb dX7_ask_15 (by decide) ?_
        refine lv_goto (tgt := 34) hx hb dX7_ask_16 (by decide) ?_
        refine pM_thrown hx hb hts hX7 hown hK.1 hW hS rfl (hts (.fieldLink RX7 120 "SharedRegistersModel" "thrown" "I") (by decide +kernel)) dX7_ask_34 (fun H locs hW hS => ?_)
        refine lv_aload_n hx hb dX7_ask_37 rfl (lv_at hl 0 rfl) ?_
        refine gM 38 hx hb hts hX7 hown hK.1 hW (by simp only [tI_mA, tJ_mA]) (by decide) rfl (hts (.fieldLink RX7 120 "SharedRegistersModel" "thrown" "I") (by decide +kernel)) rfl dX7_ask_38 ?_
        rw [show mI (tI z 38 0 1) 38 0 = 1 from by simp [tI_mI, tJ_mI, tI_mJ, tJ_mJ, up2]]
        refine lv_if_le (tgt := 46) hx hb dX7_ask_41 (by decide) (fun c_ => absurd c_ (by decide)) (fun _ => ?_)
        refine lv_iconst (v := 0) hx hb dX7_ask_44 (by decide) ?_
        refine W.iret hx hb hr ?_ hS.2.2 dX7_ask_45
        refine mq1 ?_ hW hS
        exact Or.inr (Or.inl ⟨hok, rfl, rfl⟩)
    · refine lv_aload_n hx hb dX7_ask_0 rfl (lv_at hl 0 rfl) ?_
      refine lv_iload_n hx hb dX7_ask_1 rfl (lv_at hl 1 rfl) ?_
      refine mc1 (va_runS (As := [.int i]) (rest := [.ref (mA z 0 0)]) ⟨hx, hb, hml, hown, hts⟩ (m7_noAsker l D y z _ i) (va_cwS 1 hts gX7_ask_X7_noAsker rfl rfl rfl (by decide +kernel) ⟨Nat.le_of_ble_eq_true rfl, Nat.le_of_ble_eq_true rfl⟩) (mPreS hW hK [.int i]) rfl rfl hl.1 rfl (lv_room (Nat.le_of_ble_eq_true rfl)) dX7_ask_2 ⟨Nat.le_of_ble_eq_true rfl, Nat.le_of_ble_eq_true rfl⟩) hW hS hA (fun v2 u2 H locs hu2 hW hS => ?_)
      obtain ⟨rfl, f2⟩ := hu2
      replace f2 := f2.symm
      subst f2
      rw [if_neg (show ¬ (¬ _ < (0 : Int32) ∧ _ < _) from hq0)]
      refine lv_if_ne (tgt := 15) hx hb dX7_ask_5 (by decide) (fun _ => ?_) (fun c_ => absurd c_ (by decide))
      refine lv_iconst (v := 1) hx hb dX7_ask_15 (by decide) ?_
      refine lv_goto (tgt := 34) hx hb dX7_ask_16 (by decide) ?_
      refine pM_thrown hx hb hts hX7 hown hK.1 hW hS rfl (hts (.fieldLink RX7 120 "SharedRegistersModel" "thrown" "I") (by decide +kernel)) dX7_ask_34 (fun H locs hW hS => ?_)
      refine lv_aload_n hx hb dX7_ask_37 rfl (lv_at hl 0 rfl) ?_
      refine gM 38 hx hb hts hX7 hown hK.1 hW (by simp only [tI_mA, tJ_mA]) (by decide) rfl (hts (.fieldLink RX7 120 "SharedRegistersModel" "thrown" "I") (by decide +kernel)) rfl dX7_ask_38 ?_
      rw [show mI (tI z 38 0 1) 38 0 = 1 from by simp [tI_mI, tJ_mI, tI_mJ, tJ_mJ, up2]]
      refine lv_if_le (tgt := 46) hx hb dX7_ask_41 (by decide) (fun c_ => absurd c_ (by decide)) (fun _ => ?_)
      refine lv_iconst (v := 0) hx hb dX7_ask_44 (by decide) ?_
      refine W.iret hx hb hr ?_ hS.2.2 dX7_ask_45
      refine mq1 ?_ hW hS
      exact Or.inr (Or.inl ⟨hok, rfl, rfl⟩)
