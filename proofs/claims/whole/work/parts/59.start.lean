/-! WHAT THE START GIVES: classes, array classes, nest links, what a throw needs -/
theorem st_arr {args : Array Value} {s : State} {ty : FieldType} (h : (Cond.arrayClass ty).before args s = true) : ∃ cA : ClassId, s.vm.findClass ("[" ++ ty.toString) = some cA ∧ ArrOfT s cA ty := by
  obtain ⟨c, k, comp, h1, h2, h3⟩ := Cond.arrayClass_spec h
  exact ⟨c, h1, fun n z => ⟨fun k h => (by cases h), k, h2, comp, h3⟩⟩
theorem st_arq {args : Array Value} {s : State} {C : String} (h : (Cond.arrayOver (.object C)).before args s = true) : ∃ cA : ClassId, ArrOfT s cA (.object C) ∧ va_RA s cA (.object C) := by
  obtain ⟨comp, c, k, h1, h2, h3, h4, h5⟩ := Cond.arrayOver_spec h
  exact ⟨c, fun n z => ⟨fun k h => (by cases h), k, h3, comp, h4⟩, k, comp, h3, h4, h1, h5⟩
theorem st_nest0 : ∀ w ∈ nestW, w ∈ lw_tbl ∧ w.onTables = true := by decide +kernel
theorem st_th0 : ∀ w ∈ thW, w ∈ lw_tbl ∧ w.onTables = true := by decide +kernel
theorem st_str0 : ∀ q ∈ strW, Cond.stringRef RX6 q.1 q.2 ∈ lw_tbl := by decide +kernel
set_option maxHeartbeats 4000000 in
theorem st_K {args : Array Value} {s : State} (hts : ∀ w ∈ lw_tbl, w.before args s = true) : ∃ (D : va_G) (y : Nat → ClassId), kK D y s := by
  obtain ⟨c0, i0, k0⟩ := u_known (C := RX0) (T := TX0) (N := 5) (n := 5) hts inX0 (hts (.instantiable RX0 5) (by decide +kernel))
  obtain ⟨c1, i1, k1⟩ := u_known (C := RX1) (T := TX1) (N := 7) (n := 7) hts inX1 (hts (.instantiable RX1 7) (by decide +kernel))
  obtain ⟨c2, i2, k2⟩ := u_known (C := RX2) (T := TX2) (N := 3) (n := 3) hts inX2 (hts (.instantiable RX2 3) (by decide +kernel))
  obtain ⟨c3, i3, k3⟩ := u_known (C := RX3) (T := TX3) (N := 15) (n := 15) hts inX3 (hts (.instantiable RX3 15) (by decide +kernel))
  obtain ⟨c4, i4, k4⟩ := u_known (C := RX4) (T := TX4) (N := 2) (n := 2) hts inX4 (hts (.instantiable RX4 2) (by decide +kernel))
  obtain ⟨c5, i5, k5⟩ := u_known (C := RX5) (T := TX5) (N := 3) (n := 3) hts inX5 (hts (.instantiable RX5 3) (by decide +kernel))
  obtain ⟨c6, i6, k6⟩ := u_known (C := RX6) (T := TX6) (N := 7) (n := 7) hts inX6 (hts (.instantiable RX6 7) (by decide +kernel))
  obtain ⟨c7, i7, k7⟩ := u_known (C := RX7) (T := TX7) (N := 39) (n := 39) hts inX7 (hts (.instantiable RX7 39) (by decide +kernel))
  obtain ⟨y0, a0, b0⟩ := st_arr (hts (.arrayClass .int) (by decide +kernel))
  obtain ⟨y1, a1, b1⟩ := st_arr (hts (.arrayClass .long) (by decide +kernel))
  obtain ⟨y2, a2, b2⟩ := st_arr (hts (.arrayClass .boolean) (by decide +kernel))
  obtain ⟨y3, a3, b3⟩ := st_arq (hts (.arrayOver (.object RX0)) (by decide +kernel))
  obtain ⟨y4, a4, b4⟩ := st_arq (hts (.arrayOver (.object RX1)) (by decide +kernel))
  obtain ⟨y5, a5, b5⟩ := st_arq (hts (.arrayOver (.object RX2)) (by decide +kernel))
  obtain ⟨y6, a6, b6⟩ := st_arq (hts (.arrayOver (.object RX3)) (by decide +kernel))
  refine ⟨(fun k => match k with | 0 => c0 | 1 => c1 | 2 => c2 | 3 => c3 | 4 => c4 | 5 => c5 | 6 => c6 | _ => c7, fun k => match k with | 0 => i0 | 1 => i1 | 2 => i2 | 3 => i3 | 4 => i4 | 5 => i5 | 6 => i6 | _ => i7), fun k => match k with | 0 => y0 | 1 => y1 | 2 => y2 | 3 => y3 | 4 => y4 | 5 => y5 | _ => y6, ⟨fun k q hq => ?_, fun k q hq => ?_⟩, fun w hw => va_Nw.of (st_nest0 w hw).2 (hts w (st_nest0 w hw).1)⟩
  · match k, hq with
    | 0, hq => cases hq; exact k0
    | 1, hq => cases hq; exact k1
    | 2, hq => cases hq; exact k2
    | 3, hq => cases hq; exact k3
    | 4, hq => cases hq; exact k4
    | 5, hq => cases hq; exact k5
    | 6, hq => cases hq; exact k6
    | 7, hq => cases hq; exact k7
    | k + 8, hq => simp [vwCl] at hq
  · match k, hq with
    | 0, hq => cases hq; exact ⟨b0, a0⟩
    | 1, hq => cases hq; exact ⟨b1, a1⟩
    | 2, hq => cases hq; exact ⟨b2, a2⟩
    | 3, hq => cases hq; exact ⟨a3, b3⟩
    | 4, hq => cases hq; exact ⟨a4, b4⟩
    | 5, hq => cases hq; exact ⟨a5, b5⟩
    | 6, hq => cases hq; exact ⟨a6, b6⟩
    | k + 7, hq => simp [ctys] at hq
theorem st_ex {args : Array Value} {s : State} (hgv : (Jvm.Cond.and given_1 narrow_1).before args s = true) {k : Nat} (h : Cond.exactly (.string RX6 k) "java/lang/String" ∈ flatC (Jvm.Cond.and given_1 narrow_1)) : ∃ sa : Nat, (Term.string RX6 k).eval #[] s none [] s = some (.ref sa) := by
  obtain ⟨a, c9, cell9, k9, h1, -⟩ := Cond.exactly_spec (show (Cond.exactly (.string RX6 k) "java/lang/String").holds args s none s [] = true from flat_of_before _ hgv _ h)
  exact ⟨a, h1⟩
set_option maxHeartbeats 4000000 in
theorem st_Z {args : Array Value} {s : State} (hts : ∀ w ∈ lw_tbl, w.before args s = true) (hgv : (Jvm.Cond.and given_1 narrow_1).before args s = true) : zS (fun q => s.heap.size ≤ q) s ∧ va_Nc cG_ cI_ s := by
  have hf := flat_of_before _ hgv
  refine ⟨⟨fun w hw => va_Nw.of (st_th0 w hw).2 (hts w (st_th0 w hw).1), fun q hq => ?_, vx_Zqof (hts (.laysStatic Jvm.Bundle.tN "UNASSIGNED_STACK" Jvm.Bundle.steD) (by decide +kernel)) (hts (.initialized Jvm.Bundle.tN) (by decide +kernel)) (hf _ (by decide +kernel)) (fun a h1 h2 => by omega), vx_Zqof (hts (.laysStatic Jvm.Bundle.tN "SUPPRESSED_SENTINEL" Jvm.Bundle.listD) (by decide +kernel)) (hts (.initialized Jvm.Bundle.tN) (by decide +kernel)) (hf _ (by decide +kernel)) (fun a h1 h2 => by omega)⟩, va_Nc.of (hf (.not (.castable cG_ cI_)) (by decide +kernel))⟩
  have hr := hts _ (st_str0 q hq)
  have hz : ∃ sa : Nat, (Term.string RX6 q.1).eval #[] s none [] s = some (.ref sa) := by
    have h6 : q.1 = 154 ∨ q.1 = 164 ∨ q.1 = 177 ∨ q.1 = 191 ∨ q.1 = 193 ∨ q.1 = 197 := (by decide : ∀ q ∈ strW, q.1 = 154 ∨ q.1 = 164 ∨ q.1 = 177 ∨ q.1 = 191 ∨ q.1 = 193 ∨ q.1 = 197) q hq
    rcases h6 with h6 | h6 | h6 | h6 | h6 | h6 <;> rw [h6]
    · exact st_ex hgv (by decide +kernel)
    · exact st_ex hgv (by decide +kernel)
    · exact st_ex hgv (by decide +kernel)
    · exact st_ex hgv (by decide +kernel)
    · exact st_ex hgv (by decide +kernel)
    · exact st_ex hgv (by decide +kernel)
  obtain ⟨sa, h2⟩ := hz
  exact ⟨sa, vk_R.of (A := #[]) hr h2⟩
theorem st_l {l : Launch} (h : l.flags = flags0) : l.stackTraces = false := by
  unfold Launch.stackTraces
  rw [h]
  decide +kernel
