/-- a new object's world on the way: how many of each kind, and what stands in them -/
def jN (a0 a1 a2 a4 a5 a7 a8 a9 a10 a11 a12 a13 : Nat) : Nat → Nat := fun k => match k with
  | 0 => a0
  | 1 => a1
  | 2 => a2
  | 4 => a4
  | 5 => a5
  | 6 => 1
  | 7 => a7
  | 8 => a8
  | 9 => a9
  | 10 => a10
  | 11 => a11
  | 12 => a12
  | 13 => a13
  | _ => 0
def jC (y : Nat → ClassId) (ad : Nat → Nat → Nat) (vs v4 : List Value) (nr na : Nat) (k i : Nat) : va_E := match k with
  | 0 => .inr (0, [.int (nI i), .ref (ad 7 i), .ref (ad 8 i), .int 0, .null])
  | 1 => .inr (1, [.int 0, .int 0, .int 0, .int 0, .int 0, .int 0, .ref (ad 5 0)])
  | 2 => .inr (2, [.int 0, .int 0, .ref (ad 5 0)])
  | 4 => .inr (4, v4)
  | 5 => .inr (5, [.int 0, .int 0, .long 0])
  | 6 => .inr (6, vs)
  | 7 => .inl (y 0, 2, .inl (fun q => if q = 1 then 7 else if q = 0 then 7 else 0))
  | 8 => .inl (y 0, 2, .inl (fun q => if q = 1 then 2 else if q = 0 then 2 else 0))
  | 9 => .inl (y 2, 9, .inl (fun _ => 0))
  | 10 => .inl (y 3, 4, .inr (.inr (.inr (.inr (fun j => if j < na then some (ad 0 j) else none)))))
  | 11 => .inl (y 4, 301, .inr (.inr (.inr (.inr (fun j => if j < 301 then some (ad 1 j) else none)))))
  | 12 => .inl (y 5, 36, .inr (.inr (.inr (.inr (fun j => if j < nr then some (ad 2 j) else none)))))
  | _ => .inl (y 6, 200, .inr (.inr (.inr (.inr (fun _ => none)))))
theorem jN_k (a0 a1 a2 a4 a5 a7 a8 a9 a10 a11 a12 a13 : Nat) (f : Nat → Nat) (h : f 0 = a0 ∧ f 1 = a1 ∧ f 2 = a2 ∧ f 3 = 0 ∧ f 4 = a4 ∧ f 5 = a5 ∧ f 6 = 1 ∧ f 7 = a7 ∧ f 8 = a8 ∧ f 9 = a9 ∧ f 10 = a10 ∧ f 11 = a11 ∧ f 12 = a12 ∧ f 13 = a13) (ho : ∀ k, 13 < k → f k = 0) (k : Nat) : jN a0 a1 a2 a4 a5 a7 a8 a9 a10 a11 a12 a13 k = f k := by
  obtain ⟨h0, h1, h2, h3, h4, h5, h6, h7, h8, h9, h10, h11, h12, h13⟩ := h
  by_cases hk : 13 < k
  · rw [ho k hk]
    unfold jN
    split <;> first | rfl | omega
  · rcases (show k = 0 ∨ k = 1 ∨ k = 2 ∨ k = 3 ∨ k = 4 ∨ k = 5 ∨ k = 6 ∨ k = 7 ∨ k = 8 ∨ k = 9 ∨ k = 10 ∨ k = 11 ∨ k = 12 ∨ k = 13 by omega) with rfl | rfl | rfl | rfl | rfl | rfl | rfl | rfl | rfl | rfl | rfl | rfl | rfl | rfl
    all_goals (unfold jN; first | exact h0.symm | exact h1.symm | exact h2.symm | exact h3.symm | exact h4.symm | exact h5.symm | exact h6.symm | exact h7.symm | exact h8.symm | exact h9.symm | exact h10.symm | exact h11.symm | exact h12.symm | exact h13.symm)
theorem jN_o (a0 a1 a2 a4 a5 a7 a8 a9 a10 a11 a12 a13 k : Nat) (h : 13 < k) : jN a0 a1 a2 a4 a5 a7 a8 a9 a10 a11 a12 a13 k = 0 := by
  unfold jN; split <;> first | rfl | omega
theorem jC_k {y : Nat → ClassId} {ad' : Nat → Nat → Nat} {vs' v4' : List Value} {nr' na' : Nat} {N : Nat → Nat} {g : Nat → Nat → va_E} {P : Nat → Nat → Prop} (h0 : ∀ i, i < N 0 → ¬ P 0 i → jC y ad' vs' v4' nr' na' 0 i = g 0 i) (h1 : ∀ i, i < N 1 → ¬ P 1 i → jC y ad' vs' v4' nr' na' 1 i = g 1 i) (h2 : ∀ i, i < N 2 → ¬ P 2 i → jC y ad' vs' v4' nr' na' 2 i = g 2 i) (h4 : ∀ i, i < N 4 → ¬ P 4 i → jC y ad' vs' v4' nr' na' 4 i = g 4 i) (h5 : ∀ i, i < N 5 → ¬ P 5 i → jC y ad' vs' v4' nr' na' 5 i = g 5 i) (h6 : ∀ i, i < N 6 → ¬ P 6 i → jC y ad' vs' v4' nr' na' 6 i = g 6 i) (h7 : ∀ i, i < N 7 → ¬ P 7 i → jC y ad' vs' v4' nr' na' 7 i = g 7 i) (h8 : ∀ i, i < N 8 → ¬ P 8 i → jC y ad' vs' v4' nr' na' 8 i = g 8 i) (h9 : ∀ i, i < N 9 → ¬ P 9 i → jC y ad' vs' v4' nr' na' 9 i = g 9 i) (h10 : ∀ i, i < N 10 → ¬ P 10 i → jC y ad' vs' v4' nr' na' 10 i = g 10 i) (h11 : ∀ i, i < N 11 → ¬ P 11 i → jC y ad' vs' v4' nr' na' 11 i = g 11 i) (h12 : ∀ i, i < N 12 → ¬ P 12 i → jC y ad' vs' v4' nr' na' 12 i = g 12 i) (h13 : ∀ i, i < N 13 → ¬ P 13 i → jC y ad' vs' v4' nr' na' 13 i = g 13 i) (h3 : N 3 = 0) (ho : ∀ k, 13 < k → N k = 0) (k i : Nat) (hi : i < N k) (hp : ¬ P k i) : jC y ad' vs' v4' nr' na' k i = g k i := by
  by_cases hk : 13 < k
  · rw [ho k hk] at hi; omega
  · rcases (show k = 0 ∨ k = 1 ∨ k = 2 ∨ k = 3 ∨ k = 4 ∨ k = 5 ∨ k = 6 ∨ k = 7 ∨ k = 8 ∨ k = 9 ∨ k = 10 ∨ k = 11 ∨ k = 12 ∨ k = 13 by omega) with rfl | rfl | rfl | rfl | rfl | rfl | rfl | rfl | rfl | rfl | rfl | rfl | rfl | rfl
    · exact h0 i hi hp
    · exact h1 i hi hp
    · exact h2 i hi hp
    · omega
    · exact h4 i hi hp
    · exact h5 i hi hp
    · exact h6 i hi hp
    · exact h7 i hi hp
    · exact h8 i hi hp
    · exact h9 i hi hp
    · exact h10 i hi hp
    · exact h11 i hi hp
    · exact h12 i hi hp
    · exact h13 i hi hp
theorem i_end {D : va_G} {y : Nat → ClassId} {A : Nat → Prop} {ay : Nat → Nat → Nat} {H : Heap} (hW : gw D A ay (jN 4 301 36 1 1 4 4 1 1 1 1 1) (jC y ay [.ref (ay 5 0), .ref (ay 12 0), .ref (ay 9 0), .ref (ay 10 0), .ref (ay 13 0), .ref (ay 4 0), .int 0] [.ref (ay 11 0), .int 0] 36 4) H) : gw D A ay (cN (z0 ay)) (cC y (z0 ay)) H := by
  refine gw.at2 hW (fun k => (jN_k _ _ _ _ _ _ _ _ _ _ _ _ (cN (z0 ay)) (by simp [cN, z0, cNr, cNs]) (fun k hk => by unfold cN; split <;> first | rfl | omega) k).symm) (fun k i hi => ⟨rfl, ?_⟩)
  by_cases hk : 13 < k
  · rw [jN_o _ _ _ _ _ _ _ _ _ _ _ _ k hk] at hi; omega
  · rcases (show k = 0 ∨ k = 1 ∨ k = 2 ∨ k = 3 ∨ k = 4 ∨ k = 5 ∨ k = 6 ∨ k = 7 ∨ k = 8 ∨ k = 9 ∨ k = 10 ∨ k = 11 ∨ k = 12 ∨ k = 13 by omega) with rfl | rfl | rfl | rfl | rfl | rfl | rfl | rfl | rfl | rfl | rfl | rfl | rfl | rfl
    · exact Or.inl rfl
    · exact Or.inl rfl
    · exact Or.inl rfl
    · exact absurd hi (Nat.not_lt_zero _)
    · have e9 : i = 0 := (by have h9 : i < 1 := hi; omega); subst e9; exact Or.inl rfl
    · have e9 : i = 0 := (by have h9 : i < 1 := hi; omega); subst e9; exact Or.inl rfl
    · have e9 : i = 0 := (by have h9 : i < 1 := hi; omega); subst e9; exact Or.inl rfl
    · refine Or.inr ⟨_, _, rfl, rfl, ?_⟩
      rw [vp_cell_i, vp_cell_i]
      refine arrV_low (fun j hj => ?_)
      rcases (show j = 0 ∨ j = 1 by omega) with rfl | rfl <;> rfl
    · refine Or.inr ⟨_, _, rfl, rfl, ?_⟩
      rw [vp_cell_i, vp_cell_i]
      refine arrV_low (fun j hj => ?_)
      rcases (show j = 0 ∨ j = 1 by omega) with rfl | rfl <;> rfl
    · exact Or.inl rfl
    · refine Or.inr ⟨_, _, rfl, rfl, ?_⟩
      rw [vp_cell_q, vp_cell_q]
      exact arrV_low (fun j hj => by rw [if_pos hj]; rfl)
    · refine Or.inr ⟨_, _, rfl, rfl, ?_⟩
      rw [vp_cell_q, vp_cell_q]
      exact arrV_low (fun j hj => by rw [if_pos hj]; rfl)
    · refine Or.inr ⟨_, _, rfl, rfl, ?_⟩
      rw [vp_cell_q, vp_cell_q]
      exact arrV_low (fun j hj => by rw [if_pos hj]; rfl)
    · exact Or.inl rfl
set_option maxHeartbeats 4000000 in
set_option maxRecDepth 100000 in
theorem g_Shared_init (l : Launch) (D : va_G) (y : Nat → ClassId) (ad : Nat → Nat → Nat) (N : Nat → Nat) (cell : Nat → Nat → va_E) (sz : Nat) (hN : N = fun k => if k = 6 then 1 else 0) (hc : cell 6 0 = .inr (6, [.null, .null, .null, .null, .null, .null, .int 0])) : Met l yX6_init wsX6_init ({ frames := 3, cells := 356, slots := 2806, locals := 72 }) (va_Pc [.ref (ad 6 0)] (gPre D y ad N cell sz)) (gQ0 D ad N sz (fun ad' N' cell' => ad' 6 0 = ad 6 0 ∧ N' = cN (z0 ad') ∧ cell' = cC y (z0 ad'))) 356 2806 (gA ad N sz) := by
  refine Met.ofW (cc := cX6_init) (maxL := 2) (ret := none) (by decide) rfl ?_
  intro p e s m args below meth c s₁ B hml hv
  obtain ⟨rfl, hsz, hW0, hK, hO⟩ := hv
  have hx := B.exec
  have hb := B.bytes
  have hr := B.returns
  have hts := atoms_spec (ws := wsX6_init) B.pre
  have hown : s.vm.findClass RX6 = some m.cls := findClass_of_methodNamed B.named
  have hin : meth.name = "<init>" := (name_of_methodNamed B.named B.method).1
  subst hsz
  have hW := hW0.self (sz := s.heap.size)
  have hA : ∀ q, s.heap.size ≤ q → gA ad N s.heap.size q := fun q h => Or.inr h
  have hS : va_S (gA ad N s.heap.size) s.heap s.heap [] := va_S.rf
  have hl := lv_entry ([.ref (ad 6 0)]) (n := 2) (Nat.le_of_ble_eq_true rfl)
  rw [lg_entry_eq]
  generalize (lg_sl ([.ref (ad 6 0)]) ++ List.replicate (2 - (lg_sl ([.ref (ad 6 0)])).length) Slot.unset).toArray = ls at hl ⊢
  have hl : lv_has ls 2 [(0, .ref (ad 6 0))] := hl
  have hX6 : ∀ w ∈ wsX60, w ∈ wsX6_init := by decide +kernel
  have hX5 : ∀ w ∈ wsX50, w ∈ wsX6_init := by decide +kernel
  have hX2 : ∀ w ∈ wsX20, w ∈ wsX6_init := by decide +kernel
  have hX0 : ∀ w ∈ wsX00, w ∈ wsX6_init := by decide +kernel
  have hX4 : ∀ w ∈ wsX40, w ∈ wsX6_init := by decide +kernel
  have loopB : ∀ (k n : Nat) (ax : Nat → Nat → Nat) (H : Heap) (locs : List Loc) (ls : Array Slot) (cs sl : Nat), n + k = 4 → cs = 40 + 3 * n → sl = 160 + 9 * n → ax 6 0 = ad 6 0 → gw D (gA ad N s.heap.size) ax (jN n 0 36 0 1 n n 1 1 0 1 0) (jC y ax [.ref (ax 5 0), .ref (ax 12 0), .ref (ax 9 0), .ref (ax 10 0), .null, .null, .int 0] [.null, .int 0] 36 n) H → va_S (gA ad N s.heap.size) s.heap H locs → lv_has ls 2 [(1, .int (nI n)), (0, .ref (ax 6 0))] → W p l e (headSpec wsX6_init { frames := 3, cells := 356, slots := 2806, locals := 72 }).room s m #[.ref (ad 6 0)] below meth c H locs cs sl (MQ below (gQ0 D ad N s.heap.size (fun ad' N' cell' => ad' 6 0 = ad 6 0 ∧ N' = cN (z0 ad') ∧ cell' = cC y (z0 ad'))) #[.ref (ad 6 0)] s 356 2806 (gA ad N s.heap.size)) (F0 m 79 ls []) := by
    intro k
    induction k with
    | zero =>
      intro n ax H locs ls cs sl hn hcs hsl hax hW hS hl
      refine lv_iload_n hx hb dX6_init_79 rfl (lv_at hl 0 rfl) ?_
      refine lv_iconst (v := 4) hx hb dX6_init_80 (by decide) ?_
      refine lv_icmp_ge (tgt := 104) hx hb dX6_init_81 (by decide) (fun _ => ?_) (fun c_9 => absurd (show (4 : Int32) ≤ nI n from nI_le (a := 4) (by omega) (by omega)) c_9)
      have e9 : n = 4 := by omega
      subst e9; subst hcs; subst hsl
      refine lv_aload_n hx hb dX6_init_104 rfl (lv_at hl 1 rfl) ?_
      refine lv_sipush (v := 200) hx hb dX6_init_105 (by decide) ?_
      refine gz_newq 13 (t0 := 6) (j := 0) (show (jN 4 0 36 0 1 4 4 1 1 0 1 0) 13 = 0 from rfl) hx hb hown (hts (.classLink RX6 40 RX3) (by decide +kernel)) (hO RX3 (by decide)).use hK.1 rfl hW hS hA (show ¬ (200 : Int32) < 0 by decide) (N' := 200) rfl (by decide) (Nat.le_of_ble_eq_true rfl) (Nat.le_of_ble_eq_true rfl) dX6_init_108 (fun q13 H hW hS => ?_)
      have hW : gw D (gA ad N s.heap.size) (up2 ax 13 0 q13) (jN 4 0 36 0 1 4 4 1 1 0 1 1) (up2 (jC y ax [.ref (ax 5 0), .ref (ax 12 0), .ref (ax 9 0), .ref (ax 10 0), .null, .null, .int 0] [.null, .int 0] 36 4) 13 0 (.inl (y 6, 200, .inr (.inr (.inr (.inr (fun _ => none))))))) H := gw.shape hW (jN_k _ _ _ _ _ _ _ _ _ _ _ _ _ (by simp [va_up, jN]) (fun k hk => by simp only [va_up]; repeat rw [if_neg (by omega)]; first | exact jN_o _ _ _ _ _ _ _ _ _ _ _ _ _ hk | rfl)) (fun _ _ _ => ⟨rfl, rfl⟩)
      refine gz_putF (ci := 6) (C := RX6) (T := TX6) (Nf := 7) hx hb hts hX6 tyX6 tyX6_ok nmX6 hown hK.1 hW hS (k := 6) (i := 0) (show 0 < (jN 4 0 36 0 1 4 4 1 1 0 1 1) 6 from Nat.zero_lt_one) (by simp [up2]) (fs := [.ref (ax 5 0), .ref (ax 12 0), .ref (ax 9 0), .ref (ax 10 0), .null, .null, .int 0]) (by simp [up2, jC]) rfl 4 (by decide) (hts (.fieldLink RX6 42 "SharedRegisters" "requests" "[LSharedRegisters$Request;") (by decide +kernel)) (fun _ h9 => h9) rfl hin rfl (ty := .array (.object RX3)) (v := .ref q13) (by decide +kernel) rfl rfl (Nat.le_of_ble_eq_true rfl) dX6_init_111 (cell' := (jC y (up2 ax 13 0 q13) [.ref (ax 5 0), .ref (ax 12 0), .ref (ax 9 0), .ref (ax 10 0), .ref q13, .null, .int 0] [.null, .int 0] 36 4)) (by simp [up2, jC]) (fun k' i' hi' h => (jC_k (P := fun k i => k = 6 ∧ i = 0) (fun i hi hp => by first | (exact absurd hi (Nat.not_lt_zero _)) | rfl | (simp [up2, jC])) (fun i hi hp => by first | (exact absurd hi (Nat.not_lt_zero _)) | rfl | (simp [up2, jC])) (fun i hi hp => by first | (exact absurd hi (Nat.not_lt_zero _)) | rfl | (simp [up2, jC])) (fun i hi hp => by first | (exact absurd hi (Nat.not_lt_zero _)) | rfl | (simp [up2, jC])) (fun i hi hp => by first | (exact absurd hi (Nat.not_lt_zero _)) | rfl | (simp [up2, jC])) (fun i hi hp => by have e9 : i = 0 := (by have h9 : i < 1 := hi; omega); subst e9; exact absurd ⟨rfl, rfl⟩ hp) (fun i hi hp => by first | (exact absurd hi (Nat.not_lt_zero _)) | rfl | (simp [up2, jC])) (fun i hi hp => by first | (exact absurd hi (Nat.not_lt_zero _)) | rfl | (simp [up2, jC])) (fun i hi hp => by first | (exact absurd hi (Nat.not_lt_zero _)) | rfl | (simp [up2, jC])) (fun i hi hp => by first | (exact absurd hi (Nat.not_lt_zero _)) | rfl | (simp [up2, jC])) (fun i hi hp => by first | (exact absurd hi (Nat.not_lt_zero _)) | rfl | (simp [up2, jC])) (fun i hi hp => by first | (exact absurd hi (Nat.not_lt_zero _)) | rfl | (simp [up2, jC])) (fun i hi hp => by have e9 : i = 0 := (by have h9 : i < 1 := hi; omega); subst e9; simp [up2, jC]) rfl (fun k hk => jN_o _ _ _ _ _ _ _ _ _ _ _ _ k hk)) k' i' hi' h) (fun H locs hW hS => ?_)
      refine lv_aload_n hx hb dX6_init_114 rfl (lv_at hl 1 rfl) ?_
      refine gz_newo 4 (ci := 4) (C := RX4) (T := TX4) (Nf := 2) (fs := [.null, .int 0]) (j := 0) (show (jN 4 0 36 0 1 4 4 1 1 0 1 1) 4 = 0 from rfl) hx hb hts hX4 tyX4 tyX4_ok hown (hts (.classLink RX6 46 RX4) (by decide +kernel)) (hts (.instantiable RX4 2) (by decide +kernel)) (hts (.initialized RX4) (by decide +kernel)) hK.1 hW hS hA rfl (fun j hj => by rcases (show j = 0 ∨ j = 1 by omega) with rfl | rfl <;> rfl) (Nat.le_of_ble_eq_true rfl) (Nat.le_of_ble_eq_true rfl) dX6_init_115 (fun q4 H hW hS => ?_)
      have hW : gw D (gA ad N s.heap.size) (up2 (up2 ax 13 0 q13) 4 0 q4) (jN 4 0 36 1 1 4 4 1 1 0 1 1) (up2 (jC y (up2 ax 13 0 q13) [.ref (ax 5 0), .ref (ax 12 0), .ref (ax 9 0), .ref (ax 10 0), .ref q13, .null, .int 0] [.null, .int 0] 36 4) 4 0 (.inr (4, [.null, .int 0]))) H := gw.shape hW (jN_k _ _ _ _ _ _ _ _ _ _ _ _ _ (by simp [va_up, jN]) (fun k hk => by simp only [va_up]; repeat rw [if_neg (by omega)]; first | exact jN_o _ _ _ _ _ _ _ _ _ _ _ _ _ hk | rfl)) (fun _ _ _ => ⟨rfl, rfl⟩)
      refine lv_dup hx hb dX6_init_118 rfl ?_
      refine lv_aload_n hx hb dX6_init_119 rfl (lv_at hl 1 rfl) ?_
      refine gz_get (ci := 6) (C := RX6) (T := TX6) (Nf := 7) hx hb hts hX6 hown hK.1 hW (k := 6) (i := 0) (show 0 < (jN 4 0 36 1 1 4 4 1 1 0 1 1) 6 from Nat.zero_lt_one) (by simp [up2]) (fs := [.ref (ax 5 0), .ref (ax 12 0), .ref (ax 9 0), .ref (ax 10 0), .ref q13, .null, .int 0]) (by simp [up2, jC]) rfl 0 (by decide) (hts (.fieldLink RX6 12 "SharedRegisters" "absent" "LSharedRegisters$State;") (by decide +kernel)) (fun _ h9 => h9) (v := .ref (ax 5 0)) rfl dX6_init_120 ?_
      have hm1 := g_Row_init l D y (up2 (up2 ax 13 0 q13) 4 0 q4) (jN 4 0 36 1 1 4 4 1 1 0 1 1) (up2 (jC y (up2 ax 13 0 q13) [.ref (ax 5 0), .ref (ax 12 0), .ref (ax 9 0), .ref (ax 10 0), .ref q13, .null, .int 0] [.null, .int 0] 36 4) 4 0 (.inr (4, [.null, .int 0]))) H.size (ax 5 0) rfl rfl rfl (up2_s _ _ _ _)
      rw [up2_s (up2 ax 13 0 q13) 4 0 q4] at hm1
      refine gc0 (va_runIN (As := [.ref (ax 5 0)]) (rest := [.ref q4, .ref (ax 6 0)]) ⟨hx, hb, hml, hown, hts⟩ hm1 ⟨(va_cnB 1 hts gX6_init_X4_init_n48 rfl rfl rfl (hK.2 _ (List.mem_of_getElem? (i := 42) rfl)) (hts (.initialized RX4) (by decide +kernel)) (by decide +kernel) ⟨Nat.le_of_ble_eq_true rfl, Nat.le_of_ble_eq_true rfl⟩), rfl, hts (.instanceMethod yX4_init) (by decide +kernel)⟩ (gPreS hW hK hO (.ref q4 :: [.ref (ax 5 0)])) rfl rfl hl.1 rfl (lv_room (Nat.le_of_ble_eq_true rfl)) dX6_init_123 ⟨Nat.le_of_ble_eq_true rfl, Nat.le_of_ble_eq_true rfl⟩) hW hS hA (fun ay N5 cell5 H locs hu5 hW hS => ?_)
      obtain ⟨hay, rfl, rfl⟩ := hu5
      have hg : ∀ k i, i < (jN 4 0 36 1 1 4 4 1 1 0 1 1) k → k ≠ 4 → k ≠ 13 → ay k i = ax k i := fun k i hi g4 g13 => by rw [hay k i hi, up2_k g4, up2_k g13]
      have g4 : ay 4 0 = q4 := by rw [hay 4 0 (show 0 < 1 from Nat.zero_lt_one), up2_s]
      have g13 : ay 13 0 = q13 := by rw [hay 13 0 (show 0 < 1 from Nat.zero_lt_one), up2_k (by decide), up2_s]
      have g5 : ay 5 0 = ax 5 0 := hg 5 0 (show 0 < 1 from Nat.zero_lt_one) (by decide) (by decide)
      have g6 : ay 6 0 = ax 6 0 := hg 6 0 (show 0 < 1 from Nat.zero_lt_one) (by decide) (by decide)
      have g9 : ay 9 0 = ax 9 0 := hg 9 0 (show 0 < 1 from Nat.zero_lt_one) (by decide) (by decide)
      have g10 : ay 10 0 = ax 10 0 := hg 10 0 (show 0 < 1 from Nat.zero_lt_one) (by decide) (by decide)
      have g12 : ay 12 0 = ax 12 0 := hg 12 0 (show 0 < 1 from Nat.zero_lt_one) (by decide) (by decide)
      have hW : gw D (gA ad N s.heap.size) ay (jN 4 301 36 1 1 4 4 1 1 1 1 1) (rC y ay (up2 (jC y (up2 ax 13 0 q13) [.ref (ax 5 0), .ref (ax 12 0), .ref (ax 9 0), .ref (ax 10 0), .ref q13, .null, .int 0] [.null, .int 0] 36 4) 4 0 (.inr (4, [.null, .int 0]))) (ax 5 0) 301) H := gw.shape hW (jN_k _ _ _ _ _ _ _ _ _ _ _ _ _ (by simp [rN, jN]) (fun k hk => by unfold rN; rw [if_neg (by omega), if_neg (by omega)]; exact jN_o _ _ _ _ _ _ _ _ _ _ _ _ _ hk)) (fun _ _ _ => ⟨rfl, rfl⟩)
      refine gz_putF (ci := 6) (C := RX6) (T := TX6) (Nf := 7) hx hb hts hX6 tyX6 tyX6_ok nmX6 hown hK.1 hW hS (k := 6) (i := 0) (show 0 < (jN 4 301 36 1 1 4 4 1 1 1 1 1) 6 from Nat.zero_lt_one) g6.symm (fs := [.ref (ax 5 0), .ref (ax 12 0), .ref (ax 9 0), .ref (ax 10 0), .ref q13, .null, .int 0]) (by simp [rC, jC, up2]) rfl 5 (by decide) (hts (.fieldLink RX6 49 "SharedRegisters" "row" "LSharedRegisters$Row;") (by decide +kernel)) (fun _ h9 => h9) rfl hin rfl (ty := .object "SharedRegisters$Row") (v := .ref q4) (by decide +kernel) rfl rfl (Nat.le_of_ble_eq_true rfl) dX6_init_126 (cell' := (jC y ay [.ref (ay 5 0), .ref (ay 12 0), .ref (ay 9 0), .ref (ay 10 0), .ref (ay 13 0), .ref (ay 4 0), .int 0] [.ref (ay 11 0), .int 0] 36 4)) (by simp [jC, g4, g5, g12, g9, g10, g13]) (fun k' i' hi' h => (jC_k (P := fun k i => k = 6 ∧ i = 0) (fun i hi hp => by have i4 : i < 4 := hi; simp [rC, jC, up2, hg 7 i (show i < 4 from i4) (by decide) (by decide), hg 8 i (show i < 4 from i4) (by decide) (by decide)]) (fun i hi hp => by simp [rC, jC, g5]) (fun i hi hp => by simp [rC, jC, up2, g5]) (fun i hi hp => by simp [rC, jC]) (fun i hi hp => by have e9 : i = 0 := (by have h9 : i < 1 := hi; omega); subst e9; simp [rC, jC, up2]) (fun i hi hp => by have e9 : i = 0 := (by have h9 : i < 1 := hi; omega); subst e9; exact absurd ⟨rfl, rfl⟩ hp) (fun i hi hp => by simp [rC, jC, up2]) (fun i hi hp => by simp [rC, jC, up2]) (fun i hi hp => by simp [rC, jC, up2]) (fun i hi hp => by have e9 : i = 0 := (by have h9 : i < 1 := hi; omega); subst e9; simp only [rC, jC, up2]; simp; funext j; by_cases hj : j < 4; (rw [if_pos hj, if_pos hj, hg 0 j hj (by decide) (by decide)]); (rw [if_neg hj, if_neg hj])) (fun i hi hp => by simp [rC, jC]) (fun i hi hp => by have e9 : i = 0 := (by have h9 : i < 1 := hi; omega); subst e9; simp only [rC, jC, up2]; simp; funext j; by_cases hj : j < 36; (rw [if_pos hj, if_pos hj, hg 2 j hj (by decide) (by decide)]); (rw [if_neg hj, if_neg hj])) (fun i hi hp => by have e9 : i = 0 := (by have h9 : i < 1 := hi; omega); subst e9; simp [rC, jC, up2]) rfl (fun k hk => jN_o _ _ _ _ _ _ _ _ _ _ _ _ k hk)) k' i' hi' h) (fun H locs hW hS => ?_)
      refine lv_aload_n hx hb dX6_init_129 rfl (lv_at hl 1 rfl) ?_
      refine lv_iconst (v := 0) hx hb dX6_init_130 (by decide) ?_
      refine gz_put (ci := 6) (C := RX6) (T := TX6) (Nf := 7) hx hb hts hX6 tyX6 tyX6_ok nmX6 hown hK.1 hW hS (k := 6) (i := 0) (show 0 < (jN 4 301 36 1 1 4 4 1 1 1 1 1) 6 from Nat.zero_lt_one) g6.symm (fs := [.ref (ay 5 0), .ref (ay 12 0), .ref (ay 9 0), .ref (ay 10 0), .ref (ay 13 0), .ref (ay 4 0), .int 0]) rfl rfl 6 (by decide) (hts (.fieldLink RX6 53 "SharedRegisters" "requestCount" "I") (by decide +kernel)) (fun _ h9 => h9) rfl (ty := .int) (v := .int 0) (by decide +kernel) rfl rfl (Nat.le_of_ble_eq_true rfl) dX6_init_131 (cell' := (jC y ay [.ref (ay 5 0), .ref (ay 12 0), .ref (ay 9 0), .ref (ay 10 0), .ref (ay 13 0), .ref (ay 4 0), .int 0] [.ref (ay 11 0), .int 0] 36 4)) rfl (fun _ _ _ _ => rfl) (fun H locs hW hS => ?_)
      have hW : gw D (gA ad N s.heap.size) ay (cN (z0 ay)) (cC y (z0 ay)) H := i_end hW
      refine W.widen (k := 356) (n := 2806) (Nat.le_of_ble_eq_true rfl) (Nat.le_of_ble_eq_true rfl) ?_
      refine W.vret hx hb hr ?_ hS.2.2 dX6_init_134
      refine gq0 ?_ hW hS
      exact ⟨g6.trans hax, rfl, rfl⟩
    | succ k ih =>
      intro n ax H locs ls cs sl hn hcs hsl hax hW hS hl
      refine lv_iload_n hx hb dX6_init_79 rfl (lv_at hl 0 rfl) ?_
      refine lv_iconst (v := 4) hx hb dX6_init_80 (by decide) ?_
      refine lv_icmp_ge (tgt := 104) hx hb dX6_init_81 (by decide) (fun c_9 => absurd c_9 (show ¬ (4 : Int32) ≤ nI n from nI_ge (b := 4) (by omega) (by decide))) (fun _ => ?_)
      refine lv_aload_n hx hb dX6_init_84 rfl (lv_at hl 1 rfl) ?_
      refine gz_get (ci := 6) (C := RX6) (T := TX6) (Nf := 7) hx hb hts hX6 hown hK.1 hW (k := 6) (i := 0) (show 0 < (jN n 0 36 0 1 n n 1 1 0 1 0) 6 from Nat.zero_lt_one) rfl (fs := [.ref (ax 5 0), .ref (ax 12 0), .ref (ax 9 0), .ref (ax 10 0), .null, .null, .int 0]) rfl rfl 3 (by decide) (hts (.fieldLink RX6 33 "SharedRegisters" "askers" "[LSharedRegisters$Asker;") (by decide +kernel)) (fun _ h9 => h9) (v := .ref (ax 10 0)) rfl dX6_init_85 ?_
      refine lv_iload_n hx hb dX6_init_88 rfl (lv_at hl 0 rfl) ?_
      refine gz_newo 0 (ci := 0) (C := RX0) (T := TX0) (Nf := 5) (fs := [.int 0, .null, .null, .int 0, .null]) (j := n) (show (jN n 0 36 0 1 n n 1 1 0 1 0) 0 = n from rfl) hx hb hts hX0 tyX0 tyX0_ok hown (hts (.classLink RX6 31 RX0) (by decide +kernel)) (hts (.instantiable RX0 5) (by decide +kernel)) (hts (.initialized RX0) (by decide +kernel)) hK.1 hW hS hA rfl (fun j hj => by rcases (show j = 0 ∨ j = 1 ∨ j = 2 ∨ j = 3 ∨ j = 4 by omega) with rfl | rfl | rfl | rfl | rfl <;> rfl) (by subst hcs; show 40 + 3 * n + 1 ≤ 356; omega) (by subst hsl; show 160 + 9 * n + 5 ≤ 2806; omega) dX6_init_89 (fun q0 H hW hS => ?_)
      have hW : gw D (gA ad N s.heap.size) (up2 ax 0 n q0) (jN (n + 1) 0 36 0 1 n n 1 1 0 1 0) (up2 (jC y ax [.ref (ax 5 0), .ref (ax 12 0), .ref (ax 9 0), .ref (ax 10 0), .null, .null, .int 0] [.null, .int 0] 36 n) 0 n (.inr (0, [.int 0, .null, .null, .int 0, .null]))) H := gw.shape hW (jN_k _ _ _ _ _ _ _ _ _ _ _ _ _ (by simp [va_up, jN]) (fun k hk => by simp only [va_up]; repeat rw [if_neg (by omega)]; first | exact jN_o _ _ _ _ _ _ _ _ _ _ _ _ _ hk | rfl)) (fun _ _ _ => ⟨rfl, rfl⟩)
      refine lv_dup hx hb dX6_init_92 rfl ?_
      refine lv_iload_n hx hb dX6_init_93 rfl (lv_at hl 0 rfl) ?_
      have hm1 := g_Asker_init l D y (up2 ax 0 n q0) (jN (n + 1) 0 36 0 1 n n 1 1 0 1 0) (up2 (jC y ax [.ref (ax 5 0), .ref (ax 12 0), .ref (ax 9 0), .ref (ax 10 0), .null, .null, .int 0] [.null, .int 0] 36 n) 0 n (.inr (0, [.int 0, .null, .null, .int 0, .null]))) H.size n (nI n) (show n < n + 1 by omega) rfl rfl (up2_s _ _ _ _)
      rw [up2_s ax 0 n q0] at hm1
      refine gc0 (va_runIN (As := [.int (nI n)]) (rest := [.ref q0, .int (nI n), .ref (ax 10 0)]) ⟨hx, hb, hml, hown, hts⟩ hm1 ⟨(va_cnB 1 hts gX6_init_X0_init_n37 rfl rfl rfl (hK.2 _ (List.mem_of_getElem? (i := 41) rfl)) (hts (.initialized RX0) (by decide +kernel)) (by decide +kernel) ⟨Nat.le_of_ble_eq_true rfl, Nat.le_of_ble_eq_true rfl⟩), rfl, hts (.instanceMethod yX0_init) (by decide +kernel)⟩ (gPreS hW hK hO (.ref q0 :: [.int (nI n)])) rfl rfl hl.1 rfl (lv_room (Nat.le_of_ble_eq_true rfl)) dX6_init_94 ⟨by show cs + 1 + 2 ≤ 356; omega, by show sl + 5 + 4 ≤ 2806; omega⟩) hW hS hA (fun ad5 N5 cell5 H locs hu5 hW hS => ?_)
      obtain ⟨q7, q8, rfl, rfl, rfl⟩ := hu5
      have hW : gw D (gA ad N s.heap.size) (up2 (up2 (up2 ax 0 n q0) 7 n q7) 8 n q8) (jN (n + 1) 0 36 0 1 (n + 1) (n + 1) 1 1 0 1 0) (up2 (up2 (up2 (up2 (jC y ax [.ref (ax 5 0), .ref (ax 12 0), .ref (ax 9 0), .ref (ax 10 0), .null, .null, .int 0] [.null, .int 0] 36 n) 0 n (.inr (0, [.int 0, .null, .null, .int 0, .null]))) 0 n (.inr (0, [.int (nI n), .ref q7, .ref q8, .int 0, .null]))) 7 n (.inl (y 0, 2, .inl (fun q => if q = 1 then 7 else if q = 0 then 7 else 0)))) 8 n (.inl (y 0, 2, .inl (fun q => if q = 1 then 2 else if q = 0 then 2 else 0)))) H := gw.shape hW (jN_k _ _ _ _ _ _ _ _ _ _ _ _ _ (by simp [va_up, jN]) (fun k hk => by simp only [va_up]; rw [if_neg (by omega : ¬ k = 8), if_neg (by omega : ¬ k = 7)]; exact jN_o _ _ _ _ _ _ _ _ _ _ _ _ _ hk)) (fun _ _ _ => ⟨rfl, rfl⟩)
      refine gz_aast hx hb hK.1 hW hS (k := 10) (i := 0) (kv := 0) (iv := n) (show 0 < 1 from Nat.zero_lt_one) (show n < n + 1 by omega) (by simp [up2]) (by simp [up2]) 3 0 (f := fun j => if j < n then some (ax 0 j) else none) (n := 4) (vs := [.int (nI n), .ref q7, .ref q8, .int 0, .null]) (by simp [up2, jC]) (by simp [up2]) rfl rfl (vp_in_nI (n := n) (by omega) (by omega)) dX6_init_97 (cell' := (jC y (up2 (up2 (up2 ax 0 n q0) 7 n q7) 8 n q8) [.ref (ax 5 0), .ref (ax 12 0), .ref (ax 9 0), .ref (ax 10 0), .null, .null, .int 0] [.null, .int 0] 36 (n + 1))) (f' := fun j => if j < n + 1 then some ((up2 (up2 (up2 ax 0 n q0) 7 n q7) 8 n q8) 0 j) else none) rfl (fun j => ?_) (fun k' i' hi' h => (jC_k (P := fun k i => k = 10 ∧ i = 0) (fun i hi hp => by by_cases e1 : i = n; (subst e1; simp [jC, up2]); (simp [jC, up2, e1])) (fun i hi hp => by first | (exact absurd hi (Nat.not_lt_zero _)) | rfl | (simp [up2, jC])) (fun i hi hp => by first | (exact absurd hi (Nat.not_lt_zero _)) | rfl | (simp [up2, jC])) (fun i hi hp => by first | (exact absurd hi (Nat.not_lt_zero _)) | rfl | (simp [up2, jC])) (fun i hi hp => by first | (exact absurd hi (Nat.not_lt_zero _)) | rfl | (simp [up2, jC])) (fun i hi hp => by first | (exact absurd hi (Nat.not_lt_zero _)) | rfl | (simp [up2, jC])) (fun i hi hp => by by_cases e1 : i = n; (subst e1; simp [jC, up2]); (simp [jC, up2, e1])) (fun i hi hp => by by_cases e1 : i = n; (subst e1; simp [jC, up2]); (simp [jC, up2, e1])) (fun i hi hp => by first | (exact absurd hi (Nat.not_lt_zero _)) | rfl | (simp [up2, jC])) (fun i hi hp => by have e9 : i = 0 := (by have h9 : i < 1 := hi; omega); subst e9; exact absurd ⟨rfl, rfl⟩ hp) (fun i hi hp => by first | (exact absurd hi (Nat.not_lt_zero _)) | rfl | (simp [up2, jC])) (fun i hi hp => by first | (exact absurd hi (Nat.not_lt_zero _)) | rfl | (simp [up2, jC])) (fun i hi hp => by first | (exact absurd hi (Nat.not_lt_zero _)) | rfl | (simp [up2, jC])) rfl (fun k hk => jN_o _ _ _ _ _ _ _ _ _ _ _ _ k hk)) k' i' hi' h) (fun H locs hW hS => ?_)
      · rw [nI_clamp (n := n) (by omega), show (up2 (up2 (up2 ax 0 n q0) 7 n q7) 8 n q8) 0 j = up2 ax 0 n q0 0 j from by rw [up2_k (by decide), up2_k (by decide)], show (up2 (up2 (up2 ax 0 n q0) 7 n q7) 8 n q8) 0 n = q0 from by rw [up2_k (by decide), up2_k (by decide), up2_s]]
        by_cases e1 : j = n
        · subst e1; rw [if_pos (by omega), if_pos rfl, up2_s]
        · rw [if_neg e1]
          by_cases e2 : j < n
          · rw [if_pos (by omega), if_pos e2, up2_i e1]
          · rw [if_neg (by omega), if_neg e2]
      refine lv_iinc (v := nI (n + 1)) (lv' := [(1, _), (0, _)]) hx hb dX6_init_98 hl (k := 0) rfl (nI_1 n) (by decide) rfl (fun ls hl => ?_)
      refine lv_goto (tgt := 79) hx hb dX6_init_101 (by decide) ?_
      exact ih (n + 1) (up2 (up2 (up2 ax 0 n q0) 7 n q7) 8 n q8) H locs ls _ _ (by omega) (by omega) (by omega) (by simp [up2, hax]) (by simpa [up2] using hW) hS (by simpa [up2] using hl)
  have loopA : ∀ (k n : Nat) (ax : Nat → Nat → Nat) (H : Heap) (locs : List Loc) (ls : Array Slot) (cs sl : Nat), n + k = 36 → cs = 2 + n → sl = 39 + 3 * n → ax 6 0 = ad 6 0 → gw D (gA ad N s.heap.size) ax (jN 0 0 n 0 1 0 0 0 0 0 1 0) (jC y ax [.ref (ax 5 0), .ref (ax 12 0), .null, .null, .null, .null, .int 0] [.null, .int 0] n 0) H → va_S (gA ad N s.heap.size) s.heap H locs → lv_has ls 2 [(1, .int (nI n)), (0, .ref (ax 6 0))] → W p l e (headSpec wsX6_init { frames := 3, cells := 356, slots := 2806, locals := 72 }).room s m #[.ref (ad 6 0)] below meth c H locs cs sl (MQ below (gQ0 D ad N s.heap.size (fun ad' N' cell' => ad' 6 0 = ad 6 0 ∧ N' = cN (z0 ad') ∧ cell' = cC y (z0 ad'))) #[.ref (ad 6 0)] s 356 2806 (gA ad N s.heap.size)) (F0 m 29 ls []) := by
    intro k
    induction k with
    | zero =>
      intro n ax H locs ls cs sl hn hcs hsl hax hW hS hl
      refine lv_iload_n hx hb dX6_init_29 rfl (lv_at hl 0 rfl) ?_
      refine lv_aload_n hx hb dX6_init_30 rfl (lv_at hl 1 rfl) ?_
      refine gz_get (ci := 6) (C := RX6) (T := TX6) (Nf := 7) hx hb hts hX6 hown hK.1 hW (k := 6) (i := 0) (show 0 < (jN 0 0 n 0 1 0 0 0 0 0 1 0) 6 from Nat.zero_lt_one) rfl (fs := [.ref (ax 5 0), .ref (ax 12 0), .null, .null, .null, .null, .int 0]) rfl rfl 1 (by decide) (hts (.fieldLink RX6 20 "SharedRegisters" "registers" "[LSharedRegisters$Register;") (by decide +kernel)) (fun _ h9 => h9) (v := .ref (ax 12 0)) rfl dX6_init_31 ?_
      refine gz_len hx hb hK.1 hW (k := 12) (i := 0) (show 0 < 1 from Nat.zero_lt_one) rfl 5 rfl rfl (v := 36) rfl dX6_init_34 ?_
      refine lv_icmp_ge (tgt := 61) hx hb dX6_init_35 (by decide) (fun _ => ?_) (fun c_9 => absurd (show (36 : Int32) ≤ nI n from nI_le (a := 36) (by omega) (by omega)) c_9)
      have e9 : n = 36 := by omega
      subst e9; subst hcs; subst hsl
      refine lv_aload_n hx hb dX6_init_61 rfl (lv_at hl 1 rfl) ?_
      refine lv_bipush (v := 9) hx hb dX6_init_62 (by decide) ?_
      refine gz_newZ 9 (j := 0) (N' := 9) (show (jN 0 0 36 0 1 0 0 0 0 0 1 0) 9 = 0 from rfl) hx hb (hts (.arrayClass .boolean) (by decide +kernel)) hK.1 hW hS hA (show ¬ (9 : Int32) < 0 by decide) rfl (by decide) (Nat.le_of_ble_eq_true rfl) (Nat.le_of_ble_eq_true rfl) dX6_init_64 (fun q9 H hW hS => ?_)
      have hW : gw D (gA ad N s.heap.size) (up2 ax 9 0 q9) (jN 0 0 36 0 1 0 0 1 0 0 1 0) (up2 (jC y ax [.ref (ax 5 0), .ref (ax 12 0), .null, .null, .null, .null, .int 0] [.null, .int 0] 36 0) 9 0 (.inl (y 2, 9, .inl (fun _ => 0)))) H := gw.shape hW (jN_k _ _ _ _ _ _ _ _ _ _ _ _ _ (by simp [va_up, jN]) (fun k hk => by simp only [va_up]; repeat rw [if_neg (by omega)]; first | exact jN_o _ _ _ _ _ _ _ _ _ _ _ _ _ hk | rfl)) (fun _ _ _ => ⟨rfl, rfl⟩)
      refine gz_putF (ci := 6) (C := RX6) (T := TX6) (Nf := 7) hx hb hts hX6 tyX6 tyX6_ok nmX6 hown hK.1 hW hS (k := 6) (i := 0) (show 0 < (jN 0 0 36 0 1 0 0 1 0 0 1 0) 6 from Nat.zero_lt_one) (by simp [up2]) (fs := [.ref (ax 5 0), .ref (ax 12 0), .null, .null, .null, .null, .int 0]) (by simp [up2, jC]) rfl 2 (by decide) (hts (.fieldLink RX6 27 "SharedRegisters" "isDown" "[Z") (by decide +kernel)) (fun _ h9 => h9) rfl hin rfl (ty := .array .boolean) (v := .ref q9) (by decide +kernel) rfl rfl (Nat.le_of_ble_eq_true rfl) dX6_init_66 (cell' := (jC y (up2 ax 9 0 q9) [.ref (ax 5 0), .ref (ax 12 0), .ref q9, .null, .null, .null, .int 0] [.null, .int 0] 36 0)) (by simp [up2, jC]) (fun k' i' hi' h => (jC_k (P := fun k i => k = 6 ∧ i = 0) (fun i hi hp => by first | (exact absurd hi (Nat.not_lt_zero _)) | rfl | (simp [up2, jC])) (fun i hi hp => by first | (exact absurd hi (Nat.not_lt_zero _)) | rfl | (simp [up2, jC])) (fun i hi hp => by first | (exact absurd hi (Nat.not_lt_zero _)) | rfl | (simp [up2, jC])) (fun i hi hp => by first | (exact absurd hi (Nat.not_lt_zero _)) | rfl | (simp [up2, jC])) (fun i hi hp => by first | (exact absurd hi (Nat.not_lt_zero _)) | rfl | (simp [up2, jC])) (fun i hi hp => by have e9 : i = 0 := (by have h9 : i < 1 := hi; omega); subst e9; exact absurd ⟨rfl, rfl⟩ hp) (fun i hi hp => by first | (exact absurd hi (Nat.not_lt_zero _)) | rfl | (simp [up2, jC])) (fun i hi hp => by first | (exact absurd hi (Nat.not_lt_zero _)) | rfl | (simp [up2, jC])) (fun i hi hp => by have e9 : i = 0 := (by have h9 : i < 1 := hi; omega); subst e9; simp [up2, jC]) (fun i hi hp => by first | (exact absurd hi (Nat.not_lt_zero _)) | rfl | (simp [up2, jC])) (fun i hi hp => by first | (exact absurd hi (Nat.not_lt_zero _)) | rfl | (simp [up2, jC])) (fun i hi hp => by first | (exact absurd hi (Nat.not_lt_zero _)) | rfl | (simp [up2, jC])) (fun i hi hp => by first | (exact absurd hi (Nat.not_lt_zero _)) | rfl | (simp [up2, jC])) rfl (fun k hk => jN_o _ _ _ _ _ _ _ _ _ _ _ _ k hk)) k' i' hi' h) (fun H locs hW hS => ?_)
      refine lv_aload_n hx hb dX6_init_69 rfl (lv_at hl 1 rfl) ?_
      refine lv_iconst (v := 4) hx hb dX6_init_70 (by decide) ?_
      refine gz_newq 10 (t0 := 3) (j := 0) (show (jN 0 0 36 0 1 0 0 1 0 0 1 0) 10 = 0 from rfl) hx hb hown (hts (.classLink RX6 31 RX0) (by decide +kernel)) (hO RX0 (by decide)).use hK.1 rfl hW hS hA (show ¬ (4 : Int32) < 0 by decide) (N' := 4) rfl (by decide) (Nat.le_of_ble_eq_true rfl) (Nat.le_of_ble_eq_true rfl) dX6_init_71 (fun q10 H hW hS => ?_)
      have hW : gw D (gA ad N s.heap.size) (up2 (up2 ax 9 0 q9) 10 0 q10) (jN 0 0 36 0 1 0 0 1 1 0 1 0) (up2 (jC y (up2 ax 9 0 q9) [.ref (ax 5 0), .ref (ax 12 0), .ref q9, .null, .null, .null, .int 0] [.null, .int 0] 36 0) 10 0 (.inl (y 3, 4, .inr (.inr (.inr (.inr (fun _ => none))))))) H := gw.shape hW (jN_k _ _ _ _ _ _ _ _ _ _ _ _ _ (by simp [va_up, jN]) (fun k hk => by simp only [va_up]; repeat rw [if_neg (by omega)]; first | exact jN_o _ _ _ _ _ _ _ _ _ _ _ _ _ hk | rfl)) (fun _ _ _ => ⟨rfl, rfl⟩)
      refine gz_putF (ci := 6) (C := RX6) (T := TX6) (Nf := 7) hx hb hts hX6 tyX6 tyX6_ok nmX6 hown hK.1 hW hS (k := 6) (i := 0) (show 0 < (jN 0 0 36 0 1 0 0 1 1 0 1 0) 6 from Nat.zero_lt_one) (by simp [up2]) (fs := [.ref (ax 5 0), .ref (ax 12 0), .ref q9, .null, .null, .null, .int 0]) (by simp [up2, jC]) rfl 3 (by decide) (hts (.fieldLink RX6 33 "SharedRegisters" "askers" "[LSharedRegisters$Asker;") (by decide +kernel)) (fun _ h9 => h9) rfl hin rfl (ty := .array (.object RX0)) (v := .ref q10) (by decide +kernel) rfl rfl (Nat.le_of_ble_eq_true rfl) dX6_init_74 (cell' := (jC y (up2 (up2 ax 9 0 q9) 10 0 q10) [.ref (ax 5 0), .ref (ax 12 0), .ref q9, .ref q10, .null, .null, .int 0] [.null, .int 0] 36 0)) (by simp [up2, jC]) (fun k' i' hi' h => (jC_k (P := fun k i => k = 6 ∧ i = 0) (fun i hi hp => by first | (exact absurd hi (Nat.not_lt_zero _)) | rfl | (simp [up2, jC])) (fun i hi hp => by first | (exact absurd hi (Nat.not_lt_zero _)) | rfl | (simp [up2, jC])) (fun i hi hp => by first | (exact absurd hi (Nat.not_lt_zero _)) | rfl | (simp [up2, jC])) (fun i hi hp => by first | (exact absurd hi (Nat.not_lt_zero _)) | rfl | (simp [up2, jC])) (fun i hi hp => by first | (exact absurd hi (Nat.not_lt_zero _)) | rfl | (simp [up2, jC])) (fun i hi hp => by have e9 : i = 0 := (by have h9 : i < 1 := hi; omega); subst e9; exact absurd ⟨rfl, rfl⟩ hp) (fun i hi hp => by first | (exact absurd hi (Nat.not_lt_zero _)) | rfl | (simp [up2, jC])) (fun i hi hp => by first | (exact absurd hi (Nat.not_lt_zero _)) | rfl | (simp [up2, jC])) (fun i hi hp => by first | (exact absurd hi (Nat.not_lt_zero _)) | rfl | (simp [up2, jC])) (fun i hi hp => by have e9 : i = 0 := (by have h9 : i < 1 := hi; omega); subst e9; simp [up2, jC]) (fun i hi hp => by first | (exact absurd hi (Nat.not_lt_zero _)) | rfl | (simp [up2, jC])) (fun i hi hp => by first | (exact absurd hi (Nat.not_lt_zero _)) | rfl | (simp [up2, jC])) (fun i hi hp => by first | (exact absurd hi (Nat.not_lt_zero _)) | rfl | (simp [up2, jC])) rfl (fun k hk => jN_o _ _ _ _ _ _ _ _ _ _ _ _ k hk)) k' i' hi' h) (fun H locs hW hS => ?_)
      refine lv_iconst (v := 0) hx hb dX6_init_77 (by decide) ?_
      refine lv_istore_n (lv' := [(1, _), (0, _)]) hx hb dX6_init_78 rfl hl (by decide) rfl (fun ls hl => ?_)
      exact loopB 4 0 (up2 (up2 ax 9 0 q9) 10 0 q10) H locs ls _ _ (by omega) rfl rfl (by simp [up2, hax]) (by simpa [up2] using hW) hS (show lv_has ls 2 [(1, .int 0), (0, .ref ((up2 (up2 ax 9 0 q9) 10 0 q10) 6 0))] by simpa [up2] using hl)
    | succ k ih =>
      intro n ax H locs ls cs sl hn hcs hsl hax hW hS hl
      refine lv_iload_n hx hb dX6_init_29 rfl (lv_at hl 0 rfl) ?_
      refine lv_aload_n hx hb dX6_init_30 rfl (lv_at hl 1 rfl) ?_
      refine gz_get (ci := 6) (C := RX6) (T := TX6) (Nf := 7) hx hb hts hX6 hown hK.1 hW (k := 6) (i := 0) (show 0 < (jN 0 0 n 0 1 0 0 0 0 0 1 0) 6 from Nat.zero_lt_one) rfl (fs := [.ref (ax 5 0), .ref (ax 12 0), .null, .null, .null, .null, .int 0]) rfl rfl 1 (by decide) (hts (.fieldLink RX6 20 "SharedRegisters" "registers" "[LSharedRegisters$Register;") (by decide +kernel)) (fun _ h9 => h9) (v := .ref (ax 12 0)) rfl dX6_init_31 ?_
      refine gz_len hx hb hK.1 hW (k := 12) (i := 0) (show 0 < 1 from Nat.zero_lt_one) rfl 5 rfl rfl (v := 36) rfl dX6_init_34 ?_
      refine lv_icmp_ge (tgt := 61) hx hb dX6_init_35 (by decide) (fun c_9 => absurd c_9 (show ¬ (36 : Int32) ≤ nI n from nI_ge (b := 36) (by omega) (by decide))) (fun _ => ?_)
      refine lv_aload_n hx hb dX6_init_38 rfl (lv_at hl 1 rfl) ?_
      refine gz_get (ci := 6) (C := RX6) (T := TX6) (Nf := 7) hx hb hts hX6 hown hK.1 hW (k := 6) (i := 0) (show 0 < (jN 0 0 n 0 1 0 0 0 0 0 1 0) 6 from Nat.zero_lt_one) rfl (fs := [.ref (ax 5 0), .ref (ax 12 0), .null, .null, .null, .null, .int 0]) rfl rfl 1 (by decide) (hts (.fieldLink RX6 20 "SharedRegisters" "registers" "[LSharedRegisters$Register;") (by decide +kernel)) (fun _ h9 => h9) (v := .ref (ax 12 0)) rfl dX6_init_39 ?_
      refine lv_iload_n hx hb dX6_init_42 rfl (lv_at hl 0 rfl) ?_
      refine gz_newo 2 (ci := 2) (C := RX2) (T := TX2) (Nf := 3) (fs := [.int 0, .int 0, .null]) (j := n) (show (jN 0 0 n 0 1 0 0 0 0 0 1 0) 2 = n from rfl) hx hb hts hX2 tyX2 tyX2_ok hown (hts (.classLink RX6 18 RX2) (by decide +kernel)) (hts (.instantiable RX2 3) (by decide +kernel)) (hts (.initialized RX2) (by decide +kernel)) hK.1 hW hS hA rfl (fun j hj => by rcases (show j = 0 ∨ j = 1 ∨ j = 2 by omega) with rfl | rfl | rfl <;> rfl) (by subst hcs; show 2 + n + 1 ≤ 356; omega) (by subst hsl; show 39 + 3 * n + 3 ≤ 2806; omega) dX6_init_43 (fun q2 H hW hS => ?_)
      have hW : gw D (gA ad N s.heap.size) (up2 ax 2 n q2) (jN 0 0 (n + 1) 0 1 0 0 0 0 0 1 0) (up2 (jC y ax [.ref (ax 5 0), .ref (ax 12 0), .null, .null, .null, .null, .int 0] [.null, .int 0] n 0) 2 n (.inr (2, [.int 0, .int 0, .null]))) H := gw.shape hW (jN_k _ _ _ _ _ _ _ _ _ _ _ _ _ (by simp [va_up, jN]) (fun k hk => by simp only [va_up]; repeat rw [if_neg (by omega)]; first | exact jN_o _ _ _ _ _ _ _ _ _ _ _ _ _ hk | rfl)) (fun _ _ _ => ⟨rfl, rfl⟩)
      refine lv_dup hx hb dX6_init_46 rfl ?_
      refine lv_aload_n hx hb dX6_init_47 rfl (lv_at hl 1 rfl) ?_
      refine gz_get (ci := 6) (C := RX6) (T := TX6) (Nf := 7) hx hb hts hX6 hown hK.1 hW (k := 6) (i := 0) (show 0 < (jN 0 0 (n + 1) 0 1 0 0 0 0 0 1 0) 6 from Nat.zero_lt_one) (by simp [up2]) (fs := [.ref (ax 5 0), .ref (ax 12 0), .null, .null, .null, .null, .int 0]) (by simp [up2, jC]) rfl 0 (by decide) (hts (.fieldLink RX6 12 "SharedRegisters" "absent" "LSharedRegisters$State;") (by decide +kernel)) (fun _ h9 => h9) (v := .ref (ax 5 0)) rfl dX6_init_48 ?_
      have hm1 := g_Register_init l D y (up2 ax 2 n q2) (jN 0 0 (n + 1) 0 1 0 0 0 0 0 1 0) (up2 (jC y ax [.ref (ax 5 0), .ref (ax 12 0), .null, .null, .null, .null, .int 0] [.null, .int 0] n 0) 2 n (.inr (2, [.int 0, .int 0, .null]))) H.size n (ax 5 0) (show n < n + 1 by omega) (up2_s _ _ _ _)
      rw [up2_s ax 2 n q2] at hm1
      refine gc0 (va_runIN (As := [.ref (ax 5 0)]) (rest := [.ref q2, .int (nI n), .ref (ax 12 0)]) ⟨hx, hb, hml, hown, hts⟩ hm1 ⟨(va_cnB 1 hts gX6_init_X2_init_n24 rfl rfl rfl (hK.2 _ (List.mem_of_getElem? (i := 40) rfl)) (hts (.initialized RX2) (by decide +kernel)) (by decide +kernel) ⟨Nat.le_of_ble_eq_true rfl, Nat.le_of_ble_eq_true rfl⟩), rfl, hts (.instanceMethod yX2_init) (by decide +kernel)⟩ (gPreS hW hK hO (.ref q2 :: [.ref (ax 5 0)])) rfl rfl hl.1 rfl (lv_room (Nat.le_of_ble_eq_true rfl)) dX6_init_51 ⟨by show cs + 1 + 0 ≤ 356; omega, by show sl + 3 + 0 ≤ 2806; omega⟩) hW hS hA (fun ad5 N5 cell5 H locs hu5 hW hS => ?_)
      obtain ⟨rfl, rfl, rfl⟩ := hu5
      refine gz_aast hx hb hK.1 hW hS (k := 12) (i := 0) (kv := 2) (iv := n) (show 0 < 1 from Nat.zero_lt_one) (show n < n + 1 by omega) (by simp [up2]) (by simp [up2]) 5 2 (f := fun j => if j < n then some (ax 2 j) else none) (n := 36) (vs := [.int 0, .int 0, .ref (ax 5 0)]) (by simp [up2, jC]) (by simp [up2]) rfl rfl (vp_in_nI (n := n) (by omega) (by omega)) dX6_init_54 (cell' := (jC y (up2 ax 2 n q2) [.ref (ax 5 0), .ref (ax 12 0), .null, .null, .null, .null, .int 0] [.null, .int 0] (n + 1) 0)) (f' := fun j => if j < n + 1 then some ((up2 ax 2 n q2) 2 j) else none) rfl (fun j => ?_) (fun k' i' hi' h => (jC_k (P := fun k i => k = 12 ∧ i = 0) (fun i hi hp => by first | (exact absurd hi (Nat.not_lt_zero _)) | rfl | (simp [up2, jC])) (fun i hi hp => by first | (exact absurd hi (Nat.not_lt_zero _)) | rfl | (simp [up2, jC])) (fun i hi hp => by by_cases e1 : i = n; (subst e1; simp [jC, up2]); (simp [jC, up2, e1])) (fun i hi hp => by first | (exact absurd hi (Nat.not_lt_zero _)) | rfl | (simp [up2, jC])) (fun i hi hp => by first | (exact absurd hi (Nat.not_lt_zero _)) | rfl | (simp [up2, jC])) (fun i hi hp => by first | (exact absurd hi (Nat.not_lt_zero _)) | rfl | (simp [up2, jC])) (fun i hi hp => by first | (exact absurd hi (Nat.not_lt_zero _)) | rfl | (simp [up2, jC])) (fun i hi hp => by first | (exact absurd hi (Nat.not_lt_zero _)) | rfl | (simp [up2, jC])) (fun i hi hp => by first | (exact absurd hi (Nat.not_lt_zero _)) | rfl | (simp [up2, jC])) (fun i hi hp => by first | (exact absurd hi (Nat.not_lt_zero _)) | rfl | (simp [up2, jC])) (fun i hi hp => by first | (exact absurd hi (Nat.not_lt_zero _)) | rfl | (simp [up2, jC])) (fun i hi hp => by have e9 : i = 0 := (by have h9 : i < 1 := hi; omega); subst e9; exact absurd ⟨rfl, rfl⟩ hp) (fun i hi hp => by first | (exact absurd hi (Nat.not_lt_zero _)) | rfl | (simp [up2, jC])) rfl (fun k hk => jN_o _ _ _ _ _ _ _ _ _ _ _ _ k hk)) k' i' hi' h) (fun H locs hW hS => ?_)
      · rw [nI_clamp (n := n) (by omega), up2_s]
        by_cases e1 : j = n
        · subst e1; rw [if_pos (by omega), if_pos rfl, up2_s]
        · rw [if_neg e1]
          by_cases e2 : j < n
          · rw [if_pos (by omega), if_pos e2, up2_i e1]
          · rw [if_neg (by omega), if_neg e2]
      refine lv_iinc (v := nI (n + 1)) (lv' := [(1, _), (0, _)]) hx hb dX6_init_55 hl (k := 0) rfl (nI_1 n) (by decide) rfl (fun ls hl => ?_)
      refine lv_goto (tgt := 29) hx hb dX6_init_58 (by decide) ?_
      exact ih (n + 1) (up2 ax 2 n q2) H locs ls _ _ (by omega) (by omega) (by omega) (by simp [up2, hax]) (by simpa [up2] using hW) hS (by simpa [up2] using hl)
  refine lv_aload_n hx hb dX6_init_0 rfl (lv_at hl 0 rfl) ?_
  refine W.objInit hx hb hown (hts (.methodLink RX6 1 objectInit) (by decide +kernel)) (hts (.instanceMethod objectInit) (by decide +kernel)) (hts (.code objectInit ⟨#[0xb1]⟩ 1 none) (by decide +kernel)) rfl (by rw [hml]; exact hl.1) rfl dX6_init_1 (Nat.le_of_ble_eq_true rfl) (Nat.le_of_ble_eq_true rfl) ?_
  refine W.eq (g2 := F0 m 4 ls []) rfl ?_
  have hW : gw D (gA ad N s.heap.size) ad (jN 0 0 0 0 0 0 0 0 0 0 0 0) (jC y ad [.null, .null, .null, .null, .null, .null, .int 0] [.null, .int 0] 0 0) s.heap := gw.shape hW (jN_k _ _ _ _ _ _ _ _ _ _ _ _ _ (by subst hN; simp) (fun k hk => by subst hN; exact if_neg (by omega))) (fun k i hi => ⟨rfl, (by subst hN; by_cases g : k = 6; (subst g; have e9 : i = 0 := (by have h9 : i < 1 := hi; omega); subst e9; rw [hc]; rfl); (simp [g] at hi))⟩)
  refine lv_aload_n hx hb dX6_init_4 rfl (lv_at hl 0 rfl) ?_
  refine gz_newo 5 (ci := 5) (C := RX5) (T := TX5) (Nf := 3) (fs := [.int 0, .int 0, .long 0]) (j := 0) (show (jN 0 0 0 0 0 0 0 0 0 0 0 0) 5 = 0 from rfl) hx hb hts hX5 tyX5 tyX5_ok hown (hts (.classLink RX6 7 RX5) (by decide +kernel)) (hts (.instantiable RX5 3) (by decide +kernel)) (hts (.initialized RX5) (by decide +kernel)) hK.1 hW hS hA rfl (fun j hj => by rcases (show j = 0 ∨ j = 1 ∨ j = 2 by omega) with rfl | rfl | rfl <;> rfl) (Nat.le_of_ble_eq_true rfl) (Nat.le_of_ble_eq_true rfl) dX6_init_5 (fun q5 H hW hS => ?_)
  have hW : gw D (gA ad N s.heap.size) (up2 ad 5 0 q5) (jN 0 0 0 0 1 0 0 0 0 0 0 0) (up2 (jC y ad [.null, .null, .null, .null, .null, .null, .int 0] [.null, .int 0] 0 0) 5 0 (.inr (5, [.int 0, .int 0, .long 0]))) H := gw.shape hW (jN_k _ _ _ _ _ _ _ _ _ _ _ _ _ (by simp [va_up, jN]) (fun k hk => by simp only [va_up]; repeat rw [if_neg (by omega)]; first | exact jN_o _ _ _ _ _ _ _ _ _ _ _ _ _ hk | rfl)) (fun _ _ _ => ⟨rfl, rfl⟩)
  refine lv_dup hx hb dX6_init_8 rfl ?_
  refine lv_iconst (v := 0) hx hb dX6_init_9 (by decide) ?_
  refine lv_iconst (v := 0) hx hb dX6_init_10 (by decide) ?_
  refine lv_lconst (v := 0) hx hb dX6_init_11 (by decide) ?_
  have hm1 := g_State_init l D y (up2 ad 5 0 q5) (jN 0 0 0 0 1 0 0 0 0 0 0 0) (up2 (jC y ad [.null, .null, .null, .null, .null, .null, .int 0] [.null, .int 0] 0 0) 5 0 (.inr (5, [.int 0, .int 0, .long 0]))) H.size (show 0 < 1 from Nat.zero_lt_one) (up2_s _ _ _ _)
  rw [up2_s ad 5 0 q5] at hm1
  refine gc0 (va_runIN (As := [.int 0, .int 0, .long 0]) (rest := [.ref q5, .ref (ad 6 0)]) ⟨hx, hb, hml, hown, hts⟩ hm1 ⟨(va_cnB 3 hts gX6_init_X5_init_n9 rfl rfl rfl (hK.2 _ (List.mem_of_getElem? (i := 39) rfl)) (hts (.initialized RX5) (by decide +kernel)) (by decide +kernel) ⟨Nat.le_of_ble_eq_true rfl, Nat.le_of_ble_eq_true rfl⟩), rfl, hts (.instanceMethod yX5_init) (by decide +kernel)⟩ (gPreS hW hK hO (.ref q5 :: [.int 0, .int 0, .long 0])) rfl rfl hl.1 rfl (lv_room (Nat.le_of_ble_eq_true rfl)) dX6_init_12 ⟨Nat.le_of_ble_eq_true rfl, Nat.le_of_ble_eq_true rfl⟩) hW hS hA (fun ad5 N5 cell5 H locs hu5 hW hS => ?_)
  obtain ⟨rfl, rfl, rfl⟩ := hu5
  refine gz_putF (ci := 6) (C := RX6) (T := TX6) (Nf := 7) hx hb hts hX6 tyX6 tyX6_ok nmX6 hown hK.1 hW hS (k := 6) (i := 0) (show 0 < (jN 0 0 0 0 1 0 0 0 0 0 0 0) 6 from Nat.zero_lt_one) (by simp [up2]) (fs := [.null, .null, .null, .null, .null, .null, .int 0]) (by simp [up2, jC]) rfl 0 (by decide) (hts (.fieldLink RX6 12 "SharedRegisters" "absent" "LSharedRegisters$State;") (by decide +kernel)) (fun _ h9 => h9) rfl hin rfl (ty := .object "SharedRegisters$State") (v := .ref q5) (by decide +kernel) rfl rfl (Nat.le_of_ble_eq_true rfl) dX6_init_15 (cell' := (jC y (up2 ad 5 0 q5) [.ref q5, .null, .null, .null, .null, .null, .int 0] [.null, .int 0] 0 0)) (by simp [up2, jC]) (fun k' i' hi' h => (jC_k (P := fun k i => k = 6 ∧ i = 0) (fun i hi hp => by first | (exact absurd hi (Nat.not_lt_zero _)) | rfl | (simp [up2, jC])) (fun i hi hp => by first | (exact absurd hi (Nat.not_lt_zero _)) | rfl | (simp [up2, jC])) (fun i hi hp => by first | (exact absurd hi (Nat.not_lt_zero _)) | rfl | (simp [up2, jC])) (fun i hi hp => by first | (exact absurd hi (Nat.not_lt_zero _)) | rfl | (simp [up2, jC])) (fun i hi hp => by have e9 : i = 0 := (by have h9 : i < 1 := hi; omega); subst e9; simp [up2, jC]) (fun i hi hp => by have e9 : i = 0 := (by have h9 : i < 1 := hi; omega); subst e9; exact absurd ⟨rfl, rfl⟩ hp) (fun i hi hp => by first | (exact absurd hi (Nat.not_lt_zero _)) | rfl | (simp [up2, jC])) (fun i hi hp => by first | (exact absurd hi (Nat.not_lt_zero _)) | rfl | (simp [up2, jC])) (fun i hi hp => by first | (exact absurd hi (Nat.not_lt_zero _)) | rfl | (simp [up2, jC])) (fun i hi hp => by first | (exact absurd hi (Nat.not_lt_zero _)) | rfl | (simp [up2, jC])) (fun i hi hp => by first | (exact absurd hi (Nat.not_lt_zero _)) | rfl | (simp [up2, jC])) (fun i hi hp => by first | (exact absurd hi (Nat.not_lt_zero _)) | rfl | (simp [up2, jC])) (fun i hi hp => by first | (exact absurd hi (Nat.not_lt_zero _)) | rfl | (simp [up2, jC])) rfl (fun k hk => jN_o _ _ _ _ _ _ _ _ _ _ _ _ k hk)) k' i' hi' h) (fun H locs hW hS => ?_)
  refine lv_aload_n hx hb dX6_init_18 rfl (lv_at hl 0 rfl) ?_
  refine lv_bipush (v := 36) hx hb dX6_init_19 (by decide) ?_
  refine gz_newq 12 (t0 := 5) (j := 0) (show (jN 0 0 0 0 1 0 0 0 0 0 0 0) 12 = 0 from rfl) hx hb hown (hts (.classLink RX6 18 RX2) (by decide +kernel)) (hO RX2 (by decide)).use hK.1 rfl hW hS hA (show ¬ (36 : Int32) < 0 by decide) (N' := 36) rfl (by decide) (Nat.le_of_ble_eq_true rfl) (Nat.le_of_ble_eq_true rfl) dX6_init_21 (fun q12 H hW hS => ?_)
  have hW : gw D (gA ad N s.heap.size) (up2 (up2 ad 5 0 q5) 12 0 q12) (jN 0 0 0 0 1 0 0 0 0 0 1 0) (up2 (jC y (up2 ad 5 0 q5) [.ref q5, .null, .null, .null, .null, .null, .int 0] [.null, .int 0] 0 0) 12 0 (.inl (y 5, 36, .inr (.inr (.inr (.inr (fun _ => none))))))) H := gw.shape hW (jN_k _ _ _ _ _ _ _ _ _ _ _ _ _ (by simp [va_up, jN]) (fun k hk => by simp only [va_up]; repeat rw [if_neg (by omega)]; first | exact jN_o _ _ _ _ _ _ _ _ _ _ _ _ _ hk | rfl)) (fun _ _ _ => ⟨rfl, rfl⟩)
  refine gz_putF (ci := 6) (C := RX6) (T := TX6) (Nf := 7) hx hb hts hX6 tyX6 tyX6_ok nmX6 hown hK.1 hW hS (k := 6) (i := 0) (show 0 < (jN 0 0 0 0 1 0 0 0 0 0 1 0) 6 from Nat.zero_lt_one) (by simp [up2]) (fs := [.ref q5, .null, .null, .null, .null, .null, .int 0]) (by simp [up2, jC]) rfl 1 (by decide) (hts (.fieldLink RX6 20 "SharedRegisters" "registers" "[LSharedRegisters$Register;") (by decide +kernel)) (fun _ h9 => h9) rfl hin rfl (ty := .array (.object RX2)) (v := .ref q12) (by decide +kernel) rfl rfl (Nat.le_of_ble_eq_true rfl) dX6_init_24 (cell' := (jC y (up2 (up2 ad 5 0 q5) 12 0 q12) [.ref q5, .ref q12, .null, .null, .null, .null, .int 0] [.null, .int 0] 0 0)) (by simp [up2, jC]) (fun k' i' hi' h => (jC_k (P := fun k i => k = 6 ∧ i = 0) (fun i hi hp => by first | (exact absurd hi (Nat.not_lt_zero _)) | rfl | (simp [up2, jC])) (fun i hi hp => by first | (exact absurd hi (Nat.not_lt_zero _)) | rfl | (simp [up2, jC])) (fun i hi hp => by first | (exact absurd hi (Nat.not_lt_zero _)) | rfl | (simp [up2, jC])) (fun i hi hp => by first | (exact absurd hi (Nat.not_lt_zero _)) | rfl | (simp [up2, jC])) (fun i hi hp => by simp [up2, jC]) (fun i hi hp => by have e9 : i = 0 := (by have h9 : i < 1 := hi; omega); subst e9; exact absurd ⟨rfl, rfl⟩ hp) (fun i hi hp => by first | (exact absurd hi (Nat.not_lt_zero _)) | rfl | (simp [up2, jC])) (fun i hi hp => by first | (exact absurd hi (Nat.not_lt_zero _)) | rfl | (simp [up2, jC])) (fun i hi hp => by first | (exact absurd hi (Nat.not_lt_zero _)) | rfl | (simp [up2, jC])) (fun i hi hp => by first | (exact absurd hi (Nat.not_lt_zero _)) | rfl | (simp [up2, jC])) (fun i hi hp => by first | (exact absurd hi (Nat.not_lt_zero _)) | rfl | (simp [up2, jC])) (fun i hi hp => by have e9 : i = 0 := (by have h9 : i < 1 := hi; omega); subst e9; simp [up2, jC]) (fun i hi hp => by first | (exact absurd hi (Nat.not_lt_zero _)) | rfl | (simp [up2, jC])) rfl (fun k hk => jN_o _ _ _ _ _ _ _ _ _ _ _ _ k hk)) k' i' hi' h) (fun H locs hW hS => ?_)
  refine lv_iconst (v := 0) hx hb dX6_init_27 (by decide) ?_
  refine lv_istore_n (lv' := [(1, _), (0, _)]) hx hb dX6_init_28 rfl hl (by decide) rfl (fun ls hl => ?_)
  exact loopA 36 0 (up2 (up2 ad 5 0 q5) 12 0 q12) H locs ls _ _ (by omega) rfl rfl (by simp [up2]) (by simpa [up2] using hW) hS (show lv_has ls 2 [(1, .int 0), (0, .ref ((up2 (up2 ad 5 0 q5) 12 0 q12) 6 0))] by simpa [up2] using hl)
