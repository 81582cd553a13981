section LFR
variable {p : Program} {l : Launch} {e : Env} {R : Room} {s : State} {m : MethodId} {args : Array Value} {below : List Frame} {meth : Method} {c : Code} {H : Heap} {locs : List Loc} {cells slots : Nat} {Q : State → Prop}
variable {cc : ByteArray} {pc : Nat} {ls : Array Slot} {rest st0 : List Value} {D : va_G} {A : Nat → Prop} {y : Nat → ClassId} {ad : Nat → Nat → Nat} {N : Nat → Nat} {cell : Nat → Nat → va_E} {H0 : Heap} {mc ms : Nat} {a : Array Value}
theorem gF_new (K : Nat) (hexec : p.tables.exec = Jvm.exec) (hb : c.code = cc) {own C : String} {T : u_T} {Nf ci index : Nat} {Ts : List Cond} (hts : ∀ w ∈ Ts, w.before args s = true) (hin : ∀ w ∈ u_ws C T Nf, w ∈ Ts) (ty : Nat → FieldType) (hty : ∀ k, k < Nf → parseFieldDescriptor (T k).2.2.1 = some (ty k)) (hown : s.vm.findClass own = some m.cls) (hcl : (Cond.classLink own index C).before args s = true) (hinst : (Cond.instantiable C Nf).before args s = true) (hini : (Cond.initialized C).before args s = true)
    (hK : va_K D vwCl (ctys y) s) (hS : va_S A H0 H locs) (hA : ∀ q, H0.size ≤ q → A q) (hc : vwCl[ci]? = some (C, T, Nf)) {fs : List Value} (hfs : ∀ j, j < Nf → defaultValue (ty j) = vp_V fs j) (hcells : cells + 1 ≤ R.cells) (hslots : slots + Nf ≤ R.slots) (hdg : decode cc pc = .ok (.new index, 3))
    (kk : ∀ (H1 : Heap), (∀ q : Nat, q < H.size → H1[q]? = H[q]?) → gw D A (fun _ _ => H.size) (fun k => if k = K then 1 else 0) (fun _ _ => .inr (ci, fs)) H1 → va_S A H0 H1 locs → W p l e R s m args below meth c H1 locs (cells + 1) (slots + Nf) Q (F0 m (pc + 3) ls (.ref H.size :: rest))) : W p l e R s m args below meth c H locs cells slots Q (F0 m pc ls rest) := by
  have hKn := hK.1 ci _ hc
  refine W.newcK hexec hb hown hcl hinst hini rfl hdg hcells hslots hKn.2.1 rfl fun H1 kC hkC e1 z1 o1 => ?_
  refine kk H1 o1 ⟨fun k i hi => ?_, fun k i k' i' h1 h2 _ => ?_⟩ ⟨Nat.le_trans hS.1 (by omega), fun x h1 h2 => (o1 x (Nat.lt_of_lt_of_le h1 hS.1)).trans (hS.2.1 x h1 h2), hS.2.2⟩
  · exact ⟨⟨_, hc, (u_born ty hts hin hKn hkC e1 hty).to hfs⟩, hA _ hS.1⟩
  · by_cases g : k = K
    · by_cases g' : k' = K
      · simp only [if_pos g] at h1; simp only [if_pos g'] at h2
        exact ⟨g.trans g'.symm, by omega⟩
      · simp [g'] at h2
    · simp [g] at h1
theorem gF_newJ (hexec : p.tables.exec = Jvm.exec) (hb : c.code = cc) (harr : (Cond.arrayClass .long).before args s = true) (hK : va_K D vwCl (ctys y) s) (hS : va_S A H0 H locs) (hcells : cells + 1 ≤ R.cells) (hslots : slots + 1 ≤ R.slots) (hdg : decode cc pc = .ok (.newarray .long, 2))
    (kk : ∀ (H1 : Heap), (∀ q : Nat, q < H.size → H1[q]? = H[q]?) → va_at D vwCl (H.size, oE y (fun _ => 0)) H1 → va_S A H0 H1 locs → W p l e R s m args below meth c H1 locs (cells + 1) (slots + 1) Q (F0 m (pc + 2) ls (.ref H.size :: rest))) : W p l e R s m args below meth c H locs cells slots Q (F0 m pc ls (.int 1 :: rest)) := by
  refine va_newaK (atype := .long) (N := 1) hexec hb harr rfl hdg rfl (by decide) rfl (by decide) hcells hslots rfl fun H1 cA' e1 z1 o1 hAr hNm => ?_
  have h2 := (hK.2 1 _ rfl).2
  rw [ra_lon] at h2
  have : cA' = y 1 := Option.some.inj (hNm.symm.trans h2)
  subst this
  refine kk H1 o1 ?_ ⟨Nat.le_trans hS.1 (by omega), fun x h1 h2 => (o1 x (Nat.lt_of_lt_of_le h1 hS.1)).trans (hS.2.1 x h1 h2), hS.2.2⟩
  show H1[H.size]? = some (vp_cell (y 1) (1, .inr (.inl (fun _ => 0))))
  rw [ha_lon]; exact e1
theorem gc0F {post : (Nat → Nat → Nat) → (Nat → Nat) → (Nat → Nat → va_E) → Prop} (hr : va_Run p l e R s m args below meth c H locs cells slots mc ms (F0 m pc ls st0) rest (gQ0 D ad N H.size post a) (gA ad N H.size)) (hW : gw D A ad N cell H) (hS : va_S A H0 H locs) (hA : ∀ q, H0.size ≤ q → A q)
    (kk : ∀ (ad' : Nat → Nat → Nat) (N' : Nat → Nat) (cell' : Nat → Nat → va_E) (H1 : Heap) (locs1 : List Loc), post ad' N' cell' → gw D A ad' N' cell' H1 → (∀ k i, i < N' k → gA ad N H.size (ad' k i)) → (∀ q, q < H.size → ¬ gA ad N H.size q → H1[q]? = H[q]?) → va_S A H0 H1 locs1 → W p l e R s m args below meth c H1 locs1 (cells + mc) (slots + ms) Q (F0 m (pc + 3) ls rest)) : W p l e R s m args below meth c H locs cells slots Q (F0 m pc ls st0) := by
  intro T hT X
  obtain ⟨v0, st₀, t, T', L, h0, X', hL, e1, e2, ⟨⟨ad', N', cell', hv, hp, hb⟩, hz, hk⟩, st⟩ := hr T hT X
  cases hv
  rw [h0] at hz hk
  have hF := hW.free hS hA
  obtain ⟨t2, a1, b1⟩ := kk ad' N' cell' T'.heap (locs ++ L) hp (by rw [e1]; exact hb.weaken hF) (fun k i hi => gw.inA hb hi) (fun q h1 h2 => by rw [e1]; exact hk q h1 h2)
    ⟨Nat.le_trans hS.1 (by rw [e1]; exact hz), fun q h1 h2 => by rw [e1, hk q (Nat.lt_of_lt_of_le h1 hS.1) (fun z9 => h2 (hF q z9))]; exact hS.2.1 q h1 h2, fun q hq => by
      rcases List.mem_append.mp hq with h | h
      · exact hS.2.2 q h
      · exact hF _ (hL q h)⟩ T' rfl X'
  exact ⟨t2, st t2 a1, b1⟩
end LFR
theorem lsub_t {L k : Nat} (hL : L ≤ 3072) (hk : k ≤ 4000) (h : L < k + 6) : Int32.ofNat L - 6 < nI k := by
  by_cases h6 : 6 ≤ L
  · obtain ⟨a, rfl⟩ : ∃ a, L = a + 6 := ⟨L - 6, by omega⟩
    rw [show Int32.ofNat (a + 6) - 6 = nI a from by rw [show Int32.ofNat (a + 6) = nI a + 6 from (nI_add a 6).symm]; exact Int32.add_sub_cancel _ _]
    exact nI_lt (by omega) (by omega)
  · have h0 : Int32.ofNat L - 6 < 0 := by
      rcases (show L = 0 ∨ L = 1 ∨ L = 2 ∨ L = 3 ∨ L = 4 ∨ L = 5 by omega) with rfl | rfl | rfl | rfl | rfl | rfl <;> decide
    exact Int32.lt_of_lt_of_le h0 (nI_pos' (by omega))
theorem lsub_f {L k : Nat} (hL : L ≤ 3072) (h : k + 6 ≤ L) : ¬ Int32.ofNat L - 6 < nI k := by
  obtain ⟨a, rfl⟩ : ∃ a, L = a + 6 := ⟨L - 6, by omega⟩
  rw [show Int32.ofNat (a + 6) - 6 = nI a from by rw [show Int32.ofNat (a + 6) = nI a + 6 from (nI_add a 6).symm]; exact Int32.add_sub_cancel _ _]
  exact nI_nlt (by omega) (by omega)
def R_law : String := "SharedRegistersLaw"
def lw_P (b : Addr) (xs : List Int32) (args : Array Value) (s : State) : Prop := args = #[.ref b] ∧ s.IntsAt b xs ∧ xs.length ≤ 3072 ∧ (Jvm.Cond.and given_1 narrow_1).before args s = true
def lw_Q (_ : Array Value) (s : State) (o : Outcome) (t : State) : Prop := o = .returned (some (.int 1)) ∧ Framed s o t [] 601024 7293034
def lw_Z (below : List Frame) (a : Array Value) (s : State) : State → Prop := fun t => ∃ o, t.status = .running ∧ Ended t below o ∧ lw_Q a s o t
/-- the law's own end, with 1 on the stack, nothing written that was there before, its room as the claim has it -/
theorem lw_ret {p : Program} {l : Launch} {e : Env} {s : State} {m : MethodId} {below : List Frame} {meth : Method} {c : Code} {b : Nat} (hx : p.tables.exec = Jvm.exec) (hb : c.code = code) (hr : meth.sig.returnType = ret) (hlocks : meth.locks = false) {pc : Nat} {H : Heap} {ls : Array Slot} (hdg : decode code pc = .ok (.ireturn, 1)) : W p l e room_1 s m #[Value.ref b] below meth c H [] 601024 7293034 (lw_Z below #[Value.ref b] s) (F0 m pc ls [.int 1]) := by
  intro T hT X
  obtain ⟨fs, hret, hrun, hended, hW, hframe⟩ := X.leave (v := some (.int 1)) (hlocks := hlocks) (fun h => by rw [hr] at h; cases h)
  have hmeth' : T.vm.method? m = some meth := X.method'
  refine ⟨T.setFrames fs, ?_, .returned (some (.int 1)), hrun, hended, rfl, ⟨_, rfl⟩, hW, hframe⟩
  jvm_step X.here [X.here.top, hx, hb, hdg, hmeth', hr, ret, narrow_b1]
  (try refine ⟨rfl, ?_⟩); (try refine ⟨rfl, ?_⟩)
  first | (intro acts; rw [hret _ acts rfl rfl rfl]) | rw [hret _ _ rfl rfl rfl]
  exact Steps.refl _
/-- what holds at the law's entry: the machine, the code, the tables' words (any of lw_tbl by 'hts w (by decide +kernel)'), the script of L ints xs at the cell b, what the Statement gives of the start (any of its parts by flat_of_before) -/
def lw_At (p : Program) (s : State) (m : MethodId) (meth : Method) (c : Code) (b L : Nat) (xs : Nat → Int32) : Prop :=
  p.tables.exec = Jvm.exec ∧ c.code = code ∧ meth.sig.returnType = ret ∧ c.maxLocals = 8 ∧ s.vm.findClass R_law = some m.cls ∧ (∀ w ∈ lw_tbl, w.before #[Value.ref b] s = true) ∧ va_X b L xs s s.heap ∧ b < s.heap.size ∧ meth.locks = false ∧ (Jvm.Cond.and given_1 narrow_1).before #[Value.ref b] s = true
set_option maxHeartbeats 4000000 in
set_option maxRecDepth 100000 in
theorem lk_loop {p : Program} {l : Launch} {e : Env} {s : State} {m : MethodId} {below : List Frame} {meth : Method} {c : Code} {b L : Nat} {xs : Nat → Int32} {D : va_G} {y : Nat → ClassId} (C : LX p l s m c b L xs D y) (hr : meth.sig.returnType = ret) (hlocks : meth.locks = false) {qo : Nat} : ∀ (k j cs sl : Nat), L < 6 * (j + k) + 6 → j ≤ 513 → cs = 395 + 1001 * j → sl = 7318 + 3006 * j → LKK p l e s m below meth c b D y (lw_Z below #[Value.ref b] s) qo j cs sl := by
  obtain ⟨hx, hb, hml, hown, hts, hX, hbl, h3072, hK, hZ, hN, hl0⟩ := id C
  have hbA : ¬ lA s b := Nat.not_le.mpr hbl
  intro k
  induction k with
  | zero =>
    intro j cs sl hjk hj5 hcs hsl z t n f H locs ls hR hL hS hl
    refine lv_iload hx hb dL_law_23 (lv_at hl 0 rfl) ?_
    refine lv_aload_n hx hb dL_law_25 rfl (lv_at hl 1 rfl) ?_
    refine va_slen hx hb hX hbl hbA hS dL_law_26 ?_
    refine lv_bipush (v := 6) hx hb dL_law_27 (by decide) ?_
    refine lv_isub hx hb dL_law_29 ?_
    refine lv_icmp_gt (tgt := 1180) hx hb dL_law_30 (by decide) (fun _ => ?_) (fun h9 => absurd (lsub_t h3072 (by omega) (by omega)) h9)
    refine va_forget (fun q hq => hS.2.2 q hq) ?_
    refine W.widen (k := 601024) (n := 7293034) (by omega) (by omega) ?_
    refine lv_iconst (v := 1) hx hb dL_law_1180 (by decide) ?_
    exact lw_ret hx hb hr hlocks dL_law_1181
  | succ k ih =>
    intro j cs sl hjk hj5 hcs hsl z t n f H locs ls hR hL hS hl
    refine lv_iload hx hb dL_law_23 (lv_at hl 0 rfl) ?_
    refine lv_aload_n hx hb dL_law_25 rfl (lv_at hl 1 rfl) ?_
    refine va_slen hx hb hX hbl hbA hS dL_law_26 ?_
    refine lv_bipush (v := 6) hx hb dL_law_27 (by decide) ?_
    refine lv_isub hx hb dL_law_29 ?_
    by_cases hj : 6 * j + 6 ≤ L
    · refine lv_icmp_gt (tgt := 1180) hx hb dL_law_30 (by decide) (fun h9 => absurd h9 (lsub_f h3072 hj)) (fun _ => ?_)
      refine lv_aload_n hx hb dL_law_33 rfl (lv_at hl 1 rfl) ?_
      refine lv_iload hx hb dL_law_34 (lv_at hl 0 rfl) ?_
      refine s_ld (k := 6 * j) hx hb hX hbl hbA hS rfl (by omega) h3072 dL_law_36 ?_
      refine lv_bipush (v := 15) hx hb dL_law_37 (by decide) ?_
      refine lv_iand hx hb dL_law_39 ?_
      obtain ⟨v9, hv16, hv9⟩ := and15k (xs (6 * j))
      rw [hv9]
      have hk9 := ih (j + 1) (cs + 1001) (sl + 3006) (by omega) (by omega) (by omega) (by omega)
      rcases (show v9 = 0 ∨ v9 = 1 ∨ v9 = 2 ∨ v9 = 3 ∨ v9 = 4 ∨ v9 = 5 ∨ v9 = 6 ∨ v9 = 7 ∨ v9 = 8 ∨ v9 = 9 ∨ v9 = 10 ∨ v9 = 11 ∨ v9 = 12 ∨ v9 = 13 ∨ v9 = 14 ∨ v9 = 15 by omega) with rfl | rfl | rfl | rfl | rfl | rfl | rfl | rfl | rfl | rfl | rfl | rfl | rfl | rfl | rfl | rfl
      · exact lv_tableIn (off := 80) (tgt := 120) hx hb dL_law_40 (by decide +kernel) (by decide +kernel) (by decide +kernel) (by decide) (lk_ask C hR hL hS hj (by omega) (by omega) hl hk9)
      · exact lv_tableIn (off := 204) (tgt := 244) hx hb dL_law_40 (by decide +kernel) (by decide +kernel) (by decide +kernel) (by decide) (lk_give C hR hL hS hj (by omega) (by omega) hl hk9)
      · exact lv_tableIn (off := 260) (tgt := 300) hx hb dL_law_40 (by decide +kernel) (by decide +kernel) (by decide +kernel) (by decide) (lk_plan C hR hL hS hj (by omega) (by omega) hl hk9)
      · exact lv_tableIn (off := 332) (tgt := 372) hx hb dL_law_40 (by decide +kernel) (by decide +kernel) (by decide +kernel) (by decide) (lk_take C hR hL hS hj (by omega) (by omega) hl hk9)
      · exact lv_tableIn (off := 388) (tgt := 428) hx hb dL_law_40 (by decide +kernel) (by decide +kernel) (by decide +kernel) (by decide) (lk_run C hR hL hS hj (by omega) (by omega) hl hk9)
      · exact lv_tableIn (off := 444) (tgt := 484) hx hb dL_law_40 (by decide +kernel) (by decide +kernel) (by decide +kernel) (by decide) (lk_lose C hR hL hS hj (by omega) (by omega) hl hk9)
      · exact lv_tableIn (off := 500) (tgt := 540) hx hb dL_law_40 (by decide +kernel) (by decide +kernel) (by decide +kernel) (by decide) (lk_twice C hR hL hS hj (by omega) (by omega) hl hk9)
      · exact lv_tableIn (off := 556) (tgt := 596) hx hb dL_law_40 (by decide +kernel) (by decide +kernel) (by decide +kernel) (by decide) (lk_down C hR hL hS hj (by omega) (by omega) hl hk9)
      · exact lv_tableIn (off := 647) (tgt := 687) hx hb dL_law_40 (by decide +kernel) (by decide +kernel) (by decide +kernel) (by decide) (lk_copy C hR hL hS hj (by omega) (by omega) hl hk9)
      · exact lv_tableIn (off := 715) (tgt := 755) hx hb dL_law_40 (by decide +kernel) (by decide +kernel) (by decide +kernel) (by decide) (lk_messages C hR hL hS hj (by omega) (by omega) hl hk9)
      · exact lv_tableIn (off := 728) (tgt := 768) hx hb dL_law_40 (by decide +kernel) (by decide +kernel) (by decide +kernel) (by decide) (lk_message C hR hL hS hj (by omega) (by omega) hl hk9)
      · exact lv_tableIn (off := 796) (tgt := 836) hx hb dL_law_40 (by decide +kernel) (by decide +kernel) (by decide +kernel) (by decide) (lk_keeper C hR hL hS hj (by omega) (by omega) hl hk9)
      · exact lv_tableIn (off := 876) (tgt := 916) hx hb dL_law_40 (by decide +kernel) (by decide +kernel) (by decide +kernel) (by decide) (lk_kept C hR hL hS hj (by omega) (by omega) hl hk9)
      · exact lv_tableIn (off := 943) (tgt := 983) hx hb dL_law_40 (by decide +kernel) (by decide +kernel) (by decide +kernel) (by decide) (lk_asker C hR hL hS hj (by omega) (by omega) hl hk9)
      · exact lv_tableIn (off := 1011) (tgt := 1051) hx hb dL_law_40 (by decide +kernel) (by decide +kernel) (by decide +kernel) (by decide) (lk_request C hR hL hS hj (by omega) (by omega) hl hk9)
      · exact lv_tableIn (off := 1079) (tgt := 1119) hx hb dL_law_40 (by decide +kernel) (by decide +kernel) (by decide +kernel) (by decide) (lk_result C hR hL hS hj (by omega) (by omega) hl hk9)
    · refine lv_icmp_gt (tgt := 1180) hx hb dL_law_30 (by decide) (fun _ => ?_) (fun h9 => absurd (lsub_t h3072 (by omega) (by omega)) h9)
      refine va_forget (fun q hq => hS.2.2 q hq) ?_
      refine W.widen (k := 601024) (n := 7293034) (by omega) (by omega) ?_
      refine lv_iconst (v := 1) hx hb dL_law_1180 (by decide) ?_
      exact lw_ret hx hb hr hlocks dL_law_1181
