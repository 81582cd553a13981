section
-- ===== PART A: goes FIRST, ahead of the names: the tables' words, and 'selects' of the private methods out of them =====
/-- a private method of a class that the tables say can be made, by its rows of tables_1 -/
def lw_okq (q : MethodName × Nat) : Prop := (q.1.cls ≠ "java/lang/invoke/MethodHandle" ∧ q.1.cls ≠ "java/lang/invoke/VarHandle") ∧ Cond.instantiable q.1.cls q.2 ∈ tables_1 ∧ Cond.privateMethod q.1 ∈ tables_1 ∧ Cond.instanceMethod q.1 ∈ tables_1
theorem lw_p0 : lw_okq (⟨"java/lang/Throwable", "fillInStackTrace", "(I)Ljava/lang/Throwable;"⟩, 6) := ⟨⟨by decide +kernel, by decide +kernel⟩, List.mem_of_getElem? (i := 224) (by decide +kernel), List.mem_of_getElem? (i := 222) (by decide +kernel), List.mem_of_getElem? (i := 223) (by decide +kernel)⟩
theorem lw_p1 : lw_okq (⟨"SharedRegisters", "sendToSet", "(ILSharedRegisters$Request;ILSharedRegisters$State;)V"⟩, 7) := ⟨⟨by decide +kernel, by decide +kernel⟩, List.mem_of_getElem? (i := 17) (by decide +kernel), List.mem_of_getElem? (i := 335) (by decide +kernel), List.mem_of_getElem? (i := 336) (by decide +kernel)⟩
theorem lw_p2 : lw_okq (⟨"SharedRegisters$Row", "send", "(IIIIIILSharedRegisters$State;)V"⟩, 2) := ⟨⟨by decide +kernel, by decide +kernel⟩, List.mem_of_getElem? (i := 97) (by decide +kernel), List.mem_of_getElem? (i := 339) (by decide +kernel), List.mem_of_getElem? (i := 340) (by decide +kernel)⟩
theorem lw_p3 : lw_okq (⟨"SharedRegisters", "deliver", "(I)I"⟩, 7) := ⟨⟨by decide +kernel, by decide +kernel⟩, List.mem_of_getElem? (i := 17) (by decide +kernel), List.mem_of_getElem? (i := 373) (by decide +kernel), List.mem_of_getElem? (i := 374) (by decide +kernel)⟩
theorem lw_p4 : lw_okq (⟨"SharedRegisters$Row", "drawOut", "(I)LSharedRegisters$Message;"⟩, 2) := ⟨⟨by decide +kernel, by decide +kernel⟩, List.mem_of_getElem? (i := 97) (by decide +kernel), List.mem_of_getElem? (i := 377) (by decide +kernel), List.mem_of_getElem? (i := 378) (by decide +kernel)⟩
theorem lw_p5 : lw_okq (⟨"SharedRegisters", "takePrepare", "(LSharedRegisters$Message;)V"⟩, 7) := ⟨⟨by decide +kernel, by decide +kernel⟩, List.mem_of_getElem? (i := 17) (by decide +kernel), List.mem_of_getElem? (i := 381) (by decide +kernel), List.mem_of_getElem? (i := 382) (by decide +kernel)⟩
theorem lw_p6 : lw_okq (⟨"SharedRegisters", "registerOf", "(II)LSharedRegisters$Register;"⟩, 7) := ⟨⟨by decide +kernel, by decide +kernel⟩, List.mem_of_getElem? (i := 17) (by decide +kernel), List.mem_of_getElem? (i := 385) (by decide +kernel), List.mem_of_getElem? (i := 386) (by decide +kernel)⟩
theorem lw_p7 : lw_okq (⟨"SharedRegisters$Register", "greaterBallot", "()I"⟩, 3) := ⟨⟨by decide +kernel, by decide +kernel⟩, List.mem_of_getElem? (i := 43) (by decide +kernel), List.mem_of_getElem? (i := 389) (by decide +kernel), List.mem_of_getElem? (i := 390) (by decide +kernel)⟩
theorem lw_p8 : lw_okq (⟨"SharedRegisters", "sendBack", "(ILSharedRegisters$Message;ILSharedRegisters$State;)V"⟩, 7) := ⟨⟨by decide +kernel, by decide +kernel⟩, List.mem_of_getElem? (i := 17) (by decide +kernel), List.mem_of_getElem? (i := 396) (by decide +kernel), List.mem_of_getElem? (i := 397) (by decide +kernel)⟩
theorem lw_p9 : lw_okq (⟨"SharedRegisters", "takePromised", "(LSharedRegisters$Message;)V"⟩, 7) := ⟨⟨by decide +kernel, by decide +kernel⟩, List.mem_of_getElem? (i := 17) (by decide +kernel), List.mem_of_getElem? (i := 400) (by decide +kernel), List.mem_of_getElem? (i := 401) (by decide +kernel)⟩
theorem lw_p10 : lw_okq (⟨"SharedRegisters", "awaiting", "(LSharedRegisters$Message;Z)LSharedRegisters$Request;"⟩, 7) := ⟨⟨by decide +kernel, by decide +kernel⟩, List.mem_of_getElem? (i := 17) (by decide +kernel), List.mem_of_getElem? (i := 404) (by decide +kernel), List.mem_of_getElem? (i := 405) (by decide +kernel)⟩
theorem lw_p11 : lw_okq (⟨"SharedRegisters$Request", "hasAnswer", "(I)Z"⟩, 15) := ⟨⟨by decide +kernel, by decide +kernel⟩, List.mem_of_getElem? (i := 272) (by decide +kernel), List.mem_of_getElem? (i := 408) (by decide +kernel), List.mem_of_getElem? (i := 409) (by decide +kernel)⟩
theorem lw_p12 : lw_okq (⟨"SharedRegisters$Request", "hearState", "(ILSharedRegisters$State;)V"⟩, 15) := ⟨⟨by decide +kernel, by decide +kernel⟩, List.mem_of_getElem? (i := 272) (by decide +kernel), List.mem_of_getElem? (i := 412) (by decide +kernel), List.mem_of_getElem? (i := 413) (by decide +kernel)⟩
theorem lw_p13 : lw_okq (⟨"SharedRegisters$Request", "countAnswer", "(I)V"⟩, 15) := ⟨⟨by decide +kernel, by decide +kernel⟩, List.mem_of_getElem? (i := 272) (by decide +kernel), List.mem_of_getElem? (i := 416) (by decide +kernel), List.mem_of_getElem? (i := 417) (by decide +kernel)⟩
theorem lw_p14 : lw_okq (⟨"SharedRegisters$Request", "answers", "()I"⟩, 15) := ⟨⟨by decide +kernel, by decide +kernel⟩, List.mem_of_getElem? (i := 272) (by decide +kernel), List.mem_of_getElem? (i := 420) (by decide +kernel), List.mem_of_getElem? (i := 421) (by decide +kernel)⟩
theorem lw_p15 : lw_okq (⟨"SharedRegisters$Request", "beginAccepting", "()V"⟩, 15) := ⟨⟨by decide +kernel, by decide +kernel⟩, List.mem_of_getElem? (i := 272) (by decide +kernel), List.mem_of_getElem? (i := 425) (by decide +kernel), List.mem_of_getElem? (i := 426) (by decide +kernel)⟩
def lw_privs_1 : List (MethodName × Nat) := [(⟨"java/lang/Throwable", "fillInStackTrace", "(I)Ljava/lang/Throwable;"⟩, 6), (⟨"SharedRegisters", "sendToSet", "(ILSharedRegisters$Request;ILSharedRegisters$State;)V"⟩, 7), (⟨"SharedRegisters$Row", "send", "(IIIIIILSharedRegisters$State;)V"⟩, 2), (⟨"SharedRegisters", "deliver", "(I)I"⟩, 7), (⟨"SharedRegisters$Row", "drawOut", "(I)LSharedRegisters$Message;"⟩, 2), (⟨"SharedRegisters", "takePrepare", "(LSharedRegisters$Message;)V"⟩, 7), (⟨"SharedRegisters", "registerOf", "(II)LSharedRegisters$Register;"⟩, 7), (⟨"SharedRegisters$Register", "greaterBallot", "()I"⟩, 3), (⟨"SharedRegisters", "sendBack", "(ILSharedRegisters$Message;ILSharedRegisters$State;)V"⟩, 7), (⟨"SharedRegisters", "takePromised", "(LSharedRegisters$Message;)V"⟩, 7), (⟨"SharedRegisters", "awaiting", "(LSharedRegisters$Message;Z)LSharedRegisters$Request;"⟩, 7), (⟨"SharedRegisters$Request", "hasAnswer", "(I)Z"⟩, 15), (⟨"SharedRegisters$Request", "hearState", "(ILSharedRegisters$State;)V"⟩, 15), (⟨"SharedRegisters$Request", "countAnswer", "(I)V"⟩, 15), (⟨"SharedRegisters$Request", "answers", "()I"⟩, 15), (⟨"SharedRegisters$Request", "beginAccepting", "()V"⟩, 15)]
theorem lw_r1 : ∀ q ∈ lw_privs_1, lw_okq q := List.forall_mem_cons.mpr ⟨lw_p0, List.forall_mem_cons.mpr ⟨lw_p1, List.forall_mem_cons.mpr ⟨lw_p2, List.forall_mem_cons.mpr ⟨lw_p3, List.forall_mem_cons.mpr ⟨lw_p4, List.forall_mem_cons.mpr ⟨lw_p5, List.forall_mem_cons.mpr ⟨lw_p6, List.forall_mem_cons.mpr ⟨lw_p7, List.forall_mem_cons.mpr ⟨lw_p8, List.forall_mem_cons.mpr ⟨lw_p9, List.forall_mem_cons.mpr ⟨lw_p10, List.forall_mem_cons.mpr ⟨lw_p11, List.forall_mem_cons.mpr ⟨lw_p12, List.forall_mem_cons.mpr ⟨lw_p13, List.forall_mem_cons.mpr ⟨lw_p14, List.forall_mem_cons.mpr ⟨lw_p15, fun _ h => absurd h List.not_mem_nil⟩⟩⟩⟩⟩⟩⟩⟩⟩⟩⟩⟩⟩⟩⟩⟩
theorem lw_p16 : lw_okq (⟨"SharedRegisters$State", "fails", "(IJ)Z"⟩, 3) := ⟨⟨by decide +kernel, by decide +kernel⟩, List.mem_of_getElem? (i := 25) (by decide +kernel), List.mem_of_getElem? (i := 429) (by decide +kernel), List.mem_of_getElem? (i := 430) (by decide +kernel)⟩
theorem lw_p17 : lw_okq (⟨"SharedRegisters$State", "changed", "(IJ)LSharedRegisters$State;"⟩, 3) := ⟨⟨by decide +kernel, by decide +kernel⟩, List.mem_of_getElem? (i := 25) (by decide +kernel), List.mem_of_getElem? (i := 433) (by decide +kernel), List.mem_of_getElem? (i := 434) (by decide +kernel)⟩
theorem lw_p18 : lw_okq (⟨"SharedRegisters$State", "next", "(J)LSharedRegisters$State;"⟩, 3) := ⟨⟨by decide +kernel, by decide +kernel⟩, List.mem_of_getElem? (i := 25) (by decide +kernel), List.mem_of_getElem? (i := 438) (by decide +kernel), List.mem_of_getElem? (i := 439) (by decide +kernel)⟩
theorem lw_p19 : lw_okq (⟨"SharedRegisters", "takeAccept", "(LSharedRegisters$Message;)V"⟩, 7) := ⟨⟨by decide +kernel, by decide +kernel⟩, List.mem_of_getElem? (i := 17) (by decide +kernel), List.mem_of_getElem? (i := 444) (by decide +kernel), List.mem_of_getElem? (i := 445) (by decide +kernel)⟩
theorem lw_p20 : lw_okq (⟨"SharedRegisters$Register", "accept", "(ILSharedRegisters$State;)V"⟩, 3) := ⟨⟨by decide +kernel, by decide +kernel⟩, List.mem_of_getElem? (i := 43) (by decide +kernel), List.mem_of_getElem? (i := 448) (by decide +kernel), List.mem_of_getElem? (i := 449) (by decide +kernel)⟩
theorem lw_p21 : lw_okq (⟨"SharedRegisters", "takeTaken", "(LSharedRegisters$Message;)V"⟩, 7) := ⟨⟨by decide +kernel, by decide +kernel⟩, List.mem_of_getElem? (i := 17) (by decide +kernel), List.mem_of_getElem? (i := 452) (by decide +kernel), List.mem_of_getElem? (i := 453) (by decide +kernel)⟩
theorem lw_p22 : lw_okq (⟨"SharedRegisters", "takeRefused", "(LSharedRegisters$Message;)V"⟩, 7) := ⟨⟨by decide +kernel, by decide +kernel⟩, List.mem_of_getElem? (i := 17) (by decide +kernel), List.mem_of_getElem? (i := 456) (by decide +kernel), List.mem_of_getElem? (i := 457) (by decide +kernel)⟩
theorem lw_p23 : lw_okq (⟨"SharedRegisters$Register", "catchUp", "(LSharedRegisters$Register;)Z"⟩, 3) := ⟨⟨by decide +kernel, by decide +kernel⟩, List.mem_of_getElem? (i := 43) (by decide +kernel), List.mem_of_getElem? (i := 496) (by decide +kernel), List.mem_of_getElem? (i := 497) (by decide +kernel)⟩
theorem lw_p24 : lw_okq (⟨"SharedRegisters$State", "versionOrNone", "()I"⟩, 3) := ⟨⟨by decide +kernel, by decide +kernel⟩, List.mem_of_getElem? (i := 25) (by decide +kernel), List.mem_of_getElem? (i := 507) (by decide +kernel), List.mem_of_getElem? (i := 508) (by decide +kernel)⟩
theorem lw_p25 : lw_okq (⟨"SharedRegisters", "requestAt", "(I)LSharedRegisters$Request;"⟩, 7) := ⟨⟨by decide +kernel, by decide +kernel⟩, List.mem_of_getElem? (i := 17) (by decide +kernel), List.mem_of_getElem? (i := 542) (by decide +kernel), List.mem_of_getElem? (i := 543) (by decide +kernel)⟩
theorem lw_p26 : lw_okq (⟨"SharedRegistersModel", "send", "(IIIIIZIJ)V"⟩, 39) := ⟨⟨by decide +kernel, by decide +kernel⟩, List.mem_of_getElem? (i := 554) (by decide +kernel), List.mem_of_getElem? (i := 693) (by decide +kernel), List.mem_of_getElem? (i := 694) (by decide +kernel)⟩
theorem lw_p27 : lw_okq (⟨"SharedRegistersModel", "lose0", "(I)V"⟩, 39) := ⟨⟨by decide +kernel, by decide +kernel⟩, List.mem_of_getElem? (i := 554) (by decide +kernel), List.mem_of_getElem? (i := 701) (by decide +kernel), List.mem_of_getElem? (i := 702) (by decide +kernel)⟩
theorem lw_p28 : lw_okq (⟨"SharedRegistersModel", "noMessage", "(I)Z"⟩, 39) := ⟨⟨by decide +kernel, by decide +kernel⟩, List.mem_of_getElem? (i := 554) (by decide +kernel), List.mem_of_getElem? (i := 716) (by decide +kernel), List.mem_of_getElem? (i := 717) (by decide +kernel)⟩
theorem lw_p29 : lw_okq (⟨"SharedRegistersModel", "takeOne", "(I)I"⟩, 39) := ⟨⟨by decide +kernel, by decide +kernel⟩, List.mem_of_getElem? (i := 554) (by decide +kernel), List.mem_of_getElem? (i := 720) (by decide +kernel), List.mem_of_getElem? (i := 721) (by decide +kernel)⟩
theorem lw_p30 : lw_okq (⟨"SharedRegistersModel", "drop", "(I)V"⟩, 39) := ⟨⟨by decide +kernel, by decide +kernel⟩, List.mem_of_getElem? (i := 554) (by decide +kernel), List.mem_of_getElem? (i := 724) (by decide +kernel), List.mem_of_getElem? (i := 725) (by decide +kernel)⟩
theorem lw_p31 : lw_okq (⟨"SharedRegistersModel", "prepared", "(IIII)V"⟩, 39) := ⟨⟨by decide +kernel, by decide +kernel⟩, List.mem_of_getElem? (i := 554) (by decide +kernel), List.mem_of_getElem? (i := 728) (by decide +kernel), List.mem_of_getElem? (i := 729) (by decide +kernel)⟩
def lw_privs_2 : List (MethodName × Nat) := [(⟨"SharedRegisters$State", "fails", "(IJ)Z"⟩, 3), (⟨"SharedRegisters$State", "changed", "(IJ)LSharedRegisters$State;"⟩, 3), (⟨"SharedRegisters$State", "next", "(J)LSharedRegisters$State;"⟩, 3), (⟨"SharedRegisters", "takeAccept", "(LSharedRegisters$Message;)V"⟩, 7), (⟨"SharedRegisters$Register", "accept", "(ILSharedRegisters$State;)V"⟩, 3), (⟨"SharedRegisters", "takeTaken", "(LSharedRegisters$Message;)V"⟩, 7), (⟨"SharedRegisters", "takeRefused", "(LSharedRegisters$Message;)V"⟩, 7), (⟨"SharedRegisters$Register", "catchUp", "(LSharedRegisters$Register;)Z"⟩, 3), (⟨"SharedRegisters$State", "versionOrNone", "()I"⟩, 3), (⟨"SharedRegisters", "requestAt", "(I)LSharedRegisters$Request;"⟩, 7), (⟨"SharedRegistersModel", "send", "(IIIIIZIJ)V"⟩, 39), (⟨"SharedRegistersModel", "lose0", "(I)V"⟩, 39), (⟨"SharedRegistersModel", "noMessage", "(I)Z"⟩, 39), (⟨"SharedRegistersModel", "takeOne", "(I)I"⟩, 39), (⟨"SharedRegistersModel", "drop", "(I)V"⟩, 39), (⟨"SharedRegistersModel", "prepared", "(IIII)V"⟩, 39)]
theorem lw_r2 : ∀ q ∈ lw_privs_2, lw_okq q := List.forall_mem_cons.mpr ⟨lw_p16, List.forall_mem_cons.mpr ⟨lw_p17, List.forall_mem_cons.mpr ⟨lw_p18, List.forall_mem_cons.mpr ⟨lw_p19, List.forall_mem_cons.mpr ⟨lw_p20, List.forall_mem_cons.mpr ⟨lw_p21, List.forall_mem_cons.mpr ⟨lw_p22, List.forall_mem_cons.mpr ⟨lw_p23, List.forall_mem_cons.mpr ⟨lw_p24, List.forall_mem_cons.mpr ⟨lw_p25, List.forall_mem_cons.mpr ⟨lw_p26, List.forall_mem_cons.mpr ⟨lw_p27, List.forall_mem_cons.mpr ⟨lw_p28, List.forall_mem_cons.mpr ⟨lw_p29, List.forall_mem_cons.mpr ⟨lw_p30, List.forall_mem_cons.mpr ⟨lw_p31, fun _ h => absurd h List.not_mem_nil⟩⟩⟩⟩⟩⟩⟩⟩⟩⟩⟩⟩⟩⟩⟩⟩
theorem lw_p32 : lw_okq (⟨"SharedRegistersModel", "refuse", "(IIII)V"⟩, 39) := ⟨⟨by decide +kernel, by decide +kernel⟩, List.mem_of_getElem? (i := 554) (by decide +kernel), List.mem_of_getElem? (i := 732) (by decide +kernel), List.mem_of_getElem? (i := 733) (by decide +kernel)⟩
theorem lw_p33 : lw_okq (⟨"SharedRegistersModel", "promised", "(IIIIZIJ)V"⟩, 39) := ⟨⟨by decide +kernel, by decide +kernel⟩, List.mem_of_getElem? (i := 554) (by decide +kernel), List.mem_of_getElem? (i := 736) (by decide +kernel), List.mem_of_getElem? (i := 737) (by decide +kernel)⟩
theorem lw_p34 : lw_okq (⟨"SharedRegistersModel", "work", "(I)V"⟩, 39) := ⟨⟨by decide +kernel, by decide +kernel⟩, List.mem_of_getElem? (i := 554) (by decide +kernel), List.mem_of_getElem? (i := 740) (by decide +kernel), List.mem_of_getElem? (i := 741) (by decide +kernel)⟩
theorem lw_p35 : lw_okq (⟨"SharedRegistersModel", "accept", "(IIIIZIJ)V"⟩, 39) := ⟨⟨by decide +kernel, by decide +kernel⟩, List.mem_of_getElem? (i := 554) (by decide +kernel), List.mem_of_getElem? (i := 744) (by decide +kernel), List.mem_of_getElem? (i := 745) (by decide +kernel)⟩
theorem lw_p36 : lw_okq (⟨"SharedRegistersModel", "taken", "(III)V"⟩, 39) := ⟨⟨by decide +kernel, by decide +kernel⟩, List.mem_of_getElem? (i := 554) (by decide +kernel), List.mem_of_getElem? (i := 748) (by decide +kernel), List.mem_of_getElem? (i := 749) (by decide +kernel)⟩
theorem lw_p37 : lw_okq (⟨"SharedRegistersModel", "refused", "(III)V"⟩, 39) := ⟨⟨by decide +kernel, by decide +kernel⟩, List.mem_of_getElem? (i := 554) (by decide +kernel), List.mem_of_getElem? (i := 752) (by decide +kernel), List.mem_of_getElem? (i := 753) (by decide +kernel)⟩
theorem lw_p38 : lw_okq (⟨"SharedRegistersModel", "noRequest", "(I)Z"⟩, 39) := ⟨⟨by decide +kernel, by decide +kernel⟩, List.mem_of_getElem? (i := 554) (by decide +kernel), List.mem_of_getElem? (i := 803) (by decide +kernel), List.mem_of_getElem? (i := 804) (by decide +kernel)⟩
def lw_privs_3 : List (MethodName × Nat) := [(⟨"SharedRegistersModel", "refuse", "(IIII)V"⟩, 39), (⟨"SharedRegistersModel", "promised", "(IIIIZIJ)V"⟩, 39), (⟨"SharedRegistersModel", "work", "(I)V"⟩, 39), (⟨"SharedRegistersModel", "accept", "(IIIIZIJ)V"⟩, 39), (⟨"SharedRegistersModel", "taken", "(III)V"⟩, 39), (⟨"SharedRegistersModel", "refused", "(III)V"⟩, 39), (⟨"SharedRegistersModel", "noRequest", "(I)Z"⟩, 39)]
theorem lw_r3 : ∀ q ∈ lw_privs_3, lw_okq q := List.forall_mem_cons.mpr ⟨lw_p32, List.forall_mem_cons.mpr ⟨lw_p33, List.forall_mem_cons.mpr ⟨lw_p34, List.forall_mem_cons.mpr ⟨lw_p35, List.forall_mem_cons.mpr ⟨lw_p36, List.forall_mem_cons.mpr ⟨lw_p37, List.forall_mem_cons.mpr ⟨lw_p38, fun _ h => absurd h List.not_mem_nil⟩⟩⟩⟩⟩⟩⟩
def lw_privs : List (MethodName × Nat) := lw_privs_1 ++ (lw_privs_2 ++ (lw_privs_3))
def lw_tbl : List Cond := k2_sels lw_privs ++ tables_1
theorem lw_privs_ok : ∀ q ∈ lw_privs, lw_okq q := by
  show ∀ q ∈ lw_privs_1 ++ (lw_privs_2 ++ (lw_privs_3)), lw_okq q
  exact List.forall_mem_append.mpr ⟨lw_r1, List.forall_mem_append.mpr ⟨lw_r2, lw_r3⟩⟩
/-! ===== BEGIN words of one list among another's, by their places ===== -/
theorem goodIn_r {big : List Cond} (ws : List Cond) (ps : List Nat) (hp : ws = ps.filterMap (fun i => big[i]?)) (h : ws.all goodWord = true) : GoodIn big ws := by
  intro w hw
  have h1 := List.all_eq_true.mp h w hw
  rw [hp] at hw
  obtain ⟨i, -, hi⟩ := List.mem_filterMap.mp hw
  have hm : w ∈ big := by first | exact List.mem_of_getElem? hi | exact List.getElem?_mem hi
  exact ⟨hm, good_of_word h1⟩
theorem goodIn_app {big a b : List Cond} (ha : GoodIn big a) (hb : GoodIn big b) : GoodIn big (a ++ b) := fun w h => (List.mem_append.mp h).elim (ha w) (hb w)
theorem goodIn_ca {big a b : List Cond} {c : Cond} (ha : GoodIn big (c :: a)) (hb : GoodIn big b) : GoodIn big (c :: (a ++ b)) := fun w h => (List.mem_cons.mp h).elim (fun e => ha w (List.mem_cons.mpr (Or.inl e))) (fun h => (List.mem_append.mp h).elim (fun h => ha w (List.mem_cons.mpr (Or.inr h))) (hb w))
theorem goodIn_sub {big ws : List Cond} (hm : ∀ w ∈ ws, w ∈ big) (h : ws.all goodWord = true) : GoodIn big ws := fun w hw => ⟨hm w hw, good_of_word (List.all_eq_true.mp h w hw)⟩
/-! ===== END ===== -/

/-! ===== BEGIN exceptions that leave a method, and their catching by the caller (launches without stack traces) ===== -/
section VXA
/-! The laws vx_back, vx_callV, vx_callS, vx_callSW, vx_throw0, vx_throwS follow proofs of the library, with one case more: JvmDerived/Free/Laws.lean (Back.of_free), Shelf42/LK1.lean (callV, callS), Shelf/KitTraced.lean (throwNew0V, throwNewS). -/
/-- where a method has thrown q: the class by its name, the cell, what was written, the world -/
def vx_T (XC : String → State → State → Prop) (st : State) (q : Addr) (t : State) (mc ms : Nat) (free : Addr → Prop) : Prop :=
  ∃ (E : String) (ce : Cell) (L : List Loc), XC E st t ∧ t.heap[q]? = some ce ∧ ce.vm = .none ∧ st.vm.findClass E = some ce.cls ∧ st.WarmedH t.vm ∧ st.sameButNew ({ t with vm := st.vm } : State) L mc ms ∧ ∀ z ∈ L, free z.base
def vx_Q (Qc : Array Value → State → Outcome → State → Prop) (XC : String → State → State → Prop) (mc ms : Nat) (free : Addr → Prop) : Array Value → State → Outcome → State → Prop := fun a st o t =>
  (Qc a st o t ∧ ∃ L, FrameEnd st o t L mc ms ∧ ∀ q ∈ L, free q.base) ∨ ∃ q, o = .threw q ∧ vx_T XC st q t mc ms free
/-- a callee that returns or throws -/
def vx_Met (l : Launch) (y : MethodName) (ws : List Cond) (rm : Room) (Pc : Array Value → State → Prop) (Qc : Array Value → State → Outcome → State → Prop) (XC : String → State → State → Prop) (mc ms : Nat) (free : Addr → Prop) : Prop :=
  MetFree l y (headSpec ws rm) Pc (fun _ _ _ _ _ => True) (vx_Q Qc XC mc ms free)
def vx_Post (XC : String → State → State → Prop) (mc ms : Nat) (free : Addr → Prop) : Pt → Array Value → Addr → Pt → Prop := fun A a q B =>
  ∃ (g : JFrame) (mk : MethodId) (t : State) (L : List Loc) (E : String) (ce : Cell), B.U.heap = t.heap ∧ B.U.vm = t.vm ∧ XC E (A.U.calling g mk a) t ∧ t.heap[q]? = some ce ∧ ce.vm = .none ∧ A.U.vm.findClass E = some ce.cls ∧ B.locs = A.locs ++ L ∧ (∀ z ∈ L, free z.base) ∧ B.cells = A.cells + mc ∧ B.slots = A.slots + ms
def vx_Back (l : Launch) (R : Room) (p : Program) (e : Env) (below : List Frame) (s : State) (sargs : Array Value) (y : MethodName) (len W9 : Nat)
    (Pre : Pt → Array Value → Prop) (Post : Pt → Array Value → Option Value → Pt → Prop) (PostX : Pt → Array Value → Addr → Pt → Prop) : Prop :=
  ∀ (m : MethodId) (meth : Method) (c : Code) (A : Pt) (g : JFrame) (ig : Instr) (mk : MethodId) (a : Array Value),
    Stand p l e R s m sargs below meth c A.U A.locs A.cells A.slots → g.method = m → g.locals.size = c.maxLocals → decode c.code g.pc = .ok (ig, len) →
    2 * g.monitorRoom + (g.stack.map fun v => v.category).sum ≤ W9 → A.U.methodNamed? y = some mk → Pre A a →
    (∃ (v : Option Value) (B : Pt), Stand p l e R s m sargs below meth c B.U B.locs B.cells B.slots ∧ Post A a v B ∧
      Steps p.tables e below (doInvoke e (A.U.setTop g) [] mk a).1 (B.U.setTop { g with pc := g.pc + len, stack := v.toList ++ g.stack })) ∨
    (∃ (q : Addr) (B : Pt), Stand p l e R s m sargs below meth c B.U B.locs B.cells B.slots ∧ PostX A a q B ∧
      Steps p.tables e below (doInvoke e (A.U.setTop g) [] mk a).1 ((B.U.setTop g).pushFrame (.throwing q)))
section Payer
variable {l : Launch} {R : Room} {p : Program} {e : Env} {below : List Frame} {s : State} {sargs : Array Value} {y : MethodName} {len W9 : Nat}
theorem vx_back {ws : List Cond} {rm : Room} {Pc : Array Value → State → Prop} {Qc : Array Value → State → Outcome → State → Prop} {XC : String → State → State → Prop} {mc ms : Nat} {free : Addr → Prop} {bytes : ByteArray} {maxL : Nat} {ret : Option FieldType}
    (hM : vx_Met l y ws rm Pc Qc XC mc ms free) (hblind : FrameBlind Pc) (hrc : rm.cells = mc) (hrs : rm.slots = ms)
    (hframes : rm.frames + 1 ≤ R.frames) (hlocals : W9 + (maxL + 11) + rm.locals ≤ R.locals)
    (hws : ∀ w ∈ ws, ∀ a' U, s.WarmedH U.vm → w.before a' U = true) (hcode : Cond.code y bytes maxL ret ∈ ws) (hinit : ∀ a' U, s.WarmedH U.vm → (Cond.initialized y.cls).before a' U = true) :
    vx_Back l R p e below s sargs y len W9 (PreOf R mc ms Pc) (PostOf Qc mc ms free) (vx_Post XC mc ms free) := by
  intro m meth c A g ig mk a X hg hsize hdg hW hn hp
  have h1 : (headSpec ws rm).pre.before a A.U = true := atoms_intro fun w hw => hws w hw _ _ X.warmed
  have h2 : (Cond.code y bytes maxL ret).before a A.U = true := hws _ hcode _ _ X.warmed
  have h3 : (Cond.initialized y.cls).before a A.U = true := hinit _ _ X.warmed
  have h4 : A.cells + (headSpec ws rm).room.cells ≤ R.cells := by rw [show (headSpec ws rm).room.cells = mc from hrc]; exact hp.1
  have h5 : A.slots + (headSpec ws rm).room.slots ≤ R.slots := by rw [show (headSpec ws rm).room.slots = ms from hrs]; exact hp.2.1
  have hPc : Pc a (A.U.calling g mk a) := hblind _ _ _ _ hp.2.2
  obtain ⟨U, Ls, c0, s0⟩ := A
  dsimp only [Pt.U, Pt.locs, Pt.cells, Pt.slots] at h1 h2 h3 h4 h5 X hn hPc ⊢
  obtain ⟨methY, cY, hmY, hcY, -, hlY, -, -, -, -⟩ := Cond.code_spec hn h2
  obtain ⟨kY, hkY, -⟩ := className_of_methodNamed hn
  have hinitY : kY.init = .initialized := Cond.initialized_spec (findClass_of_methodNamed hn) hkY h3
  have h : At U g.method c below := by rw [hg]; exact X.here
  have hlocals9 : W9 + (maxL + 11) + (headSpec ws rm).room.locals ≤ R.locals := hlocals
  have happ : (headSpec ws rm).appliesLoose y e.platform (U.calling g mk a) = true :=
    Spec.appliesLoose_calling (g := g) h hdg hn hkY hinitY
      (X.room_calling (g := g) (R' := (headSpec ws rm).room) hsize hmY hcY hframes (by rw [hlY]; omega) h4 h5) h1
  obtain ⟨mid, hmid⟩ := h.above
  have hfr : (U.setTop g).frames = (.java g :: mid) ++ below := by rw [State.frames_setTop' g h.top, hmid]; rfl
  obtain ⟨o, s₂, hsteps, -, hend, hq⟩ := Steps.callFree hM p X.admits X.cas X.clock (acts := []) hfr happ hPc trivial
  have hq' : vx_Q Qc XC mc ms free a (U.calling g mk a) o s₂ := hq
  rw [State.frames_setTop' g h.top] at hend
  obtain ⟨g₀, hg0⟩ := Option.isSome_iff_exists.mp h.top
  obtain ⟨r, hr⟩ := State.topJava?_eq_some.mp hg0
  have hr' : (({ U with heap := s₂.heap, slotsUsed := s₂.slotsUsed } : State).setVm s₂.vm).frames = .java g₀ :: r := hr
  rcases hq' with ⟨hqc, L, hfe, hL⟩ | ⟨q, rfl, E, ce, L, hx, hce, hcv, hcl, hW₂, hsm, hL⟩
  · obtain ⟨⟨v, rfl⟩, hW₂, e2, q2, q3, q4, q5, q6⟩ := id hfe
    have e3 : s₂ = ({ (U.calling g mk a).setFrames s₂.frames with heap := s₂.heap, slotsUsed := s₂.slotsUsed } : State).setVm s₂.vm := by
      have : s₂ = ({ s₂ with vm := (U.calling g mk a).vm } : State).setVm s₂.vm := rfl
      rw [e2] at this
      exact this
    obtain ⟨c₂, i₂, len₂, hc₂, hd₂, hf₂⟩ := hend
    have hW' : U.WarmedH s₂.vm := hW₂
    have hcc : c₂ = c := by
      have h1 : s₂.code? g.method = U.code? g.method := by
        rw [State.code?_eq, State.code?_eq, hW'.alike.method?]
      exact Option.some.inj (hc₂.symm.trans (h1.trans h.code))
    subst hcc
    have hlen : len₂ = len := by rw [hdg] at hd₂; cases hd₂; rfl
    subst hlen
    have hs₂ : s₂ = (({ U with heap := s₂.heap, slotsUsed := s₂.slotsUsed } : State).setVm s₂.vm).setTop { g with pc := g.pc + len₂, stack := v.toList ++ g.stack } := by
      refine e3.trans ?_
      rw [hf₂, State.calling_eq h.top, State.setFrames_setFrames, State.setTop_of_frames _ hr', hr]
      rfl
    have hsame : U.sameButNew ({ U with heap := s₂.heap, slotsUsed := s₂.slotsUsed } : State) L mc ms := by
      refine ⟨?_, q2, q3, q4, q5, q6⟩
      obtain ⟨t, ht, -⟩ := State.frames_cons hr
      show ({ U with heap := s₂.heap, slotsUsed := s₂.slotsUsed } : State) = { U.setFrames U.frames with heap := s₂.heap, slotsUsed := s₂.slotsUsed }
      rw [State.setFrames_self ht]
    subst hg
    refine Or.inl ⟨v, ⟨(({ U with heap := s₂.heap, slotsUsed := s₂.slotsUsed } : State).setVm s₂.vm), Ls ++ L, c0 + mc, s0 + ms⟩,
      ⟨X.admits, X.cas, X.clock, X.frames, X.room, X.hears, X.method, X.code, (X.here.setHeapUsed s₂.heap s₂.slotsUsed).setVm hW'.alike, X.tail, State.WarmedH.trans X.warmed hW', X.limits, X.bytes, X.same.trans (hsame.setVm s.vm)⟩,
      ⟨g, mk, s₂, L, rfl, rfl, hqc, rfl, hL, rfl, rfl⟩, ?_⟩
    show Steps p.tables e below _ ((({ U with heap := s₂.heap, slotsUsed := s₂.slotsUsed } : State).setVm s₂.vm).setTop { g with pc := g.pc + len₂, stack := v.toList ++ g.stack })
    rw [← hs₂]
    exact hsteps
  · obtain ⟨e2, q2, q3, q4, q5, q6⟩ := id hsm
    have e3 : s₂ = ({ (U.calling g mk a).setFrames s₂.frames with heap := s₂.heap, slotsUsed := s₂.slotsUsed } : State).setVm s₂.vm := by
      have : s₂ = ({ s₂ with vm := (U.calling g mk a).vm } : State).setVm s₂.vm := rfl
      rw [e2] at this
      exact this
    have hf₂ : s₂.frames = .throwing q :: .java g :: U.frames.tail := hend
    have hW' : U.WarmedH s₂.vm := hW₂
    have hs₂ : s₂ = ((({ U with heap := s₂.heap, slotsUsed := s₂.slotsUsed } : State).setVm s₂.vm).setTop g).pushFrame (.throwing q) := by
      refine e3.trans ?_
      rw [hf₂, State.calling_eq h.top, State.setFrames_setFrames, State.pushFrame, State.frames_setTop _ hr', State.setTop_of_frames _ hr', State.setFrames_setFrames, hr]
      rfl
    have hsame : U.sameButNew ({ U with heap := s₂.heap, slotsUsed := s₂.slotsUsed } : State) L mc ms := by
      refine ⟨?_, q2, q3, q4, q5, q6⟩
      obtain ⟨t, ht, -⟩ := State.frames_cons hr
      show ({ U with heap := s₂.heap, slotsUsed := s₂.slotsUsed } : State) = { U.setFrames U.frames with heap := s₂.heap, slotsUsed := s₂.slotsUsed }
      rw [State.setFrames_self ht]
    subst hg
    refine Or.inr ⟨q, ⟨(({ U with heap := s₂.heap, slotsUsed := s₂.slotsUsed } : State).setVm s₂.vm), Ls ++ L, c0 + mc, s0 + ms⟩,
      ⟨X.admits, X.cas, X.clock, X.frames, X.room, X.hears, X.method, X.code, (X.here.setHeapUsed s₂.heap s₂.slotsUsed).setVm hW'.alike, X.tail, State.WarmedH.trans X.warmed hW', X.limits, X.bytes, X.same.trans (hsame.setVm s.vm)⟩,
      ⟨g, mk, s₂, L, E, ce, rfl, rfl, hx, hce, hcv, hcl, rfl, hL, rfl, rfl⟩, ?_⟩
    show Steps p.tables e below _ (((({ U with heap := s₂.heap, slotsUsed := s₂.slotsUsed } : State).setVm s₂.vm).setTop g).pushFrame (.throwing q))
    rw [← hs₂]
    exact hsteps
end Payer
section Calls
variable {p : Program} {l : Launch} {e : Env} {R : Room} {s : State} {m : MethodId} {args : Array Value} {below : List Frame} {meth : Method} {c : Code} {T : State} {locs : List Loc} {cells slots : Nat}
theorem vx_callV (X : Stand p l e R s m args below meth c T locs cells slots) (hexec : p.tables.exec = Jvm.exec) {own C : String} {index : Nat} {y : MethodName} {bytes : ByteArray} {maxL : Nat} {ret : Option FieldType}
    (hown : s.vm.findClass own = some m.cls) (hlink : (Cond.methodLink own index y).before args s = true) (hinst : (Cond.instanceMethod y).before args s = true) (hsel : (Cond.selects C y y).before args s = true)
    (hcode : (Cond.code y bytes maxL ret).before args s = true) (hy : y.cls ≠ "java/lang/invoke/MethodHandle" ∧ y.cls ≠ "java/lang/invoke/VarHandle")
    {W9 : Nat} {Pre : Pt → Array Value → Prop} {Post : Pt → Array Value → Option Value → Pt → Prop} {PostX : Pt → Array Value → Addr → Pt → Prop} (hK : vx_Back l R p e below s args y 3 W9 Pre Post PostX)
    {b : Addr} {cellB : Cell} (hcell : T.heap[b]? = some cellB) (hobj : cellB.vm.isStatics = false) (hcls : s.vm.findClass C = some cellB.cls)
    {g : JFrame} (hg : g.method = m) (hsize : g.locals.size = c.maxLocals) {argsL rest : List Value} (hlen : ∀ sig, parseMethodDescriptor y.desc = some sig → argsL.length = sig.parameters.length)
    (hstack : g.stack = argsL.reverse ++ .ref b :: rest) (hW : 2 * g.monitorRoom + (rest.map fun v => v.category).sum ≤ W9) (hdg : decode c.code g.pc = .ok (.invokevirtual index, 3))
    (hpre : ∀ vm₁, s.WarmedH vm₁ → Pre ⟨T.setVm vm₁, locs, cells, slots⟩ (Value.ref b :: argsL).toArray) :
    (∃ (v : Option Value) (vm₁ : Vm) (B : Pt), s.WarmedH vm₁ ∧ Stand p l e R s m args below meth c B.U B.locs B.cells B.slots ∧ Post ⟨T.setVm vm₁, locs, cells, slots⟩ (Value.ref b :: argsL).toArray v B ∧
      ∀ target, Steps p.tables e below (B.U.setTop { g with pc := g.pc + 3, stack := v.toList ++ rest }) target → Steps p.tables e below (T.setTop g) target) ∨
    (∃ (q : Addr) (vm₁ : Vm) (B : Pt), s.WarmedH vm₁ ∧ Stand p l e R s m args below meth c B.U B.locs B.cells B.slots ∧ PostX ⟨T.setVm vm₁, locs, cells, slots⟩ (Value.ref b :: argsL).toArray q B ∧
      Steps p.tables e below (T.setTop g) ((B.U.setTop { g with stack := rest }).pushFrame (.throwing q))) := by
  obtain ⟨mk, methM, hnamed, hmethM, hstM, habM⟩ := Cond.instanceMethod_spec hinst
  obtain ⟨methM', cM, hmethM', -, -, -, -, -, -, hsigM⟩ := Cond.code_spec hnamed hcode
  cases hmethM.symm.trans hmethM'
  obtain ⟨c2, r2, m2, q1, q2, q3, q4, kP, hkP, hkPi⟩ := Cond.selects_spec hsel
  cases hcls.symm.trans q1
  cases (State.methodFound?_of_named hnamed hy).symm.trans q2
  cases hnamed.symm.trans q3
  have hselP : selectMethod e.platform s.vm cellB.cls mk = .method mk := by rw [Launch.admits_selectMethod X.admits]; exact q4
  obtain ⟨vm₁, X₁, hstep₁⟩ := X.invokevirtual hexec hown hlink hnamed hmethM hstM hkP hkPi hy (a := b) (cell := cellB) hcell
    (fun z h => by rw [h] at hobj; cases hobj) hselP hmethM habM hkP hkPi (g := g) hg (argsL := argsL) (rest := rest) (hlen _ hsigM) hstack hdg
  rcases hK m meth c ⟨T.setVm vm₁, locs, cells, slots⟩ { g with stack := rest } (.invokevirtual index) mk (Value.ref b :: argsL).toArray X₁ hg hsize hdg hW (X₁.named hnamed) (hpre vm₁ X₁.warmed) with ⟨v, B, X', hpost, hsteps⟩ | ⟨q, B, X', hpost, hsteps⟩
  · exact Or.inl ⟨v, vm₁, B, X₁.warmed, X', hpost, fun target h => hstep₁ _ fun acts => by rw [doInvoke_state]; exact hsteps.trans h⟩
  · exact Or.inr ⟨q, vm₁, B, X₁.warmed, X', hpost, hstep₁ _ fun acts => by rw [doInvoke_state]; exact hsteps⟩
theorem vx_callS (X : Stand p l e R s m args below meth c T locs cells slots) (hexec : p.tables.exec = Jvm.exec) {own : String} {index : Nat} {y : MethodName} {bytes : ByteArray} {maxL : Nat} {ret : Option FieldType}
    (hown : s.vm.findClass own = some m.cls) (hlink : (Cond.methodLink own index y).before args s = true) (hstat : (Cond.static y).before args s = true) (hinit : (Cond.initialized y.cls).before args s = true)
    (hcode : (Cond.code y bytes maxL ret).before args s = true) (hy : y.cls ≠ "java/lang/invoke/MethodHandle" ∧ y.cls ≠ "java/lang/invoke/VarHandle")
    {W9 : Nat} {Pre : Pt → Array Value → Prop} {Post : Pt → Array Value → Option Value → Pt → Prop} {PostX : Pt → Array Value → Addr → Pt → Prop} (hK : vx_Back l R p e below s args y 3 W9 Pre Post PostX)
    {g : JFrame} (hg : g.method = m) (hsize : g.locals.size = c.maxLocals) {argsL rest : List Value} (hlen : ∀ sig, parseMethodDescriptor y.desc = some sig → argsL.length = sig.parameters.length)
    (hstack : g.stack = argsL.reverse ++ rest) (hW : 2 * g.monitorRoom + (rest.map fun v => v.category).sum ≤ W9) (hdg : decode c.code g.pc = .ok (.invokestatic index, 3))
    (hpre : ∀ vm₁, s.WarmedH vm₁ → Pre ⟨T.setVm vm₁, locs, cells, slots⟩ argsL.toArray) :
    (∃ (v : Option Value) (vm₁ : Vm) (B : Pt), s.WarmedH vm₁ ∧ Stand p l e R s m args below meth c B.U B.locs B.cells B.slots ∧ Post ⟨T.setVm vm₁, locs, cells, slots⟩ argsL.toArray v B ∧
      ∀ target, Steps p.tables e below (B.U.setTop { g with pc := g.pc + 3, stack := v.toList ++ rest }) target → Steps p.tables e below (T.setTop g) target) ∨
    (∃ (q : Addr) (vm₁ : Vm) (B : Pt), s.WarmedH vm₁ ∧ Stand p l e R s m args below meth c B.U B.locs B.cells B.slots ∧ PostX ⟨T.setVm vm₁, locs, cells, slots⟩ argsL.toArray q B ∧
      Steps p.tables e below (T.setTop g) ((B.U.setTop { g with stack := rest }).pushFrame (.throwing q))) := by
  obtain ⟨mk, hnamed⟩ := Cond.code_named hcode
  obtain ⟨methM, cM, hmethM, -, -, -, -, -, -, hsigM⟩ := Cond.code_spec hnamed hcode
  have hstatic : methM.isStatic = true := Cond.static_spec hnamed hmethM hstat
  obtain ⟨kP, hkP, -⟩ := className_of_methodNamed hnamed
  have hinitP : kP.init = .initialized := Cond.initialized_spec (findClass_of_methodNamed hnamed) hkP hinit
  obtain ⟨vm₁, X₁, hstep₁⟩ := X.invokestatic hexec hown hlink hnamed hmethM hstatic hkP hinitP hy (g := g) hg (argsL := argsL) (rest := rest) (hlen _ hsigM) hstack hdg
  rcases hK m meth c ⟨T.setVm vm₁, locs, cells, slots⟩ { g with stack := rest } (.invokestatic index) mk argsL.toArray X₁ hg hsize hdg hW (X₁.named hnamed) (hpre vm₁ X₁.warmed) with ⟨v, B, X', hpost, hsteps⟩ | ⟨q, B, X', hpost, hsteps⟩
  · exact Or.inl ⟨v, vm₁, B, X₁.warmed, X', hpost, fun target h => hstep₁ _ fun acts => by rw [doInvoke_state]; exact hsteps.trans h⟩
  · exact Or.inr ⟨q, vm₁, B, X₁.warmed, X', hpost, hstep₁ _ fun acts => by rw [doInvoke_state]; exact hsteps⟩
end Calls
theorem vx_cls {s : State} {T : State} {vm₁ : Vm} {E : String} {k : ClassId} (hW : s.WarmedH vm₁) (h : (T.setVm vm₁).vm.findClass E = some k) : s.vm.findClass E = some k := by
  have h1 : vm₁.findClass E = some k := h
  rw [hW.alike.findClass] at h1
  exact h1
/-- the method's frame g, with q thrown over it -/
def vx_W (p : Program) (l : Launch) (e : Env) (R : Room) (s : State) (m : MethodId) (args : Array Value) (below : List Frame) (meth : Method) (c : Code) (H : Heap) (locs : List Loc) (cells slots : Nat) (Q : State → Prop) (g : JFrame) (q : Addr) : Prop :=
  ∀ T : State, T.heap = H → Stand p l e R s m args below meth c T locs cells slots → ∃ t, Steps p.tables e below ((T.setTop g).pushFrame (.throwing q)) t ∧ Q t
def vx_Run (p : Program) (l : Launch) (e : Env) (R : Room) (s : State) (m : MethodId) (args : Array Value) (below : List Frame) (meth : Method) (c : Code) (H : Heap) (locs : List Loc) (cells slots mc ms : Nat) (g : JFrame) (rest : List Value) (Qa : State → Outcome → State → Prop) (XC : String → State → State → Prop) (free : Addr → Prop) : Prop :=
  ∀ T : State, T.heap = H → Stand p l e R s m args below meth c T locs cells slots →
    (∃ (v : Option Value) (st₀ t T' : State) (L : List Loc), st₀.heap = H ∧ Stand p l e R s m args below meth c T' (locs ++ L) (cells + mc) (slots + ms) ∧ (∀ q ∈ L, free q.base) ∧ T'.heap = t.heap ∧ T'.vm = t.vm ∧ Qa st₀ (.returned v) t ∧
      Goes p e below T g T' { g with pc := g.pc + 3, stack := v.toList ++ rest }) ∨
    (∃ (q : Addr) (st₀ t T' : State) (L : List Loc) (E : String) (ce : Cell), st₀.heap = H ∧ Stand p l e R s m args below meth c T' (locs ++ L) (cells + mc) (slots + ms) ∧ (∀ z ∈ L, free z.base) ∧ T'.heap = t.heap ∧ T'.vm = t.vm ∧ XC E st₀ t ∧ t.heap[q]? = some ce ∧ ce.vm = .none ∧ s.vm.findClass E = some ce.cls ∧
      Steps p.tables e below (T.setTop g) ((T'.setTop { g with stack := rest }).pushFrame (.throwing q)))
def vx_X {S : Type} (px : S → Prop) (B : String → S → State → Prop) (A : Nat → Prop) : String → State → State → Prop := fun E st t => ∃ u : S, px u ∧ B E u t ∧ va_F A st t
section Runs
variable {p : Program} {l : Launch} {e : Env} {R : Room} {s : State} {m : MethodId} {args : Array Value} {below : List Frame} {meth : Method} {c : Code} {H : Heap} {locs : List Loc} {cells slots : Nat}
variable {y : MethodName} {bytes cc : ByteArray} {maxL nL mc ms n index : Nat} {ret : Option FieldType} {ws : List Cond} {rm : Room} {Pc : Array Value → State → Prop} {Qc : Array Value → State → Outcome → State → Prop} {XC : String → State → State → Prop} {free : Addr → Prop} {Ts : List Cond} {own C : String} {b : Addr} {As rest : List Value} {g : JFrame}
theorem vx_callBack (cb : CallB R s args own index y bytes maxL ret ws rm mc ms n) (hM : vx_Met l y ws rm Pc Qc XC mc ms free) (hbl : FrameBlind Pc) : vx_Back l R p e below s args y 3 8 (PreOf R mc ms Pc) (PostOf Qc mc ms free) (vx_Post XC mc ms free) := by
  obtain ⟨hrc, hrs, hfr, hlo, hws, hcw, -, hini, -⟩ := cb
  exact vx_back (bytes := bytes) (maxL := maxL) (ret := ret) hM hbl hrc hrs hfr hlo hws hcw (fun a' U hW => word_at hW (Or.inl (by first | rfl | simp [Cond.onTables, Cond.keeps, Cond.steady])) hini)
theorem vx_runV (S : CallFix p m c cc nL s args Ts own) (hM : vx_Met l y ws rm Pc Qc XC mc ms free) (cw : CallW R s args own C index y bytes maxL ret ws rm mc ms n) (hp : PreV s H C b Pc As)
    (hg : g.method = m) (hn : As.length = n) (hsize : g.locals.size = nL) (hstack : g.stack = As.reverse ++ .ref b :: rest) (hW : 2 * g.monitorRoom + (rest.map fun v => v.category).sum ≤ 8) (hdg : decode cc g.pc = .ok (.invokevirtual index, 3)) (hf : cells + mc ≤ R.cells ∧ slots + ms ≤ R.slots) :
    vx_Run p l e R s m args below meth c H locs cells slots mc ms g rest (Qc (Value.ref b :: As).toArray) XC free := by
  have hK : vx_Back l R p e below s args y 3 8 (PreOf R mc ms Pc) (PostOf Qc mc ms free) (vx_Post XC mc ms free) := vx_callBack cw.1 hM hp.1
  obtain ⟨⟨-, -, -, -, -, -, hcode, -, hy, hlen, hl⟩, hin, hse⟩ := cw
  obtain ⟨hx, hb, hml, ho, -⟩ := S
  obtain ⟨-, ⟨cellB, hcB, hoB, hclB⟩, hPc⟩ := hp
  intro T hT X
  rcases vx_callV X hx (C := C) (bytes := bytes) (maxL := maxL) (ret := ret) ho hl hin hse hcode hy hK (by rw [hT]; exact hcB) hoB hclB hg (hsize.trans hml.symm) (argsL := As) (rest := rest) (fun sig h => hn.trans (hlen sig h)) hstack hW (by rw [hb]; exact hdg)
    (fun vm₁ hW₁ => ⟨hf.1, hf.2, hPc (T.setVm vm₁) hT hW₁⟩) with ⟨v, vm₁, ⟨U', l2, c2, s2⟩, hW₁, X', ⟨g', mk, t, L, e1, e2, hq, h1, hL, h2, h3⟩, st⟩ | ⟨q, vm₁, ⟨U', l2, c2, s2⟩, hW₁, X', ⟨g', mk, t, L, E, ce, e1, e2, hq, hce, hcv, hcl, h1, hL, h2, h3⟩, st⟩
  · dsimp only [Pt.U, Pt.locs, Pt.cells, Pt.slots] at X' e1 e2 h1 h2 h3 st
    subst h1; subst h2; subst h3
    exact Or.inl ⟨v, (T.setVm vm₁).calling g' mk (Value.ref b :: As).toArray, t, U', L, hT, X', hL, e1, e2, hq, st⟩
  · dsimp only [Pt.U, Pt.locs, Pt.cells, Pt.slots] at X' e1 e2 h1 h2 h3 st hcl
    subst h1; subst h2; subst h3
    exact Or.inr ⟨q, (T.setVm vm₁).calling g' mk (Value.ref b :: As).toArray, t, U', L, E, ce, hT, X', hL, e1, e2, hq, hce, hcv, vx_cls hW₁ hcl, st⟩
theorem vx_runS (S : CallFix p m c cc nL s args Ts own) (hM : vx_Met l y ws rm Pc Qc XC mc ms free) (cw : CallB R s args own index y bytes maxL ret ws rm mc ms n ∧ (Cond.static y).before args s = true) (hp : PreS s H Pc As)
    (hg : g.method = m) (hn : As.length = n) (hsize : g.locals.size = nL) (hstack : g.stack = As.reverse ++ rest) (hW : 2 * g.monitorRoom + (rest.map fun v => v.category).sum ≤ 8) (hdg : decode cc g.pc = .ok (.invokestatic index, 3)) (hf : cells + mc ≤ R.cells ∧ slots + ms ≤ R.slots) :
    vx_Run p l e R s m args below meth c H locs cells slots mc ms g rest (Qc As.toArray) XC free := by
  have hK : vx_Back l R p e below s args y 3 8 (PreOf R mc ms Pc) (PostOf Qc mc ms free) (vx_Post XC mc ms free) := vx_callBack cw.1 hM hp.1
  obtain ⟨⟨-, -, -, -, -, -, hcode, hini, hy, hlen, hl⟩, hstt⟩ := cw
  obtain ⟨hx, hb, hml, ho, -⟩ := S
  intro T hT X
  rcases vx_callS X hx (bytes := bytes) (maxL := maxL) (ret := ret) ho hl hstt hini hcode hy hK hg (hsize.trans hml.symm) (argsL := As) (rest := rest) (fun sig h => hn.trans (hlen sig h)) hstack hW (by rw [hb]; exact hdg)
    (fun vm₁ hW₁ => ⟨hf.1, hf.2, hp.2 (T.setVm vm₁) hT hW₁⟩) with ⟨v, vm₁, ⟨U', l2, c2, s2⟩, hW₁, X', ⟨g', mk, t, L, e1, e2, hq, h1, hL, h2, h3⟩, st⟩ | ⟨q, vm₁, ⟨U', l2, c2, s2⟩, hW₁, X', ⟨g', mk, t, L, E, ce, e1, e2, hq, hce, hcv, hcl, h1, hL, h2, h3⟩, st⟩
  · dsimp only [Pt.U, Pt.locs, Pt.cells, Pt.slots] at X' e1 e2 h1 h2 h3 st
    subst h1; subst h2; subst h3
    exact Or.inl ⟨v, (T.setVm vm₁).calling g' mk As.toArray, t, U', L, hT, X', hL, e1, e2, hq, st⟩
  · dsimp only [Pt.U, Pt.locs, Pt.cells, Pt.slots] at X' e1 e2 h1 h2 h3 st hcl
    subst h1; subst h2; subst h3
    exact Or.inr ⟨q, (T.setVm vm₁).calling g' mk As.toArray, t, U', L, E, ce, hT, X', hL, e1, e2, hq, hce, hcv, vx_cls hW₁ hcl, st⟩
end Runs
section Rows
variable {p : Program} {l : Launch} {e : Env} {R : Room} {s : State} {m : MethodId} {args : Array Value} {below : List Frame} {meth : Method} {c : Code} {H : Heap} {locs : List Loc} {cells slots : Nat} {Q : State → Prop}
variable {mc ms : Nat} {free : Addr → Prop} {A0 A1 : Nat → Prop} {H0 : Heap} {a : Array Value} {pc : Nat} {ls : Array Slot} {st0 rest : List Value}
theorem vx_keep {st₀ t T' : State} {L : List Loc} (h0 : st₀.heap = H) (e1 : T'.heap = t.heap) (hS : va_S A0 H0 H locs) (hA : ∀ q, q < H.size → A1 q → A0 q) (hf : ∀ q, free q → A0 q) (hL : ∀ q ∈ L, free q.base) (hF : va_F A1 st₀ t) :
    H.size ≤ T'.heap.size ∧ (∀ q : Nat, q < H.size → ¬ A1 q → T'.heap[q]? = H[q]?) ∧ va_S A0 H0 T'.heap (locs ++ L) := by
  obtain ⟨hz, hk⟩ := hF
  rw [h0] at hz hk
  exact ⟨by rw [e1]; exact hz, fun q h1 h2 => by rw [e1]; exact hk q h1 h2,
    ⟨Nat.le_trans hS.1 (by rw [e1]; exact hz), fun q h1 h2 => by rw [e1, hk q (Nat.lt_of_lt_of_le h1 hS.1) (fun z => h2 (hA q (Nat.lt_of_lt_of_le h1 hS.1) z))]; exact hS.2.1 q h1 h2, fun q hq => by
      rcases List.mem_append.mp hq with h | h
      · exact hS.2.2 q h
      · exact hf _ (hL q h)⟩⟩
theorem vx_calli {S SX : Type} {post : Int32 → S → Prop} {px : SX → Prop} {B : S → State → Prop} {BX : String → SX → State → Prop} {AX : Nat → Prop} (hr : vx_Run p l e R s m args below meth c H locs cells slots mc ms (F0 m pc ls st0) rest (va_Qi post B A1 a) (vx_X px BX AX) free) (hS : va_S A0 H0 H locs) (hA : ∀ q, q < H.size → A1 q → A0 q) (hf : ∀ q, free q → A0 q) (hAX : ∀ q, q < H.size → AX q → A0 q)
    (kx : ∀ (E : String) (ce : Cell) (q9 : Addr) (u : SX) (t : State) (H1 : Heap) (locs1 : List Loc), t.heap = H1 → s.vm.Alike t.vm → px u → BX E u t → H.size ≤ H1.size → (∀ q : Nat, q < H.size → ¬ AX q → H1[q]? = H[q]?) → va_S A0 H0 H1 locs1 → H1[q9]? = some ce → ce.vm = .none → s.vm.findClass E = some ce.cls → vx_W p l e R s m args below meth c H1 locs1 (cells + mc) (slots + ms) Q (F0 m pc ls rest) q9)
    (kk : ∀ (r : Int32) (u : S) (t : State) (H1 : Heap) (locs1 : List Loc), t.heap = H1 → s.vm.Alike t.vm → post r u → B u t → H.size ≤ H1.size → (∀ q : Nat, q < H.size → ¬ A1 q → H1[q]? = H[q]?) → va_S A0 H0 H1 locs1 → W p l e R s m args below meth c H1 locs1 (cells + mc) (slots + ms) Q (F0 m (pc + 3) ls (.int r :: rest))) : W p l e R s m args below meth c H locs cells slots Q (F0 m pc ls st0) := by
  intro T hT X
  rcases hr T hT X with ⟨v, st₀, t, T', L, h0, X', hL, e1, e2, ⟨⟨r, u, hv, hp, hb⟩, hF⟩, st⟩ | ⟨q, st₀, t, T', L, E, ce, h0, X', hL, e1, e2, ⟨u, hp, hb, hF⟩, hce, hcv, hcl, st⟩
  · cases hv
    obtain ⟨k1, k2, k3⟩ := vx_keep h0 e1 hS hA hf hL hF
    obtain ⟨t2, a1, b1⟩ := kk r u t T'.heap (locs ++ L) e1.symm (by rw [← e2]; exact X'.warmed.alike) hp hb k1 k2 k3 T' rfl X'
    exact ⟨t2, st t2 a1, b1⟩
  · obtain ⟨k1, k2, k3⟩ := vx_keep h0 e1 hS hAX hf hL hF
    obtain ⟨t2, a1, b1⟩ := kx E ce q u t T'.heap (locs ++ L) e1.symm (by rw [← e2]; exact X'.warmed.alike) hp hb k1 k2 k3 (by rw [e1]; exact hce) hcv hcl T' rfl X'
    exact ⟨t2, st.trans a1, b1⟩
theorem vx_calll {S SX : Type} {post : Int64 → S → Prop} {px : SX → Prop} {B : S → State → Prop} {BX : String → SX → State → Prop} {AX : Nat → Prop} (hr : vx_Run p l e R s m args below meth c H locs cells slots mc ms (F0 m pc ls st0) rest (va_Ql post B A1 a) (vx_X px BX AX) free) (hS : va_S A0 H0 H locs) (hA : ∀ q, q < H.size → A1 q → A0 q) (hf : ∀ q, free q → A0 q) (hAX : ∀ q, q < H.size → AX q → A0 q)
    (kx : ∀ (E : String) (ce : Cell) (q9 : Addr) (u : SX) (t : State) (H1 : Heap) (locs1 : List Loc), t.heap = H1 → s.vm.Alike t.vm → px u → BX E u t → H.size ≤ H1.size → (∀ q : Nat, q < H.size → ¬ AX q → H1[q]? = H[q]?) → va_S A0 H0 H1 locs1 → H1[q9]? = some ce → ce.vm = .none → s.vm.findClass E = some ce.cls → vx_W p l e R s m args below meth c H1 locs1 (cells + mc) (slots + ms) Q (F0 m pc ls rest) q9)
    (kk : ∀ (r : Int64) (u : S) (t : State) (H1 : Heap) (locs1 : List Loc), t.heap = H1 → s.vm.Alike t.vm → post r u → B u t → H.size ≤ H1.size → (∀ q : Nat, q < H.size → ¬ A1 q → H1[q]? = H[q]?) → va_S A0 H0 H1 locs1 → W p l e R s m args below meth c H1 locs1 (cells + mc) (slots + ms) Q (F0 m (pc + 3) ls (.long r :: rest))) : W p l e R s m args below meth c H locs cells slots Q (F0 m pc ls st0) := by
  intro T hT X
  rcases hr T hT X with ⟨v, st₀, t, T', L, h0, X', hL, e1, e2, ⟨⟨r, u, hv, hp, hb⟩, hF⟩, st⟩ | ⟨q, st₀, t, T', L, E, ce, h0, X', hL, e1, e2, ⟨u, hp, hb, hF⟩, hce, hcv, hcl, st⟩
  · cases hv
    obtain ⟨k1, k2, k3⟩ := vx_keep h0 e1 hS hA hf hL hF
    obtain ⟨t2, a1, b1⟩ := kk r u t T'.heap (locs ++ L) e1.symm (by rw [← e2]; exact X'.warmed.alike) hp hb k1 k2 k3 T' rfl X'
    exact ⟨t2, st t2 a1, b1⟩
  · obtain ⟨k1, k2, k3⟩ := vx_keep h0 e1 hS hAX hf hL hF
    obtain ⟨t2, a1, b1⟩ := kx E ce q u t T'.heap (locs ++ L) e1.symm (by rw [← e2]; exact X'.warmed.alike) hp hb k1 k2 k3 (by rw [e1]; exact hce) hcv hcl T' rfl X'
    exact ⟨t2, st.trans a1, b1⟩
theorem vx_callf {S SX : Type} {post : UInt32 → S → Prop} {px : SX → Prop} {B : S → State → Prop} {BX : String → SX → State → Prop} {AX : Nat → Prop} (hr : vx_Run p l e R s m args below meth c H locs cells slots mc ms (F0 m pc ls st0) rest (va_Qf post B A1 a) (vx_X px BX AX) free) (hS : va_S A0 H0 H locs) (hA : ∀ q, q < H.size → A1 q → A0 q) (hf : ∀ q, free q → A0 q) (hAX : ∀ q, q < H.size → AX q → A0 q)
    (kx : ∀ (E : String) (ce : Cell) (q9 : Addr) (u : SX) (t : State) (H1 : Heap) (locs1 : List Loc), t.heap = H1 → s.vm.Alike t.vm → px u → BX E u t → H.size ≤ H1.size → (∀ q : Nat, q < H.size → ¬ AX q → H1[q]? = H[q]?) → va_S A0 H0 H1 locs1 → H1[q9]? = some ce → ce.vm = .none → s.vm.findClass E = some ce.cls → vx_W p l e R s m args below meth c H1 locs1 (cells + mc) (slots + ms) Q (F0 m pc ls rest) q9)
    (kk : ∀ (r : UInt32) (u : S) (t : State) (H1 : Heap) (locs1 : List Loc), t.heap = H1 → s.vm.Alike t.vm → post r u → B u t → H.size ≤ H1.size → (∀ q : Nat, q < H.size → ¬ A1 q → H1[q]? = H[q]?) → va_S A0 H0 H1 locs1 → W p l e R s m args below meth c H1 locs1 (cells + mc) (slots + ms) Q (F0 m (pc + 3) ls (.float r :: rest))) : W p l e R s m args below meth c H locs cells slots Q (F0 m pc ls st0) := by
  intro T hT X
  rcases hr T hT X with ⟨v, st₀, t, T', L, h0, X', hL, e1, e2, ⟨⟨r, u, hv, hp, hb⟩, hF⟩, st⟩ | ⟨q, st₀, t, T', L, E, ce, h0, X', hL, e1, e2, ⟨u, hp, hb, hF⟩, hce, hcv, hcl, st⟩
  · cases hv
    obtain ⟨k1, k2, k3⟩ := vx_keep h0 e1 hS hA hf hL hF
    obtain ⟨t2, a1, b1⟩ := kk r u t T'.heap (locs ++ L) e1.symm (by rw [← e2]; exact X'.warmed.alike) hp hb k1 k2 k3 T' rfl X'
    exact ⟨t2, st t2 a1, b1⟩
  · obtain ⟨k1, k2, k3⟩ := vx_keep h0 e1 hS hAX hf hL hF
    obtain ⟨t2, a1, b1⟩ := kx E ce q u t T'.heap (locs ++ L) e1.symm (by rw [← e2]; exact X'.warmed.alike) hp hb k1 k2 k3 (by rw [e1]; exact hce) hcv hcl T' rfl X'
    exact ⟨t2, st.trans a1, b1⟩
theorem vx_calld {S SX : Type} {post : UInt64 → S → Prop} {px : SX → Prop} {B : S → State → Prop} {BX : String → SX → State → Prop} {AX : Nat → Prop} (hr : vx_Run p l e R s m args below meth c H locs cells slots mc ms (F0 m pc ls st0) rest (va_Qd post B A1 a) (vx_X px BX AX) free) (hS : va_S A0 H0 H locs) (hA : ∀ q, q < H.size → A1 q → A0 q) (hf : ∀ q, free q → A0 q) (hAX : ∀ q, q < H.size → AX q → A0 q)
    (kx : ∀ (E : String) (ce : Cell) (q9 : Addr) (u : SX) (t : State) (H1 : Heap) (locs1 : List Loc), t.heap = H1 → s.vm.Alike t.vm → px u → BX E u t → H.size ≤ H1.size → (∀ q : Nat, q < H.size → ¬ AX q → H1[q]? = H[q]?) → va_S A0 H0 H1 locs1 → H1[q9]? = some ce → ce.vm = .none → s.vm.findClass E = some ce.cls → vx_W p l e R s m args below meth c H1 locs1 (cells + mc) (slots + ms) Q (F0 m pc ls rest) q9)
    (kk : ∀ (r : UInt64) (u : S) (t : State) (H1 : Heap) (locs1 : List Loc), t.heap = H1 → s.vm.Alike t.vm → post r u → B u t → H.size ≤ H1.size → (∀ q : Nat, q < H.size → ¬ A1 q → H1[q]? = H[q]?) → va_S A0 H0 H1 locs1 → W p l e R s m args below meth c H1 locs1 (cells + mc) (slots + ms) Q (F0 m (pc + 3) ls (.double r :: rest))) : W p l e R s m args below meth c H locs cells slots Q (F0 m pc ls st0) := by
  intro T hT X
  rcases hr T hT X with ⟨v, st₀, t, T', L, h0, X', hL, e1, e2, ⟨⟨r, u, hv, hp, hb⟩, hF⟩, st⟩ | ⟨q, st₀, t, T', L, E, ce, h0, X', hL, e1, e2, ⟨u, hp, hb, hF⟩, hce, hcv, hcl, st⟩
  · cases hv
    obtain ⟨k1, k2, k3⟩ := vx_keep h0 e1 hS hA hf hL hF
    obtain ⟨t2, a1, b1⟩ := kk r u t T'.heap (locs ++ L) e1.symm (by rw [← e2]; exact X'.warmed.alike) hp hb k1 k2 k3 T' rfl X'
    exact ⟨t2, st t2 a1, b1⟩
  · obtain ⟨k1, k2, k3⟩ := vx_keep h0 e1 hS hAX hf hL hF
    obtain ⟨t2, a1, b1⟩ := kx E ce q u t T'.heap (locs ++ L) e1.symm (by rw [← e2]; exact X'.warmed.alike) hp hb k1 k2 k3 (by rw [e1]; exact hce) hcv hcl T' rfl X'
    exact ⟨t2, st.trans a1, b1⟩
theorem vx_callv {S SX : Type} {post : S → Prop} {px : SX → Prop} {B : S → State → Prop} {BX : String → SX → State → Prop} {AX : Nat → Prop} (hr : vx_Run p l e R s m args below meth c H locs cells slots mc ms (F0 m pc ls st0) rest (va_Qv post B A1 a) (vx_X px BX AX) free) (hS : va_S A0 H0 H locs) (hA : ∀ q, q < H.size → A1 q → A0 q) (hf : ∀ q, free q → A0 q) (hAX : ∀ q, q < H.size → AX q → A0 q)
    (kx : ∀ (E : String) (ce : Cell) (q9 : Addr) (u : SX) (t : State) (H1 : Heap) (locs1 : List Loc), t.heap = H1 → s.vm.Alike t.vm → px u → BX E u t → H.size ≤ H1.size → (∀ q : Nat, q < H.size → ¬ AX q → H1[q]? = H[q]?) → va_S A0 H0 H1 locs1 → H1[q9]? = some ce → ce.vm = .none → s.vm.findClass E = some ce.cls → vx_W p l e R s m args below meth c H1 locs1 (cells + mc) (slots + ms) Q (F0 m pc ls rest) q9)
    (kk : ∀ (u : S) (t : State) (H1 : Heap) (locs1 : List Loc), t.heap = H1 → s.vm.Alike t.vm → post u → B u t → H.size ≤ H1.size → (∀ q : Nat, q < H.size → ¬ A1 q → H1[q]? = H[q]?) → va_S A0 H0 H1 locs1 → W p l e R s m args below meth c H1 locs1 (cells + mc) (slots + ms) Q (F0 m (pc + 3) ls (rest))) : W p l e R s m args below meth c H locs cells slots Q (F0 m pc ls st0) := by
  intro T hT X
  rcases hr T hT X with ⟨v, st₀, t, T', L, h0, X', hL, e1, e2, ⟨⟨u, hv, hp, hb⟩, hF⟩, st⟩ | ⟨q, st₀, t, T', L, E, ce, h0, X', hL, e1, e2, ⟨u, hp, hb, hF⟩, hce, hcv, hcl, st⟩
  · cases hv
    obtain ⟨k1, k2, k3⟩ := vx_keep h0 e1 hS hA hf hL hF
    obtain ⟨t2, a1, b1⟩ := kk u t T'.heap (locs ++ L) e1.symm (by rw [← e2]; exact X'.warmed.alike) hp hb k1 k2 k3 T' rfl X'
    exact ⟨t2, st t2 a1, b1⟩
  · obtain ⟨k1, k2, k3⟩ := vx_keep h0 e1 hS hAX hf hL hF
    obtain ⟨t2, a1, b1⟩ := kx E ce q u t T'.heap (locs ++ L) e1.symm (by rw [← e2]; exact X'.warmed.alike) hp hb k1 k2 k3 (by rw [e1]; exact hce) hcv hcl T' rfl X'
    exact ⟨t2, st.trans a1, b1⟩
end Rows
section Ends
variable {p : Program} {l : Launch} {e : Env} {R : Room} {s : State} {m : MethodId} {args : Array Value} {below : List Frame} {meth : Method} {c : Code} {H : Heap} {locs : List Loc} {cells slots : Nat} {Q : State → Prop}
variable {mc ms : Nat} {free : Addr → Prop} {A0 A1 : Nat → Prop} {H0 : Heap} {a : Array Value} {ls : Array Slot} {st0 rest : List Value}
variable {Qc : Array Value → State → Outcome → State → Prop} {XC : String → State → State → Prop}
/-- what a body that may throw owes at its end -/
def vx_MQ (below : List Frame) (Qc : Array Value → State → Outcome → State → Prop) (XC : String → State → State → Prop) (a : Array Value) (s : State) (mc ms : Nat) (free : Addr → Prop) : State → Prop := fun t =>
  ∃ o, t.status = .running ∧ Ended t below o ∧ vx_Q Qc XC mc ms free a s o t
theorem vx_ret {g : JFrame} {mc ms : Nat} (k : W p l e R s m args below meth c H locs cells slots (MQ below Qc args s mc ms free) g) : W p l e R s m args below meth c H locs cells slots (vx_MQ below Qc XC args s mc ms free) g := by
  intro T hT X
  obtain ⟨t, a1, o, b1, b2, b3, b4⟩ := k T hT X
  exact ⟨t, a1, o, b1, b2, Or.inl ⟨b3, b4⟩⟩
/-- not caught here: it goes on to the caller -/
theorem vx_widen {g : JFrame} {q : Addr} {k n : Nat} (h1 : cells ≤ k) (h2 : slots ≤ n) (kk : vx_W p l e R s m args below meth c H locs k n Q g q) : vx_W p l e R s m args below meth c H locs cells slots Q g q := fun T hT X => kk T hT (stand_widen X h1 h2)
theorem vx_out {pc : Nat} {E : String} {ce : Cell} {q : Addr} {mc ms : Nat} (hout : ∀ x ∈ c.exceptionTable.toList, covers x pc = false) (hlocks : meth.locks = false) (hcell : H[q]? = some ce) (hv : ce.vm = .none) (hcl : s.vm.findClass E = some ce.cls)
    (hx : ∀ t : State, t.heap = H → s.vm.Alike t.vm → XC E s t) (hf : ∀ z ∈ locs, free z.base) (hc : cells ≤ mc) (hs : slots ≤ ms) :
    vx_W p l e R s m args below meth c H locs cells slots (vx_MQ below Qc XC args s mc ms free) (F0 m pc ls rest) q := by
  intro T hT X
  obtain ⟨st1, hrun, hend, hW, hsm⟩ := X.leaveThrown q (g := F0 m pc ls rest) rfl rfl rfl hout hlocks
  have hcell9 : (T.setFrames (.throwing q :: below)).heap[q]? = some ce := by
    show T.heap[q]? = some ce
    rw [hT]; exact hcell
  exact ⟨_, st1, .threw q, hrun, hend, Or.inr ⟨q, rfl, E, ce, locs, hx _ hT hW.alike, hcell9, hv, hcl, hW, hsm.mono hc hs, hf⟩⟩
theorem vx_frame {U : State} {k n : Nat} (h : s.sameButNew ({ U with vm := s.vm } : State) locs k n) : s.heap.size ≤ U.heap.size ∧ ∀ q : Nat, q < s.heap.size → (∀ z ∈ locs, z.base ≠ q) → U.heap[q]? = s.heap[q]? := by
  obtain ⟨-, h2, -, -, -, h6⟩ := h
  refine ⟨h2, fun q hq hz => ?_⟩
  obtain ⟨c9, e1, e2, e3, e4⟩ := h6 q _ (Array.getElem?_eq_getElem hq)
  have hs : c9.slots = (s.heap[q]).slots := Array.ext_getElem? fun i => e4 i fun hm => hz _ hm rfl
  have h9 : c9 = s.heap[q] := by
    rw [hs] at e2
    exact e2
  have e5 : U.heap[q]? = some c9 := e1
  rw [e5, h9, Array.getElem?_eq_getElem hq]
/-- the words of a throw but the four that speak of the heap -/
def vx_no (w : Cond) : Bool := decide (w ≠ .isRef (.static Jvm.Bundle.tN "UNASSIGNED_STACK" Jvm.Bundle.steD)) && decide (w ≠ .isRef (.static Jvm.Bundle.tN "SUPPRESSED_SENTINEL" Jvm.Bundle.listD)) && decide (w ≠ .laysStatic Jvm.Bundle.tN "UNASSIGNED_STACK" Jvm.Bundle.steD) && decide (w ≠ .laysStatic Jvm.Bundle.tN "SUPPRESSED_SENTINEL" Jvm.Bundle.listD)
def vx_at0 (own : String) (ic : Nat) (X : String) (names : List String) : List Cond := (Jvm.Bundle.ownAtoms0 own ic X names).filter vx_no
def vx_atS (own : String) (ic : Nat) (X : String) (names : List String) : List Cond := (Jvm.Bundle.ownAtoms own ic X names).filter vx_no
/-- a word that the tables alone decide, or a good one -/
def vx_ot (w : Cond) : Bool := w.onTables || goodWord w
theorem vx_ot_at {args a' : Array Value} {s U : State} {w : Cond} (hW : s.WarmedH U.vm) (hvm : s.vm = U.vm) (hg : vx_ot w = true) (h : w.before args s = true) : w.before a' U = true := by
  simp only [vx_ot, Bool.or_eq_true] at hg
  rcases hg with hg | hg
  · exact va_tabs hg hvm h
  · exact word_at hW (good_of_word hg) h
/-- a list's words: the good ones out of the method's own list, the others by premises of their own -/
theorem vx_hat {args : Array Value} {s : State} {L B : List Cond} (h1 : ∀ w ∈ L.filter goodWord, w.before args s = true) (h2 : ∀ w ∈ L.filter (fun w => !goodWord w), w ∈ B) (h3 : ∀ w ∈ B, w.before args s = true) : ∀ w ∈ L, w.before args s = true := by
  intro w hw
  by_cases g : goodWord w = true
  · exact h1 w (List.mem_filter.mpr ⟨hw, g⟩)
  · refine h3 w (h2 w (List.mem_filter.mpr ⟨hw, ?_⟩))
    show (!goodWord w) = true
    cases hgw : goodWord w
    · rfl
    · exact absurd hgw g
theorem vx_c {args : Array Value} {s : State} {w : Cond} {B : List Cond} (h : w.before args s = true) (t : ∀ w ∈ B, w.before args s = true) : ∀ w' ∈ w :: B, w'.before args s = true := fun w' h' => (List.mem_cons.mp h').elim (fun e => by rw [e]; exact h) (t w')
theorem vx_n {args : Array Value} {s : State} : ∀ w ∈ ([] : List Cond), w.before args s = true := fun _ h => nomatch h
theorem vx_own {args : Array Value} {s : State} {L : List Cond} (h1 : ∀ w ∈ L.filter vx_no, w.before args s = true)
    (hU : (Cond.isRef (.static Jvm.Bundle.tN "UNASSIGNED_STACK" Jvm.Bundle.steD)).before args s = true) (hN : (Cond.isRef (.static Jvm.Bundle.tN "SUPPRESSED_SENTINEL" Jvm.Bundle.listD)).before args s = true)
    (lU : (Cond.laysStatic Jvm.Bundle.tN "UNASSIGNED_STACK" Jvm.Bundle.steD).before args s = true) (lN : (Cond.laysStatic Jvm.Bundle.tN "SUPPRESSED_SENTINEL" Jvm.Bundle.listD).before args s = true) : ∀ w ∈ L, w.before args s = true := by
  intro w hw
  by_cases e1 : w = .isRef (.static Jvm.Bundle.tN "UNASSIGNED_STACK" Jvm.Bundle.steD)
  · rw [e1]; exact hU
  · by_cases e2 : w = .isRef (.static Jvm.Bundle.tN "SUPPRESSED_SENTINEL" Jvm.Bundle.listD)
    · rw [e2]; exact hN
    · by_cases e3 : w = .laysStatic Jvm.Bundle.tN "UNASSIGNED_STACK" Jvm.Bundle.steD
      · rw [e3]; exact lU
      · by_cases e4 : w = .laysStatic Jvm.Bundle.tN "SUPPRESSED_SENTINEL" Jvm.Bundle.listD
        · rw [e4]; exact lN
        · exact h1 w (List.mem_filter.mpr ⟨hw, by unfold vx_no; rw [decide_eq_true e1, decide_eq_true e2, decide_eq_true e3, decide_eq_true e4]; rfl⟩)
/-- where a static field lies, its class's statics cell in H -/
def vx_L (C n d : String) (A : Nat → Prop) (U : State) (H : Heap) : Prop := ∃ (c : ClassId) (k : Class) (i : Nat) (f : Field) (a : Nat) (cell : Cell), U.vm.findClass C = some c ∧ U.fieldFound? C n d = some (c, k, i, f) ∧ f.isStatic = true ∧ k.statics = some a ∧ H[a]? = some cell ∧ cell.vm.isStatics = true ∧ cell.cls = c ∧ f.slot < cell.slots.size ∧ k.staticTypes[f.slot]? = some f.type ∧ ¬ A a
theorem vx_L.moved {C n d : String} {A : Nat → Prop} {u U : State} {H : Heap} (hvm : u.vm.Alike U.vm) (h : vx_L C n d A u H) : vx_L C n d A U H := by
  obtain ⟨c, k, i, f, a, cell, h1, h2, h3, h4, h5, h6, h7, h8, h9, h10⟩ := h
  obtain ⟨k', hi', he⟩ := State.fieldFound?_setVm hvm h2
  exact ⟨c, k', i, f, a, cell, by rw [hvm.findClass]; exact h1, hi', h3, by rw [he]; exact h4, h5, h6, h7, h8, by rw [he]; exact h9, h10⟩
theorem vx_L.kept {C n d : String} {A : Nat → Prop} {U : State} {H H1 : Heap} (h : vx_L C n d A U H) (hq : ∀ a : Nat, a < H.size → ¬ A a → H1[a]? = H[a]?) : vx_L C n d A U H1 := by
  obtain ⟨c, k, i, f, a, cell, h1, h2, h3, h4, h5, h6, h7, h8, h9, h10⟩ := h
  exact ⟨c, k, i, f, a, cell, h1, h2, h3, h4, by rw [hq a (Array.getElem?_eq_some_iff.mp h5).1 h10]; exact h5, h6, h7, h8, h9, h10⟩
theorem vx_L.narrow {C n d : String} {A B : Nat → Prop} {U : State} {H : Heap} (h : vx_L C n d A U H) (hAB : ∀ q, B q → A q) : vx_L C n d B U H := by
  obtain ⟨c, k, i, f, a, cell, h1, h2, h3, h4, h5, h6, h7, h8, h9, h10⟩ := h
  exact ⟨c, k, i, f, a, cell, h1, h2, h3, h4, h5, h6, h7, h8, h9, fun z => h10 (hAB _ z)⟩
theorem vx_L.word {C n d : String} {A : Nat → Prop} {s : State} {args : Array Value} (h : vx_L C n d A s s.heap) : (Cond.laysStatic C n d).before args s = true := by
  obtain ⟨c, k, i, f, a, cell, h1, h2, h3, h4, h5, h6, h7, h8, h9, -⟩ := h
  show (Cond.laysStatic C n d).holds args s none s [] = true
  exact Cond.laysStatic_of h1 h2 h3 h4 h5 h6 h7 h8 h9
/-- .. and what it holds: null or some reference -/
def vx_Zq (C n d : String) (A : Nat → Prop) (U : State) (H : Heap) : Prop := va_Zq C n d A U H ∧ vx_L C n d A U H
theorem vx_Zq.moved {C n d : String} {A : Nat → Prop} {u U : State} {H : Heap} (hvm : u.vm.Alike U.vm) (h : vx_Zq C n d A u H) : vx_Zq C n d A U H := ⟨va_Zq.moved hvm h.1, vx_L.moved hvm h.2⟩
theorem vx_Zq.kept {C n d : String} {A : Nat → Prop} {U : State} {H H1 : Heap} (h : vx_Zq C n d A U H) (hq : ∀ a : Nat, a < H.size → ¬ A a → H1[a]? = H[a]?) : vx_Zq C n d A U H1 := ⟨va_Zq.kept h.1 hq, vx_L.kept h.2 hq⟩
theorem vx_Zq.narrow {C n d : String} {A B : Nat → Prop} {U : State} {H : Heap} (h : vx_Zq C n d A U H) (hAB : ∀ q, B q → A q) : vx_Zq C n d B U H := ⟨va_Zq.narrow h.1 hAB, vx_L.narrow h.2 hAB⟩
theorem vx_Zqof {args : Array Value} {s : State} {C n d : String} {A : Nat → Prop} (hl : (Cond.laysStatic C n d).before args s = true) (hini : (Cond.initialized C).before args s = true) (h : (Cond.isRef (.static C n d)).before args s = true) (hA : ∀ a : Nat, a < s.heap.size → ¬ A a) : vx_Zq C n d A s s.heap := by
  refine ⟨va_Zqof hl hini h hA, ?_⟩
  obtain ⟨c, k, i, f, a, cell, h1, h2, h3, h4, h5, h6, h7, h8, h9⟩ := Cond.laysStatic_spec hl
  exact ⟨c, k, i, f, a, cell, h1, h2, h3, h4, h5, h6, h7, h8, h9, hA a (Array.getElem?_eq_some_iff.mp h5).1⟩
theorem vx_isRef {C n d : String} {v : Value} {A : Nat → Prop} {s : State} {args : Array Value} (h : va_Z C n d v A s s.heap) (hv : v.isRef = true) : (Cond.isRef (.static C n d)).before args s = true := by
  obtain ⟨cf, kf, fi, f, a, cell, h1, h2, h3, h4, h5, h6, h7, -⟩ := h
  have he : (Term.static C n d).eval args s none [] s = some v := by
    simp [Term.eval, State.fieldNamed?, h1, h2, h4, h5, h6, h7]
  simp only [Cond.before, Cond.holds, Cond.value, he]
  cases v <;> simp_all [Value.isRef]
theorem vx_isRefq {C n d : String} {A : Nat → Prop} {s : State} {args : Array Value} (h : va_Zq C n d A s s.heap) : (Cond.isRef (.static C n d)).before args s = true := by
  rcases h with h | ⟨t, h⟩
  · exact vx_isRef h rfl
  · exact vx_isRef h rfl
/-- the same frame, seen from here: as if the method were called anew in this heap -/
theorem vx_rebase {T : State} (X : Stand p l e R s m args below meth c T locs cells slots) {R' : Room} (hf : R'.frames ≤ R.frames) (hl : R'.locals ≤ R.locals) (hc : cells + R'.cells ≤ R.cells) (hs : slots + R'.slots ≤ R.slots) :
    Stand p l e R' ((T.setVm s.vm).setFrames (.invoking m args :: below)) m args below meth c T [] 0 0 := by
  have htop : (T.setVm s.vm).topJava?.isSome := X.here.top
  have hF : ((T.setVm s.vm).setFrames (.invoking m args :: below)).frames = .invoking m args :: below := State.frames_setFrames _ (State.cur_lt_of_top htop)
  obtain ⟨g₀, hg0⟩ := Option.isSome_iff_exists.mp htop
  obtain ⟨r, hr⟩ := State.topJava?_eq_some.mp hg0
  have hl9 : e.platform.stackLimits (T.setVm s.vm).me = e.platform.stackLimits s.me := X.limits
  have hb9 : (T.setVm s.vm).me.stackBytes = s.me.stackBytes := X.bytes
  refine ⟨X.admits, X.cas, X.clock, hF, ?_, X.hears, X.method, X.code, X.here, X.tail, X.warmed, ?_, ?_, ?_⟩
  · have h := X.room
    have hU : ((T.setVm s.vm).setFrames (.invoking m args :: below)).localsInUse = s.localsInUse := by
      rw [State.localsInUse_invoking hF (meth := meth) (c := c) X.method X.code, State.localsInUse_invoking X.frames X.method X.code]
    simp only [State.hasRoom, Bool.and_eq_true, decide_eq_true_eq] at h ⊢
    obtain ⟨⟨⟨⟨h1, h2, h3, h4, h5, h6⟩, h7⟩, h8⟩, h9⟩ := h
    rw [X.frames, List.length_cons] at h2 h3
    have q1 := X.heapSize
    have q2 := X.used
    simp only [hF, hU, List.length_cons, State.stackLimits_setFrames, State.stackBytes_setFrames, hl9, hb9]
    refine ⟨⟨⟨⟨by omega, by omega, by omega, by omega, by omega, h6⟩, ?_⟩, ?_⟩, X.book⟩
    · show T.heap.size + R'.cells ≤ e.platform.maxCells
      omega
    · show T.slotsUsed + R'.slots ≤ e.platform.maxSlots
      omega
  · rw [State.stackLimits_setFrames]; rfl
  · rw [State.stackBytes_setFrames]; rfl
  · refine ⟨?_, Nat.le_refl _, Nat.le_refl _, ?_, ?_, fun a c9 h9 => ⟨c9, h9, rfl, rfl, fun _ _ => rfl⟩⟩
    · obtain ⟨t, ht, -⟩ := State.frames_cons hr
      show T.setVm s.vm = { ((T.setVm s.vm).setFrames (.invoking m args :: below)).setFrames (T.setVm s.vm).frames with heap := T.heap, slotsUsed := T.slotsUsed }
      rw [State.setFrames_setFrames, State.setFrames_self ht]
      rfl
    · show T.slotsUsed = T.slotsUsed + ((T.heap.toList.drop T.heap.size).map (·.slots.size)).sum
      rw [List.drop_eq_nil_of_le (Nat.le_of_eq Array.length_toList)]
      rfl
    · show ((T.heap.toList.drop T.heap.size).map (·.slots.size)).sum ≤ 0
      rw [List.drop_eq_nil_of_le (Nat.le_of_eq Array.length_toList)]
      exact Nat.le_refl _
/-- 'throw new E()': new; dup; invokespecial; athrow -/
theorem vx_throw0 {cc : ByteArray} {pc : Nat} (hexec : p.tables.exec = Jvm.exec) (hb : c.code = cc) (hl : l.stackTraces = false) {own cls : String} {names : List String} {ik ic mc ms : Nat} {A : Nat → Prop}
    (hown : s.vm.findClass own = some m.cls) (hcls : Jvm.Bundle.fit cls = true) (hnames : ∀ n ∈ names, Jvm.Bundle.fit n = true)
    (hk : (Cond.classLink own ik cls).before args s = true) (hini : (Cond.initialized cls).before args s = true) (hat : ∀ w ∈ vx_at0 own ic cls names, w.before args s = true)
    (hgood : ∀ w ∈ Cond.classLink own ik cls :: Cond.initialized cls :: vx_at0 own ic cls names, vx_ot w = true)
    (hU : vx_Zq Jvm.Bundle.tN "UNASSIGNED_STACK" Jvm.Bundle.steD A s s.heap) (hN : vx_Zq Jvm.Bundle.tN "SUPPRESSED_SENTINEL" Jvm.Bundle.listD A s s.heap) (hS : va_S A s.heap H locs) (hsize : ls.size = c.maxLocals)
    (d0 : decode cc pc = .ok (.new ik, 3)) (d3 : decode cc (pc + 3) = .ok (.dup, 1)) (d4 : decode cc (pc + 4) = .ok (.invokespecial ic, 3)) (d7 : decode cc (pc + 7) = .ok (.athrow, 1))
    (hout : ∀ x ∈ c.exceptionTable.toList, covers x (pc + 7) = false)
    (hRframes : names.length + 3 < R.frames) (hRlocals : (rest.map fun v => v.category).sum + (13 * (names.length + 1) + 42) ≤ R.locals) (hRcells : cells + 1 ≤ R.cells) (hRslots : slots + 6 ≤ R.slots) (hlocks : meth.locks = false)
    (hx : ∀ t : State, s.vm.Alike t.vm → H.size ≤ t.heap.size → (∀ q : Nat, q < H.size → t.heap[q]? = H[q]?) → XC cls s t)
    (hf : ∀ z ∈ locs, free z.base) (hc : cells + 1 ≤ mc) (hs : slots + 6 ≤ ms) :
    W p l e R s m args below meth c H locs cells slots (vx_MQ below Qc XC args s mc ms free) (F0 m pc ls rest) := by
  intro T hT X
  have htr : e.platform.stackTraces = false := (show e.platform.stackTraces = l.stackTraces by rw [X.admits.platform]).trans hl
  have Y := vx_rebase X (R' := { frames := R.frames, locals := R.locals, cells := 1, slots := 6 }) (Nat.le_refl _) (Nat.le_refl _) hRcells hRslots
  obtain ⟨s', hA⟩ : ∃ z, z = (T.setVm s.vm).setFrames (.invoking m args :: below) := ⟨_, rfl⟩
  rw [← hA] at Y
  have hvm : s'.vm = s.vm := by rw [hA]; rfl
  have hhp : s'.heap = H := by rw [hA]; exact hT
  have hW0 : s.WarmedH s'.vm := by rw [hvm]; exact State.WarmedH.refl s
  have hat' : ∀ w ∈ vx_at0 own ic cls names, w.before args s' = true := fun w hw => vx_ot_at hW0 hvm.symm (hgood w (List.mem_cons_of_mem _ (List.mem_cons_of_mem _ hw))) (hat w hw)
  have hk' : (Cond.classLink own ik cls).before args s' = true := vx_ot_at hW0 hvm.symm (hgood _ List.mem_cons_self) hk
  have hini' : (Cond.initialized cls).before args s' = true := vx_ot_at hW0 hvm.symm (hgood _ (List.mem_cons_of_mem _ List.mem_cons_self)) hini
  have hU' : vx_Zq Jvm.Bundle.tN "UNASSIGNED_STACK" Jvm.Bundle.steD A s' s'.heap := by rw [hhp]; exact vx_Zq.moved hW0.alike (hU.kept hS.2.1)
  have hN' : vx_Zq Jvm.Bundle.tN "SUPPRESSED_SENTINEL" Jvm.Bundle.listD A s' s'.heap := by rw [hhp]; exact vx_Zq.moved hW0.alike (hN.kept hS.2.1)
  have h : ∀ w ∈ Jvm.Bundle.ownAtoms0 own ic cls names, w.before args s' = true := vx_own hat' (vx_isRefq hU'.1) (vx_isRefq hN'.1) hU'.2.word hN'.2.word
  have hown' : s'.vm.findClass own = some m.cls := by rw [hvm]; exact hown
  have hins : (Cond.instantiable cls 6).before args s' = true := h _ (by simp [Jvm.Bundle.ownAtoms0])
  obtain ⟨vm₁, cX, kX, hfX, hkX, -, -, X₁, st1⟩ := Y.newCold hexec (own := own) (C := cls) (index := ik) (n := 6) hown' hk' hins hini'
    (g := F0 m pc ls rest) rfl (by rw [hb]; exact d0) (Nat.le_refl _) (Nat.le_refl _)
  generalize hT1 : (T.setVm vm₁).pushCell { cls := cX, slots := kX.instanceTypes.map defaultValue, vm := .none } = T1 at X₁ st1
  have hcat : (Value.ref T.heap.size).category = 1 := rfl
  have hcellA : T1.heap[T.heap.size]? = some (freshCell cX kX) := by rw [← hT1]; exact State.heap_pushCell_size _ _
  have d3' : decode c.code (pc + 3) = .ok (.dup, 1) := by rw [hb]; exact d3
  obtain ⟨U, hsteps, hrun, hend, hW, hsame, ce, hce, hO⟩ := X₁.ctorThrow0 hexec htr (own := own) (cls := cls) (names := names) (ic := ic) hown' hcls hnames h (fun x hx => nomatch hx) hfX hkX hcellA (by rw [hhp, hT]; exact Nat.le_refl _)
    (g := { method := m, pc := pc + 4, locals := ls, stack := .ref T.heap.size :: .ref T.heap.size :: rest, locked := none }) rfl hsize rfl rfl (rest := rest) rfl
    (by rw [hb]; exact d4) (by rw [hb]; exact d7) hout hRframes (by simp only [List.map_cons, List.sum_cons, hcat]; omega) hlocks
  obtain ⟨f1, f2⟩ := vx_frame hsame
  rw [hhp] at f1 f2
  have hWs : s.WarmedH U.vm := State.WarmedH.trans hW0 hW
  have hcl : s.vm.findClass cls = some ce.cls := by
    have h9 := hO.cls
    rw [hvm] at h9
    exact h9
  have hall : s.sameButNew ({ U with vm := s.vm } : State) locs mc ms := by
    subst hA
    obtain ⟨e1, e2⟩ := hsame
    rw [State.setFrames_setFrames] at e1
    have h2 : (T.setVm s.vm).sameButNew ({ U with vm := s.vm } : State) [] (0 + 1) (0 + 6) := ⟨e1, e2⟩
    have h3 := X.same.trans h2
    rw [List.append_nil] at h3
    exact h3.mono hc hs
  refine ⟨U, ?_, .threw T.heap.size, hrun, hend, Or.inr ⟨T.heap.size, rfl, cls, ce, locs, hx U hWs.alike f1 (fun q hq => f2 q hq (fun z hz => nomatch hz)), hce, hO.vm, hcl, hWs, hall, hf⟩⟩
  refine st1 _ ?_
  show Steps p.tables e below (T1.setTop { method := m, pc := pc + 3, locals := ls, stack := .ref T.heap.size :: rest, locked := none }) _
  jvm_step X₁.here [X₁.here.top, hexec, d3', Value.category]
  exact hsteps
/-- 'throw new E("text")': new; dup; ldc; invokespecial; athrow -/
theorem vx_throwS {cc : ByteArray} {pc : Nat} (hexec : p.tables.exec = Jvm.exec) (hb : c.code = cc) (hl : l.stackTraces = false) {own cls text : String} {names : List String} {ik is ic mc ms sa : Nat} {A : Nat → Prop}
    (hown : s.vm.findClass own = some m.cls) (hcls : Jvm.Bundle.fit cls = true) (hnames : ∀ n ∈ names, Jvm.Bundle.fit n = true)
    (hk : (Cond.classLink own ik cls).before args s = true) (hini : (Cond.initialized cls).before args s = true) (hstr : vk_R own is text sa s) (hat : ∀ w ∈ vx_atS own ic cls names, w.before args s = true)
    (hgood : ∀ w ∈ Cond.classLink own ik cls :: Cond.initialized cls :: vx_atS own ic cls names, vx_ot w = true)
    (hU : vx_Zq Jvm.Bundle.tN "UNASSIGNED_STACK" Jvm.Bundle.steD A s s.heap) (hN : vx_Zq Jvm.Bundle.tN "SUPPRESSED_SENTINEL" Jvm.Bundle.listD A s s.heap) (hS : va_S A s.heap H locs) (hsize : ls.size = c.maxLocals)
    (d0 : decode cc pc = .ok (.new ik, 3)) (d3 : decode cc (pc + 3) = .ok (.dup, 1)) (d4 : decode cc (pc + 4) = .ok (.ldc is, 2)) (d6 : decode cc (pc + 6) = .ok (.invokespecial ic, 3)) (d9 : decode cc (pc + 9) = .ok (.athrow, 1))
    (hout : ∀ x ∈ c.exceptionTable.toList, covers x (pc + 9) = false)
    (hRframes : names.length + 3 < R.frames) (hRlocals : (rest.map fun v => v.category).sum + (13 * (names.length + 1) + 43) ≤ R.locals) (hRcells : cells + 1 ≤ R.cells) (hRslots : slots + 6 ≤ R.slots) (hlocks : meth.locks = false)
    (hx : ∀ t : State, s.vm.Alike t.vm → H.size ≤ t.heap.size → (∀ q : Nat, q < H.size → t.heap[q]? = H[q]?) → XC cls s t)
    (hf : ∀ z ∈ locs, free z.base) (hc : cells + 1 ≤ mc) (hs : slots + 6 ≤ ms) :
    W p l e R s m args below meth c H locs cells slots (vx_MQ below Qc XC args s mc ms free) (F0 m pc ls rest) := by
  intro T hT X
  have htr : e.platform.stackTraces = false := (show e.platform.stackTraces = l.stackTraces by rw [X.admits.platform]).trans hl
  have Y := vx_rebase X (R' := { frames := R.frames, locals := R.locals, cells := 1, slots := 6 }) (Nat.le_refl _) (Nat.le_refl _) hRcells hRslots
  obtain ⟨s', hA⟩ : ∃ z, z = (T.setVm s.vm).setFrames (.invoking m args :: below) := ⟨_, rfl⟩
  rw [← hA] at Y
  have hvm : s'.vm = s.vm := by rw [hA]; rfl
  have hhp : s'.heap = H := by rw [hA]; exact hT
  have hW0 : s.WarmedH s'.vm := by rw [hvm]; exact State.WarmedH.refl s
  have hat' : ∀ w ∈ vx_atS own ic cls names, w.before args s' = true := fun w hw => vx_ot_at hW0 hvm.symm (hgood w (List.mem_cons_of_mem _ (List.mem_cons_of_mem _ hw))) (hat w hw)
  have hk' : (Cond.classLink own ik cls).before args s' = true := vx_ot_at hW0 hvm.symm (hgood _ List.mem_cons_self) hk
  have hini' : (Cond.initialized cls).before args s' = true := vx_ot_at hW0 hvm.symm (hgood _ (List.mem_cons_of_mem _ List.mem_cons_self)) hini
  have hU' : vx_Zq Jvm.Bundle.tN "UNASSIGNED_STACK" Jvm.Bundle.steD A s' s'.heap := by rw [hhp]; exact vx_Zq.moved hW0.alike (hU.kept hS.2.1)
  have hN' : vx_Zq Jvm.Bundle.tN "SUPPRESSED_SENTINEL" Jvm.Bundle.listD A s' s'.heap := by rw [hhp]; exact vx_Zq.moved hW0.alike (hN.kept hS.2.1)
  have h : ∀ w ∈ Jvm.Bundle.ownAtoms own ic cls names, w.before args s' = true := vx_own hat' (vx_isRefq hU'.1) (vx_isRefq hN'.1) hU'.2.word hN'.2.word
  have hown' : s'.vm.findClass own = some m.cls := by rw [hvm]; exact hown
  have hins : (Cond.instantiable cls 6).before args s' = true := h _ (by simp [Jvm.Bundle.ownAtoms])
  obtain ⟨vm₁, cX, kX, hfX, hkX, -, -, X₁, st1⟩ := Y.newCold hexec (own := own) (C := cls) (index := ik) (n := 6) hown' hk' hins hini'
    (g := F0 m pc ls rest) rfl (by rw [hb]; exact d0) (Nat.le_refl _) (Nat.le_refl _)
  generalize hT1 : (T.setVm vm₁).pushCell { cls := cX, slots := kX.instanceTypes.map defaultValue, vm := .none } = T1 at X₁ st1
  have hcat : (Value.ref T.heap.size).category = 1 := rfl
  have hcellA : T1.heap[T.heap.size]? = some (freshCell cX kX) := by rw [← hT1]; exact State.heap_pushCell_size _ _
  have d3' : decode c.code (pc + 3) = .ok (.dup, 1) := by rw [hb]; exact d3
  have d4' : decode c.code (pc + 4) = .ok (.ldc is, 2) := by rw [hb]; exact d4
  have hstr' : vk_R own is text sa s' := vk_R.warm hW0 hstr
  obtain ⟨U, hsteps, hrun, hend, hW, hsame, ce, hce, hO⟩ := X₁.ctorThrowS hexec htr (own := own) (cls := cls) (names := names) (ic := ic) hown' hcls hnames h (fun x hx => nomatch hx) hfX hkX hcellA (by rw [hhp, hT]; exact Nat.le_refl _) (msg := .ref sa) rfl
    (g := { method := m, pc := pc + 6, locals := ls, stack := .ref sa :: .ref T.heap.size :: .ref T.heap.size :: rest, locked := none }) rfl hsize rfl rfl (rest := rest) rfl
    (by rw [hb]; exact d6) (by rw [hb]; exact d9) hout hRframes (by simp only [List.map_cons, List.sum_cons, hcat]; omega) hlocks
  obtain ⟨f1, f2⟩ := vx_frame hsame
  rw [hhp] at f1 f2
  have hWs : s.WarmedH U.vm := State.WarmedH.trans hW0 hW
  have hcl : s.vm.findClass cls = some ce.cls := by
    have h9 := hO.cls
    rw [hvm] at h9
    exact h9
  have hall : s.sameButNew ({ U with vm := s.vm } : State) locs mc ms := by
    subst hA
    obtain ⟨e1, e2⟩ := hsame
    rw [State.setFrames_setFrames] at e1
    have h2 : (T.setVm s.vm).sameButNew ({ U with vm := s.vm } : State) [] (0 + 1) (0 + 6) := ⟨e1, e2⟩
    have h3 := X.same.trans h2
    rw [List.append_nil] at h3
    exact h3.mono hc hs
  refine ⟨U, ?_, .threw T.heap.size, hrun, hend, Or.inr ⟨T.heap.size, rfl, cls, ce, locs, hx U hWs.alike f1 (fun q hq => f2 q hq (fun z hz => nomatch hz)), hce, hO.vm, hcl, hWs, hall, hf⟩⟩
  refine st1 _ ?_
  show Steps p.tables e below (T1.setTop { method := m, pc := pc + 3, locals := ls, stack := .ref T.heap.size :: rest, locked := none }) _
  jvm_step X₁.here [X₁.here.top, hexec, d3', Value.category]
  exact X₁.ldcString hexec (own := own) (text := text) (index := is) (a := sa) hown' hstr'.1 hstr'.2
    (g := { method := m, pc := pc + 4, locals := ls, stack := .ref T.heap.size :: .ref T.heap.size :: rest, locked := none }) rfl d4' _ hsteps
/-- 'throw new E("text")', the text by a wide index -/
theorem vx_throwSW {cc : ByteArray} {pc : Nat} (hexec : p.tables.exec = Jvm.exec) (hb : c.code = cc) (hl : l.stackTraces = false) {own cls text : String} {names : List String} {ik is ic mc ms sa : Nat} {A : Nat → Prop}
    (hown : s.vm.findClass own = some m.cls) (hcls : Jvm.Bundle.fit cls = true) (hnames : ∀ n ∈ names, Jvm.Bundle.fit n = true)
    (hk : (Cond.classLink own ik cls).before args s = true) (hini : (Cond.initialized cls).before args s = true) (hstr : vk_R own is text sa s) (hat : ∀ w ∈ vx_atS own ic cls names, w.before args s = true)
    (hgood : ∀ w ∈ Cond.classLink own ik cls :: Cond.initialized cls :: vx_atS own ic cls names, vx_ot w = true)
    (hU : vx_Zq Jvm.Bundle.tN "UNASSIGNED_STACK" Jvm.Bundle.steD A s s.heap) (hN : vx_Zq Jvm.Bundle.tN "SUPPRESSED_SENTINEL" Jvm.Bundle.listD A s s.heap) (hS : va_S A s.heap H locs) (hsize : ls.size = c.maxLocals)
    (d0 : decode cc pc = .ok (.new ik, 3)) (d3 : decode cc (pc + 3) = .ok (.dup, 1)) (d4 : decode cc (pc + 4) = .ok (.ldc_w is, 3)) (d7 : decode cc (pc + 7) = .ok (.invokespecial ic, 3)) (d10 : decode cc (pc + 10) = .ok (.athrow, 1))
    (hout : ∀ x ∈ c.exceptionTable.toList, covers x (pc + 10) = false)
    (hRframes : names.length + 3 < R.frames) (hRlocals : (rest.map fun v => v.category).sum + (13 * (names.length + 1) + 43) ≤ R.locals) (hRcells : cells + 1 ≤ R.cells) (hRslots : slots + 6 ≤ R.slots) (hlocks : meth.locks = false)
    (hx : ∀ t : State, s.vm.Alike t.vm → H.size ≤ t.heap.size → (∀ q : Nat, q < H.size → t.heap[q]? = H[q]?) → XC cls s t)
    (hf : ∀ z ∈ locs, free z.base) (hc : cells + 1 ≤ mc) (hs : slots + 6 ≤ ms) :
    W p l e R s m args below meth c H locs cells slots (vx_MQ below Qc XC args s mc ms free) (F0 m pc ls rest) := by
  intro T hT X
  have htr : e.platform.stackTraces = false := (show e.platform.stackTraces = l.stackTraces by rw [X.admits.platform]).trans hl
  have Y := vx_rebase X (R' := { frames := R.frames, locals := R.locals, cells := 1, slots := 6 }) (Nat.le_refl _) (Nat.le_refl _) hRcells hRslots
  obtain ⟨s', hA⟩ : ∃ z, z = (T.setVm s.vm).setFrames (.invoking m args :: below) := ⟨_, rfl⟩
  rw [← hA] at Y
  have hvm : s'.vm = s.vm := by rw [hA]; rfl
  have hhp : s'.heap = H := by rw [hA]; exact hT
  have hW0 : s.WarmedH s'.vm := by rw [hvm]; exact State.WarmedH.refl s
  have hat' : ∀ w ∈ vx_atS own ic cls names, w.before args s' = true := fun w hw => vx_ot_at hW0 hvm.symm (hgood w (List.mem_cons_of_mem _ (List.mem_cons_of_mem _ hw))) (hat w hw)
  have hk' : (Cond.classLink own ik cls).before args s' = true := vx_ot_at hW0 hvm.symm (hgood _ List.mem_cons_self) hk
  have hini' : (Cond.initialized cls).before args s' = true := vx_ot_at hW0 hvm.symm (hgood _ (List.mem_cons_of_mem _ List.mem_cons_self)) hini
  have hU' : vx_Zq Jvm.Bundle.tN "UNASSIGNED_STACK" Jvm.Bundle.steD A s' s'.heap := by rw [hhp]; exact vx_Zq.moved hW0.alike (hU.kept hS.2.1)
  have hN' : vx_Zq Jvm.Bundle.tN "SUPPRESSED_SENTINEL" Jvm.Bundle.listD A s' s'.heap := by rw [hhp]; exact vx_Zq.moved hW0.alike (hN.kept hS.2.1)
  have h : ∀ w ∈ Jvm.Bundle.ownAtoms own ic cls names, w.before args s' = true := vx_own hat' (vx_isRefq hU'.1) (vx_isRefq hN'.1) hU'.2.word hN'.2.word
  have hown' : s'.vm.findClass own = some m.cls := by rw [hvm]; exact hown
  have hins : (Cond.instantiable cls 6).before args s' = true := h _ (by simp [Jvm.Bundle.ownAtoms])
  obtain ⟨vm₁, cX, kX, hfX, hkX, -, -, X₁, st1⟩ := Y.newCold hexec (own := own) (C := cls) (index := ik) (n := 6) hown' hk' hins hini'
    (g := F0 m pc ls rest) rfl (by rw [hb]; exact d0) (Nat.le_refl _) (Nat.le_refl _)
  generalize hT1 : (T.setVm vm₁).pushCell { cls := cX, slots := kX.instanceTypes.map defaultValue, vm := .none } = T1 at X₁ st1
  have hcat : (Value.ref T.heap.size).category = 1 := rfl
  have hcellA : T1.heap[T.heap.size]? = some (freshCell cX kX) := by rw [← hT1]; exact State.heap_pushCell_size _ _
  have d3' : decode c.code (pc + 3) = .ok (.dup, 1) := by rw [hb]; exact d3
  have d4' : decode c.code (pc + 4) = .ok (.ldc_w is, 3) := by rw [hb]; exact d4
  have hstr' : vk_R own is text sa s' := vk_R.warm hW0 hstr
  obtain ⟨U, hsteps, hrun, hend, hW, hsame, ce, hce, hO⟩ := X₁.ctorThrowS hexec htr (own := own) (cls := cls) (names := names) (ic := ic) hown' hcls hnames h (fun x hx => nomatch hx) hfX hkX hcellA (by rw [hhp, hT]; exact Nat.le_refl _) (msg := .ref sa) rfl
    (g := { method := m, pc := pc + 7, locals := ls, stack := .ref sa :: .ref T.heap.size :: .ref T.heap.size :: rest, locked := none }) rfl hsize rfl rfl (rest := rest) rfl
    (by rw [hb]; exact d7) (by rw [hb]; exact d10) hout hRframes (by simp only [List.map_cons, List.sum_cons, hcat]; omega) hlocks
  obtain ⟨f1, f2⟩ := vx_frame hsame
  rw [hhp] at f1 f2
  have hWs : s.WarmedH U.vm := State.WarmedH.trans hW0 hW
  have hcl : s.vm.findClass cls = some ce.cls := by
    have h9 := hO.cls
    rw [hvm] at h9
    exact h9
  have hall : s.sameButNew ({ U with vm := s.vm } : State) locs mc ms := by
    subst hA
    obtain ⟨e1, e2⟩ := hsame
    rw [State.setFrames_setFrames] at e1
    have h2 : (T.setVm s.vm).sameButNew ({ U with vm := s.vm } : State) [] (0 + 1) (0 + 6) := ⟨e1, e2⟩
    have h3 := X.same.trans h2
    rw [List.append_nil] at h3
    exact h3.mono hc hs
  refine ⟨U, ?_, .threw T.heap.size, hrun, hend, Or.inr ⟨T.heap.size, rfl, cls, ce, locs, hx U hWs.alike f1 (fun q hq => f2 q hq (fun z hz => nomatch hz)), hce, hO.vm, hcl, hWs, hall, hf⟩⟩
  refine st1 _ ?_
  show Steps p.tables e below (T1.setTop { method := m, pc := pc + 3, locals := ls, stack := .ref T.heap.size :: rest, locked := none }) _
  jvm_step X₁.here [X₁.here.top, hexec, d3', Value.category]
  exact X₁.ldcStringW hexec (own := own) (text := text) (index := is) (a := sa) hown' hstr'.1 hstr'.2
    (g := { method := m, pc := pc + 4, locals := ls, stack := .ref T.heap.size :: .ref T.heap.size :: rest, locked := none }) rfl d4' _ hsteps
end Ends
section Bodies
variable {l : Launch}
theorem vx_ofW {y : MethodName} {ws ws' : List Cond} {rm : Room} {Pc : Array Value → State → Prop} {Qc : Array Value → State → Outcome → State → Prop} {XC : String → State → State → Prop} {mc ms : Nat} {free : Addr → Prop} {cc : ByteArray} {maxL : Nat} {ret : Option FieldType}
    (hy : plainName y.cls = true) (hw : ws = Cond.code y cc maxL ret :: ws')
    (body : ∀ p e s m args below meth c s₁, BodyLoose p l y (headSpec ws rm) cc maxL ret e s m args below meth c s₁ → c.maxLocals = maxL → (∀ x ∈ c.exceptionTable.toList, False) → Pc args s →
      W p l e (headSpec ws rm).room s m args below meth c s.heap [] 0 0 (vx_MQ below Qc XC args s mc ms free) (entryFrame m args maxL)) : vx_Met l y ws rm Pc Qc XC mc ms free := by
  refine MetFree.of_bodyS (code := cc) (maxLocals := maxL) (ret := ret) hy ?_ ?_
  · intro args s m h hn
    obtain ⟨meth, c, h1, h2, h3, h4, h5, h6, -, -⟩ := Cond.code_spec hn (atoms_spec (ws := ws) h _ (by rw [hw]; exact List.mem_cons_self))
    exact ⟨meth, c, h1, h2, h3, h4, h5, h6⟩
  · intro p e s m args below meth c s₁ B hml hP _
    have hh0 : s₁.heap = s.heap := by rw [B.state]; rfl
    have ht : ∀ x ∈ c.exceptionTable.toList, False := by
      obtain ⟨meth9, c9, h1, h2, -, -, -, -, h7, -⟩ := Cond.code_spec B.named (atoms_spec (ws := ws) B.pre _ (by rw [hw]; exact List.mem_cons_self))
      cases Option.some.inj (h1.symm.trans B.method)
      cases Option.some.inj (h2.symm.trans (Stand.of_body B).code)
      intro x hx
      rw [Array.isEmpty_iff.mp h7] at hx
      cases hx
    obtain ⟨t, a1, o, b1, b2, b3⟩ := body p e s m args below meth c s₁ B hml ht hP s₁ hh0 (Stand.of_body B)
    exact ⟨t, o, a1, b1, b2, b3⟩
/-- the table of a body with handlers -/
theorem vx_table {p : Program} {x y : MethodName} {S : Spec} {cc bytes : ByteArray} {maxL maxL' : Nat} {ret ret' : Option FieldType} {e : Env} {s s₁ : State} {m : MethodId} {args : Array Value} {below : List Frame} {meth : Method} {c : Code} {hh : List (Nat × Nat × Nat × Nat)}
    (B : BodyLoose p l y S cc maxL ret e s m args below meth c s₁) (h : (Cond.codeWith y bytes maxL' ret' hh).before args s = true) : c.exceptionTable.toList = tableOf hh := by
  obtain ⟨m9, meth9, c9, hn9, h1, h2, -, -, h6, -⟩ := Cond.codeWith_spec h
  cases Option.some.inj (hn9.symm.trans B.named)
  cases Option.some.inj (h1.symm.trans B.method)
  cases Option.some.inj (h2.symm.trans (Stand.of_body B).code)
  rw [← h6, table_eq]
end Bodies
end VXA
/-! ===== END ===== -/
/-! ===== BEGIN a static call of a method with an exception table ===== -/
section VXS
variable {p : Program} {l : Launch} {e : Env} {R : Room} {s : State} {m : MethodId} {args : Array Value} {below : List Frame} {meth : Method} {c : Code} {T : State} {H : Heap} {locs : List Loc} {cells slots : Nat}
abbrev vx_CSW (R : Room) (s : State) (args : Array Value) (own : String) (index : Nat) (y : MethodName) (bytes : ByteArray) (maxL : Nat) (ret : Option FieldType) (hh : List (Nat × Nat × Nat × Nat)) (ws : List Cond) (rm : Room) (mc ms n : Nat) : Prop :=
  (rm.cells = mc ∧ rm.slots = ms ∧ rm.frames + 1 ≤ R.frames ∧ 8 + (maxL + 11) + rm.locals ≤ R.locals ∧ (∀ w ∈ ws, ∀ (a' : Array Value) (U : State), s.WarmedH U.vm → w.before a' U = true) ∧ Cond.codeWith y bytes maxL ret hh ∈ ws) ∧
  (Cond.codeWith y bytes maxL ret hh).before args s = true ∧ (Cond.initialized y.cls).before args s = true ∧ (y.cls ≠ "java/lang/invoke/MethodHandle" ∧ y.cls ≠ "java/lang/invoke/VarHandle") ∧
  (∀ sig, parseMethodDescriptor y.desc = some sig → n = sig.parameters.length) ∧ (Cond.methodLink own index y).before args s = true ∧ (Cond.static y).before args s = true
theorem vx_cwSW {own : String} {index maxL mc ms : Nat} {y : MethodName} {bytes : ByteArray} {ret : Option FieldType} {hh : List (Nat × Nat × Nat × Nat)} {Ts ws ws' : List Cond} {rm : Room} (n : Nat) (ht : ∀ w ∈ Ts, w.before args s = true) (hT : GoodIn Ts (va_wsS own index y ws)) (hw : ws = Cond.codeWith y bytes maxL ret hh :: ws') (hrc : rm.cells = mc) (hrs : rm.slots = ms)
    (hd : y.cls ≠ "java/lang/invoke/MethodHandle" ∧ y.cls ≠ "java/lang/invoke/VarHandle" ∧ (parseMethodDescriptor y.desc).map (fun d => d.parameters.length) = some n) (hR : rm.frames + 1 ≤ R.frames ∧ 8 + (maxL + 11) + rm.locals ≤ R.locals) :
    vx_CSW R s args own index y bytes maxL ret hh ws rm mc ms n := by
  have ok : ∀ w ∈ va_wsS own index y ws, w.before args s = true := fun w h => ht w (hT w h).1
  have hG : GoodIn Ts ws := fun w h => hT w (by unfold va_wsS; exact List.mem_append_right _ h)
  have hc : Cond.codeWith y bytes maxL ret hh ∈ ws := by rw [hw]; exact List.mem_cons_self
  refine ⟨⟨hrc, hrs, hR.1, hR.2, pay_in ht hG, hc⟩, ht _ (hG _ hc).1, ok _ (by simp [va_wsS]), ⟨hd.1, hd.2.1⟩, fun sig h => ?_, ok _ (by simp [va_wsS]), ok _ (by simp [va_wsS])⟩
  have h2 := hd.2.2
  rw [h] at h2
  exact (Option.some.inj h2).symm
theorem vx_callSW (X : Stand p l e R s m args below meth c T locs cells slots) (hexec : p.tables.exec = Jvm.exec) {own : String} {index : Nat} {y : MethodName} {bytes : ByteArray} {maxL : Nat} {ret : Option FieldType} {hh : List (Nat × Nat × Nat × Nat)}
    (hown : s.vm.findClass own = some m.cls) (hlink : (Cond.methodLink own index y).before args s = true) (hstat : (Cond.static y).before args s = true) (hinit : (Cond.initialized y.cls).before args s = true)
    (hcode : (Cond.codeWith y bytes maxL ret hh).before args s = true) (hy : y.cls ≠ "java/lang/invoke/MethodHandle" ∧ y.cls ≠ "java/lang/invoke/VarHandle")
    {W9 : Nat} {Pre : Pt → Array Value → Prop} {Post : Pt → Array Value → Option Value → Pt → Prop} (hK : Back l R p e below s args y 3 W9 Pre Post)
    {g : JFrame} (hg : g.method = m) (hsize : g.locals.size = c.maxLocals) {argsL rest : List Value} (hlen : ∀ sig, parseMethodDescriptor y.desc = some sig → argsL.length = sig.parameters.length)
    (hstack : g.stack = argsL.reverse ++ rest) (hW : 2 * g.monitorRoom + (rest.map fun v => v.category).sum ≤ W9) (hdg : decode c.code g.pc = .ok (.invokestatic index, 3))
    (hpre : ∀ vm₁, s.WarmedH vm₁ → Pre ⟨T.setVm vm₁, locs, cells, slots⟩ argsL.toArray) :
    ∃ (v : Option Value) (vm₁ : Vm) (B : Pt), s.WarmedH vm₁ ∧ Stand p l e R s m args below meth c B.U B.locs B.cells B.slots ∧ Post ⟨T.setVm vm₁, locs, cells, slots⟩ argsL.toArray v B ∧
      ∀ target, Steps p.tables e below (B.U.setTop { g with pc := g.pc + 3, stack := v.toList ++ rest }) target → Steps p.tables e below (T.setTop g) target := by
  obtain ⟨mk, methM, cM, hnamed, hmethM, -, -, -, -, -, -, hsigM⟩ := Cond.codeWith_spec hcode
  have hstatic : methM.isStatic = true := Cond.static_spec hnamed hmethM hstat
  obtain ⟨kP, hkP, -⟩ := className_of_methodNamed hnamed
  have hinitP : kP.init = .initialized := Cond.initialized_spec (findClass_of_methodNamed hnamed) hkP hinit
  obtain ⟨vm₁, X₁, hstep₁⟩ := X.invokestatic hexec hown hlink hnamed hmethM hstatic hkP hinitP hy (g := g) hg (argsL := argsL) (rest := rest) (hlen _ hsigM) hstack hdg
  obtain ⟨v, B, X', hpost, hsteps⟩ := hK m meth c ⟨T.setVm vm₁, locs, cells, slots⟩ { g with stack := rest } (.invokestatic index) mk argsL.toArray X₁ hg hsize hdg hW (X₁.named hnamed) (hpre vm₁ X₁.warmed)
  exact ⟨v, vm₁, B, X₁.warmed, X', hpost, fun target h => hstep₁ _ fun acts => by rw [doInvoke_state]; exact hsteps.trans h⟩
theorem vx_runSW {y : MethodName} {bytes cc : ByteArray} {maxL nL mc ms n index : Nat} {ret : Option FieldType} {hh : List (Nat × Nat × Nat × Nat)} {ws : List Cond} {rm : Room} {Pc : Array Value → State → Prop} {Qc : Array Value → State → Outcome → State → Prop} {free : Addr → Prop} {Ts : List Cond} {own : String} {As rest : List Value} {g : JFrame}
    (S : CallFix p m c cc nL s args Ts own) (hM : Met l y ws rm Pc Qc mc ms free) (cw : vx_CSW R s args own index y bytes maxL ret hh ws rm mc ms n) (hp : PreS s H Pc As)
    (hg : g.method = m) (hn : As.length = n) (hsize : g.locals.size = nL) (hstack : g.stack = As.reverse ++ rest) (hW : 2 * g.monitorRoom + (rest.map fun v => v.category).sum ≤ 8) (hdg : decode cc g.pc = .ok (.invokestatic index, 3)) (hf : cells + mc ≤ R.cells ∧ slots + ms ≤ R.slots) :
    va_Run p l e R s m args below meth c H locs cells slots mc ms g rest (Qc As.toArray) (free) := by
  obtain ⟨⟨hrc, hrs, hfr, hlo, hws, hcw⟩, hcode, hini, hy, hlen, hl, hstt⟩ := cw
  have hK : Back l R p e below s args y 3 8 (PreOf R mc ms Pc) (PostOf Qc mc ms free) := va_backW (hh := hh) (bytes := bytes) (maxL := maxL) (ret := ret) hM hp.1 hrc hrs hfr hlo hws hcw (fun a' U hW => word_at hW (Or.inl (by first | rfl | simp [Cond.onTables, Cond.keeps, Cond.steady])) hini)
  obtain ⟨hx, hb, hml, ho, -⟩ := S
  intro T hT X
  obtain ⟨v, vm₁, ⟨U', l2, c2, s2⟩, hW₁, X', ⟨g', mk, t, L, e1, e2, hq, h1, hL, h2, h3⟩, st⟩ := vx_callSW X hx (hh := hh) (bytes := bytes) (maxL := maxL) (ret := ret) ho hl hstt hini hcode hy hK hg (hsize.trans hml.symm) (argsL := As) (rest := rest) (fun sig h => hn.trans (hlen sig h)) hstack hW (by rw [hb]; exact hdg)
    (fun vm₁ hW₁ => ⟨hf.1, hf.2, hp.2 (T.setVm vm₁) hT hW₁⟩)
  dsimp only [Pt.U, Pt.locs, Pt.cells, Pt.slots] at X' e1 e2 h1 h2 h3 st
  subst h1; subst h2; subst h3
  exact ⟨v, (T.setVm vm₁).calling g' mk As.toArray, t, U', L, hT, X', hL, e1, e2, hq, st⟩
/-- a thing of a world lies in the heap -/
theorem vx_lt {D : va_G} {cl : List vw_C} {ws : va_W} {H1 : Heap} (h : va_P D cl ws H1) {k : Nat} {q : Nat × va_E} (hk : ws[k]? = some q) : q.1 < H1.size := (h k q hk).lt
end VXS
/-! ===== END ===== -/
/-! ===== BEGIN methods with a table of their own: called by a name, returning or throwing ===== -/
section VXH
/-! vx_backW, vx_callVX, vx_callSX, vx_callVW, vx_runVW, vx_runVX, vx_runSX, vx_ofWH follow the same proofs as their sisters above (Free/Laws.lean, Shelf42/LK1.lean); vx_outP calls Shelf42/NT130.lean (outThrough). -/
section
variable {l : Launch} {R : Room} {p : Program} {e : Env} {below : List Frame} {s : State} {sargs : Array Value} {y : MethodName} {len W9 : Nat}
theorem vx_backW {ws : List Cond} {rm : Room} {Pc : Array Value → State → Prop} {Qc : Array Value → State → Outcome → State → Prop} {XC : String → State → State → Prop} {mc ms : Nat} {free : Addr → Prop} {bytes : ByteArray} {maxL : Nat} {ret : Option FieldType} {hh : List (Nat × Nat × Nat × Nat)}
    (hM : vx_Met l y ws rm Pc Qc XC mc ms free) (hblind : FrameBlind Pc) (hrc : rm.cells = mc) (hrs : rm.slots = ms)
    (hframes : rm.frames + 1 ≤ R.frames) (hlocals : W9 + (maxL + 11) + rm.locals ≤ R.locals)
    (hws : ∀ w ∈ ws, ∀ a' U, s.WarmedH U.vm → w.before a' U = true) (hcode : Cond.codeWith y bytes maxL ret hh ∈ ws) (hinit : ∀ a' U, s.WarmedH U.vm → (Cond.initialized y.cls).before a' U = true) :
    vx_Back l R p e below s sargs y len W9 (PreOf R mc ms Pc) (PostOf Qc mc ms free) (vx_Post XC mc ms free) := by
  intro m meth c A g ig mk a X hg hsize hdg hW hn hp
  have h1 : (headSpec ws rm).pre.before a A.U = true := atoms_intro fun w hw => hws w hw _ _ X.warmed
  have h2 : (Cond.codeWith y bytes maxL ret hh).before a A.U = true := hws _ hcode _ _ X.warmed
  have h3 : (Cond.initialized y.cls).before a A.U = true := hinit _ _ X.warmed
  have h4 : A.cells + (headSpec ws rm).room.cells ≤ R.cells := by rw [show (headSpec ws rm).room.cells = mc from hrc]; exact hp.1
  have h5 : A.slots + (headSpec ws rm).room.slots ≤ R.slots := by rw [show (headSpec ws rm).room.slots = ms from hrs]; exact hp.2.1
  have hPc : Pc a (A.U.calling g mk a) := hblind _ _ _ _ hp.2.2
  obtain ⟨U, Ls, c0, s0⟩ := A
  dsimp only [Pt.U, Pt.locs, Pt.cells, Pt.slots] at h1 h2 h3 h4 h5 X hn hPc ⊢
  obtain ⟨m9, methY, cY, hn9, hmY, hcY, -, hlY, -⟩ := Cond.codeWith_spec h2
  cases Option.some.inj (hn9.symm.trans hn)
  obtain ⟨kY, hkY, -⟩ := className_of_methodNamed hn
  have hinitY : kY.init = .initialized := Cond.initialized_spec (findClass_of_methodNamed hn) hkY h3
  have h : At U g.method c below := by rw [hg]; exact X.here
  have hlocals9 : W9 + (maxL + 11) + (headSpec ws rm).room.locals ≤ R.locals := hlocals
  have happ : (headSpec ws rm).appliesLoose y e.platform (U.calling g mk a) = true :=
    Spec.appliesLoose_calling (g := g) h hdg hn hkY hinitY
      (X.room_calling (g := g) (R' := (headSpec ws rm).room) hsize hmY hcY hframes (by rw [hlY]; omega) h4 h5) h1
  obtain ⟨mid, hmid⟩ := h.above
  have hfr : (U.setTop g).frames = (.java g :: mid) ++ below := by rw [State.frames_setTop' g h.top, hmid]; rfl
  obtain ⟨o, s₂, hsteps, -, hend, hq⟩ := Steps.callFree hM p X.admits X.cas X.clock (acts := []) hfr happ hPc trivial
  have hq' : vx_Q Qc XC mc ms free a (U.calling g mk a) o s₂ := hq
  rw [State.frames_setTop' g h.top] at hend
  obtain ⟨g₀, hg0⟩ := Option.isSome_iff_exists.mp h.top
  obtain ⟨r, hr⟩ := State.topJava?_eq_some.mp hg0
  have hr' : (({ U with heap := s₂.heap, slotsUsed := s₂.slotsUsed } : State).setVm s₂.vm).frames = .java g₀ :: r := hr
  rcases hq' with ⟨hqc, L, hfe, hL⟩ | ⟨q, rfl, E, ce, L, hx, hce, hcv, hcl, hW₂, hsm, hL⟩
  · obtain ⟨⟨v, rfl⟩, hW₂, e2, q2, q3, q4, q5, q6⟩ := id hfe
    have e3 : s₂ = ({ (U.calling g mk a).setFrames s₂.frames with heap := s₂.heap, slotsUsed := s₂.slotsUsed } : State).setVm s₂.vm := by
      have : s₂ = ({ s₂ with vm := (U.calling g mk a).vm } : State).setVm s₂.vm := rfl
      rw [e2] at this
      exact this
    obtain ⟨c₂, i₂, len₂, hc₂, hd₂, hf₂⟩ := hend
    have hW' : U.WarmedH s₂.vm := hW₂
    have hcc : c₂ = c := by
      have h1 : s₂.code? g.method = U.code? g.method := by
        rw [State.code?_eq, State.code?_eq, hW'.alike.method?]
      exact Option.some.inj (hc₂.symm.trans (h1.trans h.code))
    subst hcc
    have hlen : len₂ = len := by rw [hdg] at hd₂; cases hd₂; rfl
    subst hlen
    have hs₂ : s₂ = (({ U with heap := s₂.heap, slotsUsed := s₂.slotsUsed } : State).setVm s₂.vm).setTop { g with pc := g.pc + len₂, stack := v.toList ++ g.stack } := by
      refine e3.trans ?_
      rw [hf₂, State.calling_eq h.top, State.setFrames_setFrames, State.setTop_of_frames _ hr', hr]
      rfl
    have hsame : U.sameButNew ({ U with heap := s₂.heap, slotsUsed := s₂.slotsUsed } : State) L mc ms := by
      refine ⟨?_, q2, q3, q4, q5, q6⟩
      obtain ⟨t, ht, -⟩ := State.frames_cons hr
      show ({ U with heap := s₂.heap, slotsUsed := s₂.slotsUsed } : State) = { U.setFrames U.frames with heap := s₂.heap, slotsUsed := s₂.slotsUsed }
      rw [State.setFrames_self ht]
    subst hg
    refine Or.inl ⟨v, ⟨(({ U with heap := s₂.heap, slotsUsed := s₂.slotsUsed } : State).setVm s₂.vm), Ls ++ L, c0 + mc, s0 + ms⟩,
      ⟨X.admits, X.cas, X.clock, X.frames, X.room, X.hears, X.method, X.code, (X.here.setHeapUsed s₂.heap s₂.slotsUsed).setVm hW'.alike, X.tail, State.WarmedH.trans X.warmed hW', X.limits, X.bytes, X.same.trans (hsame.setVm s.vm)⟩,
      ⟨g, mk, s₂, L, rfl, rfl, hqc, rfl, hL, rfl, rfl⟩, ?_⟩
    show Steps p.tables e below _ ((({ U with heap := s₂.heap, slotsUsed := s₂.slotsUsed } : State).setVm s₂.vm).setTop { g with pc := g.pc + len₂, stack := v.toList ++ g.stack })
    rw [← hs₂]
    exact hsteps
  · obtain ⟨e2, q2, q3, q4, q5, q6⟩ := id hsm
    have e3 : s₂ = ({ (U.calling g mk a).setFrames s₂.frames with heap := s₂.heap, slotsUsed := s₂.slotsUsed } : State).setVm s₂.vm := by
      have : s₂ = ({ s₂ with vm := (U.calling g mk a).vm } : State).setVm s₂.vm := rfl
      rw [e2] at this
      exact this
    have hf₂ : s₂.frames = .throwing q :: .java g :: U.frames.tail := hend
    have hW' : U.WarmedH s₂.vm := hW₂
    have hs₂ : s₂ = ((({ U with heap := s₂.heap, slotsUsed := s₂.slotsUsed } : State).setVm s₂.vm).setTop g).pushFrame (.throwing q) := by
      refine e3.trans ?_
      rw [hf₂, State.calling_eq h.top, State.setFrames_setFrames, State.pushFrame, State.frames_setTop _ hr', State.setTop_of_frames _ hr', State.setFrames_setFrames, hr]
      rfl
    have hsame : U.sameButNew ({ U with heap := s₂.heap, slotsUsed := s₂.slotsUsed } : State) L mc ms := by
      refine ⟨?_, q2, q3, q4, q5, q6⟩
      obtain ⟨t, ht, -⟩ := State.frames_cons hr
      show ({ U with heap := s₂.heap, slotsUsed := s₂.slotsUsed } : State) = { U.setFrames U.frames with heap := s₂.heap, slotsUsed := s₂.slotsUsed }
      rw [State.setFrames_self ht]
    subst hg
    refine Or.inr ⟨q, ⟨(({ U with heap := s₂.heap, slotsUsed := s₂.slotsUsed } : State).setVm s₂.vm), Ls ++ L, c0 + mc, s0 + ms⟩,
      ⟨X.admits, X.cas, X.clock, X.frames, X.room, X.hears, X.method, X.code, (X.here.setHeapUsed s₂.heap s₂.slotsUsed).setVm hW'.alike, X.tail, State.WarmedH.trans X.warmed hW', X.limits, X.bytes, X.same.trans (hsame.setVm s.vm)⟩,
      ⟨g, mk, s₂, L, E, ce, rfl, rfl, hx, hce, hcv, hcl, rfl, hL, rfl, rfl⟩, ?_⟩
    show Steps p.tables e below _ (((({ U with heap := s₂.heap, slotsUsed := s₂.slotsUsed } : State).setVm s₂.vm).setTop g).pushFrame (.throwing q))
    rw [← hs₂]
    exact hsteps
end
variable {p : Program} {l : Launch} {e : Env} {R : Room} {s : State} {m : MethodId} {args : Array Value} {below : List Frame} {meth : Method} {c : Code} {T : State} {H : Heap} {locs : List Loc} {cells slots : Nat}
theorem vx_callVX (X : Stand p l e R s m args below meth c T locs cells slots) (hexec : p.tables.exec = Jvm.exec) {own C : String} {index : Nat} {y : MethodName} {bytes : ByteArray} {maxL : Nat} {ret : Option FieldType} {hh : List (Nat × Nat × Nat × Nat)}
    (hown : s.vm.findClass own = some m.cls) (hlink : (Cond.methodLink own index y).before args s = true) (hinst : (Cond.instanceMethod y).before args s = true) (hsel : (Cond.selects C y y).before args s = true)
    (hcode : (Cond.codeWith y bytes maxL ret hh).before args s = true) (hy : y.cls ≠ "java/lang/invoke/MethodHandle" ∧ y.cls ≠ "java/lang/invoke/VarHandle")
    {W9 : Nat} {Pre : Pt → Array Value → Prop} {Post : Pt → Array Value → Option Value → Pt → Prop} {PostX : Pt → Array Value → Addr → Pt → Prop} (hK : vx_Back l R p e below s args y 3 W9 Pre Post PostX)
    {b : Addr} {cellB : Cell} (hcell : T.heap[b]? = some cellB) (hobj : cellB.vm.isStatics = false) (hcls : s.vm.findClass C = some cellB.cls)
    {g : JFrame} (hg : g.method = m) (hsize : g.locals.size = c.maxLocals) {argsL rest : List Value} (hlen : ∀ sig, parseMethodDescriptor y.desc = some sig → argsL.length = sig.parameters.length)
    (hstack : g.stack = argsL.reverse ++ .ref b :: rest) (hW : 2 * g.monitorRoom + (rest.map fun v => v.category).sum ≤ W9) (hdg : decode c.code g.pc = .ok (.invokevirtual index, 3))
    (hpre : ∀ vm₁, s.WarmedH vm₁ → Pre ⟨T.setVm vm₁, locs, cells, slots⟩ (Value.ref b :: argsL).toArray) :
    (∃ (v : Option Value) (vm₁ : Vm) (B : Pt), s.WarmedH vm₁ ∧ Stand p l e R s m args below meth c B.U B.locs B.cells B.slots ∧ Post ⟨T.setVm vm₁, locs, cells, slots⟩ (Value.ref b :: argsL).toArray v B ∧
      ∀ target, Steps p.tables e below (B.U.setTop { g with pc := g.pc + 3, stack := v.toList ++ rest }) target → Steps p.tables e below (T.setTop g) target) ∨
    (∃ (q : Addr) (vm₁ : Vm) (B : Pt), s.WarmedH vm₁ ∧ Stand p l e R s m args below meth c B.U B.locs B.cells B.slots ∧ PostX ⟨T.setVm vm₁, locs, cells, slots⟩ (Value.ref b :: argsL).toArray q B ∧
      Steps p.tables e below (T.setTop g) ((B.U.setTop { g with stack := rest }).pushFrame (.throwing q))) := by
  obtain ⟨mk, methM, hnamed, hmethM, hstM, habM⟩ := Cond.instanceMethod_spec hinst
  obtain ⟨m8, methM', cM, hn8, hmethM', -, -, -, -, -, -, hsigM⟩ := Cond.codeWith_spec hcode
  cases Option.some.inj (hn8.symm.trans hnamed)
  cases hmethM.symm.trans hmethM'
  obtain ⟨c2, r2, m2, q1, q2, q3, q4, kP, hkP, hkPi⟩ := Cond.selects_spec hsel
  cases hcls.symm.trans q1
  cases (State.methodFound?_of_named hnamed hy).symm.trans q2
  cases hnamed.symm.trans q3
  have hselP : selectMethod e.platform s.vm cellB.cls mk = .method mk := by rw [Launch.admits_selectMethod X.admits]; exact q4
  obtain ⟨vm₁, X₁, hstep₁⟩ := X.invokevirtual hexec hown hlink hnamed hmethM hstM hkP hkPi hy (a := b) (cell := cellB) hcell
    (fun z h => by rw [h] at hobj; cases hobj) hselP hmethM habM hkP hkPi (g := g) hg (argsL := argsL) (rest := rest) (hlen _ hsigM) hstack hdg
  rcases hK m meth c ⟨T.setVm vm₁, locs, cells, slots⟩ { g with stack := rest } (.invokevirtual index) mk (Value.ref b :: argsL).toArray X₁ hg hsize hdg hW (X₁.named hnamed) (hpre vm₁ X₁.warmed) with ⟨v, B, X', hpost, hsteps⟩ | ⟨q, B, X', hpost, hsteps⟩
  · exact Or.inl ⟨v, vm₁, B, X₁.warmed, X', hpost, fun target h => hstep₁ _ fun acts => by rw [doInvoke_state]; exact hsteps.trans h⟩
  · exact Or.inr ⟨q, vm₁, B, X₁.warmed, X', hpost, hstep₁ _ fun acts => by rw [doInvoke_state]; exact hsteps⟩
theorem vx_callSX (X : Stand p l e R s m args below meth c T locs cells slots) (hexec : p.tables.exec = Jvm.exec) {own : String} {index : Nat} {y : MethodName} {bytes : ByteArray} {maxL : Nat} {ret : Option FieldType} {hh : List (Nat × Nat × Nat × Nat)}
    (hown : s.vm.findClass own = some m.cls) (hlink : (Cond.methodLink own index y).before args s = true) (hstat : (Cond.static y).before args s = true) (hinit : (Cond.initialized y.cls).before args s = true)
    (hcode : (Cond.codeWith y bytes maxL ret hh).before args s = true) (hy : y.cls ≠ "java/lang/invoke/MethodHandle" ∧ y.cls ≠ "java/lang/invoke/VarHandle")
    {W9 : Nat} {Pre : Pt → Array Value → Prop} {Post : Pt → Array Value → Option Value → Pt → Prop} {PostX : Pt → Array Value → Addr → Pt → Prop} (hK : vx_Back l R p e below s args y 3 W9 Pre Post PostX)
    {g : JFrame} (hg : g.method = m) (hsize : g.locals.size = c.maxLocals) {argsL rest : List Value} (hlen : ∀ sig, parseMethodDescriptor y.desc = some sig → argsL.length = sig.parameters.length)
    (hstack : g.stack = argsL.reverse ++ rest) (hW : 2 * g.monitorRoom + (rest.map fun v => v.category).sum ≤ W9) (hdg : decode c.code g.pc = .ok (.invokestatic index, 3))
    (hpre : ∀ vm₁, s.WarmedH vm₁ → Pre ⟨T.setVm vm₁, locs, cells, slots⟩ argsL.toArray) :
    (∃ (v : Option Value) (vm₁ : Vm) (B : Pt), s.WarmedH vm₁ ∧ Stand p l e R s m args below meth c B.U B.locs B.cells B.slots ∧ Post ⟨T.setVm vm₁, locs, cells, slots⟩ argsL.toArray v B ∧
      ∀ target, Steps p.tables e below (B.U.setTop { g with pc := g.pc + 3, stack := v.toList ++ rest }) target → Steps p.tables e below (T.setTop g) target) ∨
    (∃ (q : Addr) (vm₁ : Vm) (B : Pt), s.WarmedH vm₁ ∧ Stand p l e R s m args below meth c B.U B.locs B.cells B.slots ∧ PostX ⟨T.setVm vm₁, locs, cells, slots⟩ argsL.toArray q B ∧
      Steps p.tables e below (T.setTop g) ((B.U.setTop { g with stack := rest }).pushFrame (.throwing q))) := by
  obtain ⟨mk, methM, cM, hnamed, hmethM, -, -, -, -, -, -, hsigM⟩ := Cond.codeWith_spec hcode
  have hstatic : methM.isStatic = true := Cond.static_spec hnamed hmethM hstat
  obtain ⟨kP, hkP, -⟩ := className_of_methodNamed hnamed
  have hinitP : kP.init = .initialized := Cond.initialized_spec (findClass_of_methodNamed hnamed) hkP hinit
  obtain ⟨vm₁, X₁, hstep₁⟩ := X.invokestatic hexec hown hlink hnamed hmethM hstatic hkP hinitP hy (g := g) hg (argsL := argsL) (rest := rest) (hlen _ hsigM) hstack hdg
  rcases hK m meth c ⟨T.setVm vm₁, locs, cells, slots⟩ { g with stack := rest } (.invokestatic index) mk argsL.toArray X₁ hg hsize hdg hW (X₁.named hnamed) (hpre vm₁ X₁.warmed) with ⟨v, B, X', hpost, hsteps⟩ | ⟨q, B, X', hpost, hsteps⟩
  · exact Or.inl ⟨v, vm₁, B, X₁.warmed, X', hpost, fun target h => hstep₁ _ fun acts => by rw [doInvoke_state]; exact hsteps.trans h⟩
  · exact Or.inr ⟨q, vm₁, B, X₁.warmed, X', hpost, hstep₁ _ fun acts => by rw [doInvoke_state]; exact hsteps⟩
theorem vx_callVW (X : Stand p l e R s m args below meth c T locs cells slots) (hexec : p.tables.exec = Jvm.exec) {own C : String} {index : Nat} {y : MethodName} {bytes : ByteArray} {maxL : Nat} {ret : Option FieldType} {hh : List (Nat × Nat × Nat × Nat)}
    (hown : s.vm.findClass own = some m.cls) (hlink : (Cond.methodLink own index y).before args s = true) (hinst : (Cond.instanceMethod y).before args s = true) (hsel : (Cond.selects C y y).before args s = true)
    (hcode : (Cond.codeWith y bytes maxL ret hh).before args s = true) (hy : y.cls ≠ "java/lang/invoke/MethodHandle" ∧ y.cls ≠ "java/lang/invoke/VarHandle")
    {W9 : Nat} {Pre : Pt → Array Value → Prop} {Post : Pt → Array Value → Option Value → Pt → Prop} (hK : Back l R p e below s args y 3 W9 Pre Post)
    {b : Addr} {cellB : Cell} (hcell : T.heap[b]? = some cellB) (hobj : cellB.vm.isStatics = false) (hcls : s.vm.findClass C = some cellB.cls)
    {g : JFrame} (hg : g.method = m) (hsize : g.locals.size = c.maxLocals) {argsL rest : List Value} (hlen : ∀ sig, parseMethodDescriptor y.desc = some sig → argsL.length = sig.parameters.length)
    (hstack : g.stack = argsL.reverse ++ .ref b :: rest) (hW : 2 * g.monitorRoom + (rest.map fun v => v.category).sum ≤ W9) (hdg : decode c.code g.pc = .ok (.invokevirtual index, 3))
    (hpre : ∀ vm₁, s.WarmedH vm₁ → Pre ⟨T.setVm vm₁, locs, cells, slots⟩ (Value.ref b :: argsL).toArray) :
    ∃ (v : Option Value) (vm₁ : Vm) (B : Pt), s.WarmedH vm₁ ∧ Stand p l e R s m args below meth c B.U B.locs B.cells B.slots ∧ Post ⟨T.setVm vm₁, locs, cells, slots⟩ (Value.ref b :: argsL).toArray v B ∧
      ∀ target, Steps p.tables e below (B.U.setTop { g with pc := g.pc + 3, stack := v.toList ++ rest }) target → Steps p.tables e below (T.setTop g) target := by
  obtain ⟨mk, methM, hnamed, hmethM, hstM, habM⟩ := Cond.instanceMethod_spec hinst
  obtain ⟨m8, methM', cM, hn8, hmethM', -, -, -, -, -, -, hsigM⟩ := Cond.codeWith_spec hcode
  cases Option.some.inj (hn8.symm.trans hnamed)
  cases hmethM.symm.trans hmethM'
  obtain ⟨c2, r2, m2, q1, q2, q3, q4, kP, hkP, hkPi⟩ := Cond.selects_spec hsel
  cases hcls.symm.trans q1
  cases (State.methodFound?_of_named hnamed hy).symm.trans q2
  cases hnamed.symm.trans q3
  have hselP : selectMethod e.platform s.vm cellB.cls mk = .method mk := by rw [Launch.admits_selectMethod X.admits]; exact q4
  obtain ⟨vm₁, X₁, hstep₁⟩ := X.invokevirtual hexec hown hlink hnamed hmethM hstM hkP hkPi hy (a := b) (cell := cellB) hcell
    (fun z h => by rw [h] at hobj; cases hobj) hselP hmethM habM hkP hkPi (g := g) hg (argsL := argsL) (rest := rest) (hlen _ hsigM) hstack hdg
  obtain ⟨v, B, X', hpost, hsteps⟩ := hK m meth c ⟨T.setVm vm₁, locs, cells, slots⟩ { g with stack := rest } (.invokevirtual index) mk (Value.ref b :: argsL).toArray X₁ hg hsize hdg hW (X₁.named hnamed) (hpre vm₁ X₁.warmed)
  exact ⟨v, vm₁, B, X₁.warmed, X', hpost, fun target h => hstep₁ _ fun acts => by rw [doInvoke_state]; exact hsteps.trans h⟩
abbrev vx_CVW (R : Room) (s : State) (args : Array Value) (own C : String) (index : Nat) (y : MethodName) (bytes : ByteArray) (maxL : Nat) (ret : Option FieldType) (hh : List (Nat × Nat × Nat × Nat)) (ws : List Cond) (rm : Room) (mc ms n : Nat) : Prop :=
  (rm.cells = mc ∧ rm.slots = ms ∧ rm.frames + 1 ≤ R.frames ∧ 8 + (maxL + 11) + rm.locals ≤ R.locals ∧ (∀ w ∈ ws, ∀ (a' : Array Value) (U : State), s.WarmedH U.vm → w.before a' U = true) ∧ Cond.codeWith y bytes maxL ret hh ∈ ws) ∧
  (Cond.codeWith y bytes maxL ret hh).before args s = true ∧ (Cond.initialized y.cls).before args s = true ∧ (y.cls ≠ "java/lang/invoke/MethodHandle" ∧ y.cls ≠ "java/lang/invoke/VarHandle") ∧
  (∀ sig, parseMethodDescriptor y.desc = some sig → n = sig.parameters.length) ∧ (Cond.methodLink own index y).before args s = true ∧ (Cond.instanceMethod y).before args s = true ∧ (Cond.selects C y y).before args s = true
theorem vx_cwVW {own C : String} {index maxL mc ms : Nat} {y : MethodName} {bytes : ByteArray} {ret : Option FieldType} {hh : List (Nat × Nat × Nat × Nat)} {Ts ws ws' : List Cond} {rm : Room} (n : Nat) (ht : ∀ w ∈ Ts, w.before args s = true) (hT : GoodIn Ts (wsV own index C y ws)) (hw : ws = Cond.codeWith y bytes maxL ret hh :: ws') (hrc : rm.cells = mc) (hrs : rm.slots = ms)
    (hd : y.cls = C ∧ y.cls ≠ "java/lang/invoke/MethodHandle" ∧ y.cls ≠ "java/lang/invoke/VarHandle" ∧ (parseMethodDescriptor y.desc).map (fun d => d.parameters.length) = some n) (hR : rm.frames + 1 ≤ R.frames ∧ 8 + (maxL + 11) + rm.locals ≤ R.locals) :
    vx_CVW R s args own C index y bytes maxL ret hh ws rm mc ms n := by
  obtain ⟨hC, hd⟩ := hd
  subst hC
  have ok : ∀ w ∈ wsV own index y.cls y ws, w.before args s = true := fun w h => ht w (hT w h).1
  have hG : GoodIn Ts ws := fun w h => hT w (by unfold wsV; exact List.mem_append_right _ h)
  have hc : Cond.codeWith y bytes maxL ret hh ∈ ws := by rw [hw]; exact List.mem_cons_self
  refine ⟨⟨hrc, hrs, hR.1, hR.2, pay_in ht hG, hc⟩, ht _ (hG _ hc).1, ok _ (by simp [wsV]), ⟨hd.1, hd.2.1⟩, fun sig h => ?_, ok _ (by simp [wsV]), ok _ (by simp [wsV]), ok _ (by simp [wsV])⟩
  have h2 := hd.2.2
  rw [h] at h2
  exact (Option.some.inj h2).symm
theorem vx_runVW {y : MethodName} {bytes cc : ByteArray} {maxL nL mc ms n index : Nat} {ret : Option FieldType} {hh : List (Nat × Nat × Nat × Nat)} {ws : List Cond} {rm : Room} {Pc : Array Value → State → Prop} {Qc : Array Value → State → Outcome → State → Prop} {free : Addr → Prop} {Ts : List Cond} {own C : String} {b : Addr} {As rest : List Value} {g : JFrame}
    (S : CallFix p m c cc nL s args Ts own) (hM : Met l y ws rm Pc Qc mc ms free) (cw : vx_CVW R s args own C index y bytes maxL ret hh ws rm mc ms n) (hp : PreV s H C b Pc As)
    (hg : g.method = m) (hn : As.length = n) (hsize : g.locals.size = nL) (hstack : g.stack = As.reverse ++ .ref b :: rest) (hW : 2 * g.monitorRoom + (rest.map fun v => v.category).sum ≤ 8) (hdg : decode cc g.pc = .ok (.invokevirtual index, 3)) (hf : cells + mc ≤ R.cells ∧ slots + ms ≤ R.slots) :
    va_Run p l e R s m args below meth c H locs cells slots mc ms g rest (Qc (Value.ref b :: As).toArray) free := by
  obtain ⟨⟨hrc, hrs, hfr, hlo, hws, hcw⟩, hcode, hini, hy, hlen, hl, hin, hse⟩ := cw
  have hK : Back l R p e below s args y 3 8 (PreOf R mc ms Pc) (PostOf Qc mc ms free) := va_backW (hh := hh) (bytes := bytes) (maxL := maxL) (ret := ret) hM hp.1 hrc hrs hfr hlo hws hcw (fun a' U hW => word_at hW (Or.inl (by first | rfl | simp [Cond.onTables, Cond.keeps, Cond.steady])) hini)
  obtain ⟨hx, hb, hml, ho, -⟩ := S
  obtain ⟨-, ⟨cellB, hcB, hoB, hclB⟩, hPc⟩ := hp
  intro T hT X
  obtain ⟨v, vm₁, ⟨U', l2, c2, s2⟩, hW₁, X', ⟨g', mk, t, L, e1, e2, hq, h1, hL, h2, h3⟩, st⟩ := vx_callVW X hx (C := C) (hh := hh) (bytes := bytes) (maxL := maxL) (ret := ret) ho hl hin hse hcode hy hK (by rw [hT]; exact hcB) hoB hclB hg (hsize.trans hml.symm) (argsL := As) (rest := rest) (fun sig h => hn.trans (hlen sig h)) hstack hW (by rw [hb]; exact hdg)
    (fun vm₁ hW₁ => ⟨hf.1, hf.2, hPc (T.setVm vm₁) hT hW₁⟩)
  dsimp only [Pt.U, Pt.locs, Pt.cells, Pt.slots] at X' e1 e2 h1 h2 h3 st
  subst h1; subst h2; subst h3
  exact ⟨v, (T.setVm vm₁).calling g' mk (Value.ref b :: As).toArray, t, U', L, hT, X', hL, e1, e2, hq, st⟩
section
variable {y : MethodName} {bytes cc : ByteArray} {maxL nL mc ms n index : Nat} {ret : Option FieldType} {ws : List Cond} {rm : Room} {Pc : Array Value → State → Prop} {Qc : Array Value → State → Outcome → State → Prop} {XC : String → State → State → Prop} {free : Addr → Prop} {Ts : List Cond} {own C : String} {b : Addr} {As rest : List Value} {g : JFrame}
theorem vx_runVX {hh : List (Nat × Nat × Nat × Nat)} (S : CallFix p m c cc nL s args Ts own) (hM : vx_Met l y ws rm Pc Qc XC mc ms free) (cw : vx_CVW R s args own C index y bytes maxL ret hh ws rm mc ms n) (hp : PreV s H C b Pc As)
    (hg : g.method = m) (hn : As.length = n) (hsize : g.locals.size = nL) (hstack : g.stack = As.reverse ++ .ref b :: rest) (hW : 2 * g.monitorRoom + (rest.map fun v => v.category).sum ≤ 8) (hdg : decode cc g.pc = .ok (.invokevirtual index, 3)) (hf : cells + mc ≤ R.cells ∧ slots + ms ≤ R.slots) :
    vx_Run p l e R s m args below meth c H locs cells slots mc ms g rest (Qc (Value.ref b :: As).toArray) XC free := by
  obtain ⟨⟨hrc, hrs, hfr, hlo, hws, hcw⟩, hcode, hini, hy, hlen, hl, hin, hse⟩ := cw
  have hK : vx_Back l R p e below s args y 3 8 (PreOf R mc ms Pc) (PostOf Qc mc ms free) (vx_Post XC mc ms free) := vx_backW (hh := hh) (bytes := bytes) (maxL := maxL) (ret := ret) hM hp.1 hrc hrs hfr hlo hws hcw (fun a' U hW => word_at hW (Or.inl (by first | rfl | simp [Cond.onTables, Cond.keeps, Cond.steady])) hini)
  obtain ⟨hx, hb, hml, ho, -⟩ := S
  obtain ⟨-, ⟨cellB, hcB, hoB, hclB⟩, hPc⟩ := hp
  intro T hT X
  rcases vx_callVX X hx (C := C) (hh := hh) (bytes := bytes) (maxL := maxL) (ret := ret) ho hl hin hse hcode hy hK (by rw [hT]; exact hcB) hoB hclB hg (hsize.trans hml.symm) (argsL := As) (rest := rest) (fun sig h => hn.trans (hlen sig h)) hstack hW (by rw [hb]; exact hdg)
    (fun vm₁ hW₁ => ⟨hf.1, hf.2, hPc (T.setVm vm₁) hT hW₁⟩) with ⟨v, vm₁, ⟨U', l2, c2, s2⟩, hW₁, X', ⟨g', mk, t, L, e1, e2, hq, h1, hL, h2, h3⟩, st⟩ | ⟨q, vm₁, ⟨U', l2, c2, s2⟩, hW₁, X', ⟨g', mk, t, L, E, ce, e1, e2, hq, hce, hcv, hcl, h1, hL, h2, h3⟩, st⟩
  · dsimp only [Pt.U, Pt.locs, Pt.cells, Pt.slots] at X' e1 e2 h1 h2 h3 st
    subst h1; subst h2; subst h3
    exact Or.inl ⟨v, (T.setVm vm₁).calling g' mk (Value.ref b :: As).toArray, t, U', L, hT, X', hL, e1, e2, hq, st⟩
  · dsimp only [Pt.U, Pt.locs, Pt.cells, Pt.slots] at X' e1 e2 h1 h2 h3 st hcl
    subst h1; subst h2; subst h3
    exact Or.inr ⟨q, (T.setVm vm₁).calling g' mk (Value.ref b :: As).toArray, t, U', L, E, ce, hT, X', hL, e1, e2, hq, hce, hcv, vx_cls hW₁ hcl, st⟩
theorem vx_runSX {hh : List (Nat × Nat × Nat × Nat)} (S : CallFix p m c cc nL s args Ts own) (hM : vx_Met l y ws rm Pc Qc XC mc ms free) (cw : vx_CSW R s args own index y bytes maxL ret hh ws rm mc ms n) (hp : PreS s H Pc As)
    (hg : g.method = m) (hn : As.length = n) (hsize : g.locals.size = nL) (hstack : g.stack = As.reverse ++ rest) (hW : 2 * g.monitorRoom + (rest.map fun v => v.category).sum ≤ 8) (hdg : decode cc g.pc = .ok (.invokestatic index, 3)) (hf : cells + mc ≤ R.cells ∧ slots + ms ≤ R.slots) :
    vx_Run p l e R s m args below meth c H locs cells slots mc ms g rest (Qc As.toArray) XC free := by
  obtain ⟨⟨hrc, hrs, hfr, hlo, hws, hcw⟩, hcode, hini, hy, hlen, hl, hstt⟩ := cw
  have hK : vx_Back l R p e below s args y 3 8 (PreOf R mc ms Pc) (PostOf Qc mc ms free) (vx_Post XC mc ms free) := vx_backW (hh := hh) (bytes := bytes) (maxL := maxL) (ret := ret) hM hp.1 hrc hrs hfr hlo hws hcw (fun a' U hW => word_at hW (Or.inl (by first | rfl | simp [Cond.onTables, Cond.keeps, Cond.steady])) hini)
  obtain ⟨hx, hb, hml, ho, -⟩ := S
  intro T hT X
  rcases vx_callSX X hx (hh := hh) (bytes := bytes) (maxL := maxL) (ret := ret) ho hl hstt hini hcode hy hK hg (hsize.trans hml.symm) (argsL := As) (rest := rest) (fun sig h => hn.trans (hlen sig h)) hstack hW (by rw [hb]; exact hdg)
    (fun vm₁ hW₁ => ⟨hf.1, hf.2, hp.2 (T.setVm vm₁) hT hW₁⟩) with ⟨v, vm₁, ⟨U', l2, c2, s2⟩, hW₁, X', ⟨g', mk, t, L, e1, e2, hq, h1, hL, h2, h3⟩, st⟩ | ⟨q, vm₁, ⟨U', l2, c2, s2⟩, hW₁, X', ⟨g', mk, t, L, E, ce, e1, e2, hq, hce, hcv, hcl, h1, hL, h2, h3⟩, st⟩
  · dsimp only [Pt.U, Pt.locs, Pt.cells, Pt.slots] at X' e1 e2 h1 h2 h3 st
    subst h1; subst h2; subst h3
    exact Or.inl ⟨v, (T.setVm vm₁).calling g' mk As.toArray, t, U', L, hT, X', hL, e1, e2, hq, st⟩
  · dsimp only [Pt.U, Pt.locs, Pt.cells, Pt.slots] at X' e1 e2 h1 h2 h3 st hcl
    subst h1; subst h2; subst h3
    exact Or.inr ⟨q, (T.setVm vm₁).calling g' mk As.toArray, t, U', L, E, ce, hT, X', hL, e1, e2, hq, hce, hcv, vx_cls hW₁ hcl, st⟩
end
end VXH
theorem vx_ofWH {l : Launch} {y : MethodName} {ws ws' : List Cond} {rm : Room} {Pc : Array Value → State → Prop} {Qc : Array Value → State → Outcome → State → Prop} {XC : String → State → State → Prop} {mc ms : Nat} {free : Addr → Prop} {cc : ByteArray} {maxL : Nat} {ret : Option FieldType} {hh : List (Nat × Nat × Nat × Nat)}
    (hy : plainName y.cls = true) (hw : ws = Cond.codeWith y cc maxL ret hh :: ws')
    (body : ∀ p e s m args below meth c s₁, BodyLoose p l y (headSpec ws rm) cc maxL ret e s m args below meth c s₁ → c.maxLocals = maxL → Pc args s →
      W p l e (headSpec ws rm).room s m args below meth c s.heap [] 0 0 (vx_MQ below Qc XC args s mc ms free) (entryFrame m args maxL)) : vx_Met l y ws rm Pc Qc XC mc ms free := by
  refine MetFree.of_bodyS (code := cc) (maxLocals := maxL) (ret := ret) hy ?_ ?_
  · intro args s m h hn
    obtain ⟨m9, meth, c, hn9, h1, h2, h3, h4, -, h5, h6, -⟩ := Cond.codeWith_spec (atoms_spec (ws := ws) h _ (by rw [hw]; exact List.mem_cons_self))
    cases hn.symm.trans hn9
    exact ⟨meth, c, h1, h2, h3, h4, h5, h6⟩
  · intro p e s m args below meth c s₁ B hml hP _
    have hh0 : s₁.heap = s.heap := by rw [B.state]; rfl
    obtain ⟨t, a1, o, b1, b2, b3⟩ := body p e s m args below meth c s₁ B hml hP s₁ hh0 (Stand.of_body B)
    exact ⟨t, o, a1, b1, b2, b3⟩
/-! ===== END ===== -/
end
section
/-! ===== BEGIN printed: names, fields, word lists, decode rows ===== -/
def RX0 : String := "SharedRegisters$Asker"
def TX0 : u_T := fun k => match k with
  | 0 => ("SharedRegisters$Asker", "number", "I", true)
  | 1 => ("SharedRegisters$Asker", "sets", "[I", true)
  | 2 => ("SharedRegisters$Asker", "enough", "[I", true)
  | 3 => ("SharedRegisters$Asker", "count", "I", false)
  | _ => ("SharedRegisters$Asker", "current", "LSharedRegisters$Request;", false)
def tyX0 : Nat → FieldType := fun k => match k with
  | 0 => .int
  | 1 => .array .int
  | 2 => .array .int
  | 3 => .int
  | _ => .object "SharedRegisters$Request"
abbrev wsX00 : List Cond := u_ws RX0 TX0 5
theorem nmX0 : ∀ a, a < 5 → ∀ b, b < 5 → a ≠ b → (TX0 a).2.1 ≠ (TX0 b).2.1 := by decide +kernel
theorem tyX0_ok : ∀ k, k < 5 → parseFieldDescriptor (TX0 k).2.2.1 = some (tyX0 k) := by decide +kernel
abbrev cX0_init : ByteArray := prog_2_method_1_code
def yX0_init : MethodName := ⟨RX0, "<init>", "(I)V"⟩
def RX1 : String := "SharedRegisters$Message"
def TX1 : u_T := fun k => match k with
  | 0 => ("SharedRegisters$Message", "sort", "I", false)
  | 1 => ("SharedRegisters$Message", "asker", "I", false)
  | 2 => ("SharedRegisters$Message", "keeper", "I", false)
  | 3 => ("SharedRegisters$Message", "request", "I", false)
  | 4 => ("SharedRegisters$Message", "key", "I", false)
  | 5 => ("SharedRegisters$Message", "ballot", "I", false)
  | _ => ("SharedRegisters$Message", "state", "LSharedRegisters$State;", false)
def tyX1 : Nat → FieldType := fun k => match k with
  | 0 => .int
  | 1 => .int
  | 2 => .int
  | 3 => .int
  | 4 => .int
  | 5 => .int
  | _ => .object "SharedRegisters$State"
abbrev wsX10 : List Cond := u_ws RX1 TX1 7
theorem nmX1 : ∀ a, a < 7 → ∀ b, b < 7 → a ≠ b → (TX1 a).2.1 ≠ (TX1 b).2.1 := by decide +kernel
theorem tyX1_ok : ∀ k, k < 7 → parseFieldDescriptor (TX1 k).2.2.1 = some (tyX1 k) := by decide +kernel
abbrev cX1_init : ByteArray := prog_3_method_1_code
def yX1_init : MethodName := ⟨RX1, "<init>", "(LSharedRegisters$State;)V"⟩
def RX2 : String := "SharedRegisters$Register"
def TX2 : u_T := fun k => match k with
  | 0 => ("SharedRegisters$Register", "promise", "I", false)
  | 1 => ("SharedRegisters$Register", "ballot", "I", false)
  | _ => ("SharedRegisters$Register", "state", "LSharedRegisters$State;", false)
def tyX2 : Nat → FieldType := fun k => match k with
  | 0 => .int
  | 1 => .int
  | _ => .object "SharedRegisters$State"
abbrev wsX20 : List Cond := u_ws RX2 TX2 3
theorem nmX2 : ∀ a, a < 3 → ∀ b, b < 3 → a ≠ b → (TX2 a).2.1 ≠ (TX2 b).2.1 := by decide +kernel
theorem tyX2_ok : ∀ k, k < 3 → parseFieldDescriptor (TX2 k).2.2.1 = some (tyX2 k) := by decide +kernel
abbrev cX2_init : ByteArray := prog_4_method_1_code
def yX2_init : MethodName := ⟨RX2, "<init>", "(LSharedRegisters$State;)V"⟩
abbrev cX2_greaterBallot : ByteArray := prog_4_method_2_code
def yX2_greaterBallot : MethodName := ⟨RX2, "greaterBallot", "()I"⟩
abbrev cX2_accept : ByteArray := prog_4_method_3_code
def yX2_accept : MethodName := ⟨RX2, "accept", "(ILSharedRegisters$State;)V"⟩
abbrev cX2_catchUp : ByteArray := prog_4_method_4_code
def yX2_catchUp : MethodName := ⟨RX2, "catchUp", "(LSharedRegisters$Register;)Z"⟩
def RX3 : String := "SharedRegisters$Request"
def TX3 : u_T := fun k => match k with
  | 0 => ("SharedRegisters$Request", "number", "I", true)
  | 1 => ("SharedRegisters$Request", "asker", "I", true)
  | 2 => ("SharedRegisters$Request", "key", "I", true)
  | 3 => ("SharedRegisters$Request", "change", "I", true)
  | 4 => ("SharedRegisters$Request", "argument", "J", true)
  | 5 => ("SharedRegisters$Request", "ballot", "I", true)
  | 6 => ("SharedRegisters$Request", "enoughPromised", "I", true)
  | 7 => ("SharedRegisters$Request", "acceptSet", "I", true)
  | 8 => ("SharedRegisters$Request", "enoughTaken", "I", true)
  | 9 => ("SharedRegisters$Request", "accepting", "Z", false)
  | 10 => ("SharedRegisters$Request", "answered", "I", false)
  | 11 => ("SharedRegisters$Request", "toldBallot", "I", false)
  | 12 => ("SharedRegisters$Request", "state", "LSharedRegisters$State;", false)
  | 13 => ("SharedRegisters$Request", "failed", "Z", false)
  | _ => ("SharedRegisters$Request", "ending", "I", false)
def tyX3 : Nat → FieldType := fun k => match k with
  | 0 => .int
  | 1 => .int
  | 2 => .int
  | 3 => .int
  | 4 => .long
  | 5 => .int
  | 6 => .int
  | 7 => .int
  | 8 => .int
  | 9 => .boolean
  | 10 => .int
  | 11 => .int
  | 12 => .object "SharedRegisters$State"
  | 13 => .boolean
  | _ => .int
abbrev wsX30 : List Cond := u_ws RX3 TX3 15
theorem nmX3 : ∀ a, a < 15 → ∀ b, b < 15 → a ≠ b → (TX3 a).2.1 ≠ (TX3 b).2.1 := by decide +kernel
theorem tyX3_ok : ∀ k, k < 15 → parseFieldDescriptor (TX3 k).2.2.1 = some (tyX3 k) := by decide +kernel
abbrev cX3_init : ByteArray := prog_5_method_1_code
def yX3_init : MethodName := ⟨RX3, "<init>", "(ILSharedRegisters$Asker;IIJLSharedRegisters$State;)V"⟩
abbrev cX3_hasAnswer : ByteArray := prog_5_method_2_code
def yX3_hasAnswer : MethodName := ⟨RX3, "hasAnswer", "(I)Z"⟩
abbrev cX3_countAnswer : ByteArray := prog_5_method_3_code
def yX3_countAnswer : MethodName := ⟨RX3, "countAnswer", "(I)V"⟩
abbrev cX3_answers : ByteArray := prog_5_method_4_code
def yX3_answers : MethodName := ⟨RX3, "answers", "()I"⟩
abbrev cX3_hearState : ByteArray := prog_5_method_5_code
def yX3_hearState : MethodName := ⟨RX3, "hearState", "(ILSharedRegisters$State;)V"⟩
abbrev cX3_beginAccepting : ByteArray := prog_5_method_6_code
def yX3_beginAccepting : MethodName := ⟨RX3, "beginAccepting", "()V"⟩
def RX4 : String := "SharedRegisters$Row"
def TX4 : u_T := fun k => match k with
  | 0 => ("SharedRegisters$Row", "messages", "[LSharedRegisters$Message;", true)
  | _ => ("SharedRegisters$Row", "size", "I", false)
def tyX4 : Nat → FieldType := fun k => match k with
  | 0 => .array (.object "SharedRegisters$Message")
  | _ => .int
abbrev wsX40 : List Cond := u_ws RX4 TX4 2
theorem nmX4 : ∀ a, a < 2 → ∀ b, b < 2 → a ≠ b → (TX4 a).2.1 ≠ (TX4 b).2.1 := by decide +kernel
theorem tyX4_ok : ∀ k, k < 2 → parseFieldDescriptor (TX4 k).2.2.1 = some (tyX4 k) := by decide +kernel
abbrev cX4_init : ByteArray := prog_6_method_1_code
def yX4_init : MethodName := ⟨RX4, "<init>", "(LSharedRegisters$State;)V"⟩
abbrev cX4_drawOut : ByteArray := prog_6_method_2_code
def yX4_drawOut : MethodName := ⟨RX4, "drawOut", "(I)LSharedRegisters$Message;"⟩
abbrev cX4_send : ByteArray := prog_6_method_3_code
def yX4_send : MethodName := ⟨RX4, "send", "(IIIIIILSharedRegisters$State;)V"⟩
def RX5 : String := "SharedRegisters$State"
def TX5 : u_T := fun k => match k with
  | 0 => ("SharedRegisters$State", "present", "Z", true)
  | 1 => ("SharedRegisters$State", "version", "I", true)
  | _ => ("SharedRegisters$State", "value", "J", true)
def tyX5 : Nat → FieldType := fun k => match k with
  | 0 => .boolean
  | 1 => .int
  | _ => .long
abbrev wsX50 : List Cond := u_ws RX5 TX5 3
theorem nmX5 : ∀ a, a < 3 → ∀ b, b < 3 → a ≠ b → (TX5 a).2.1 ≠ (TX5 b).2.1 := by decide +kernel
theorem tyX5_ok : ∀ k, k < 3 → parseFieldDescriptor (TX5 k).2.2.1 = some (tyX5 k) := by decide +kernel
abbrev cX5_init : ByteArray := prog_7_method_1_code
def yX5_init : MethodName := ⟨RX5, "<init>", "(ZIJ)V"⟩
abbrev cX5_versionOrNone : ByteArray := prog_7_method_2_code
def yX5_versionOrNone : MethodName := ⟨RX5, "versionOrNone", "()I"⟩
abbrev cX5_fails : ByteArray := prog_7_method_3_code
def yX5_fails : MethodName := ⟨RX5, "fails", "(IJ)Z"⟩
abbrev cX5_changed : ByteArray := prog_7_method_4_code
def yX5_changed : MethodName := ⟨RX5, "changed", "(IJ)LSharedRegisters$State;"⟩
abbrev cX5_next : ByteArray := prog_7_method_5_code
def yX5_next : MethodName := ⟨RX5, "next", "(J)LSharedRegisters$State;"⟩
def RX6 : String := "SharedRegisters"
def TX6 : u_T := fun k => match k with
  | 0 => ("SharedRegisters", "absent", "LSharedRegisters$State;", true)
  | 1 => ("SharedRegisters", "registers", "[LSharedRegisters$Register;", true)
  | 2 => ("SharedRegisters", "isDown", "[Z", true)
  | 3 => ("SharedRegisters", "askers", "[LSharedRegisters$Asker;", true)
  | 4 => ("SharedRegisters", "requests", "[LSharedRegisters$Request;", true)
  | 5 => ("SharedRegisters", "row", "LSharedRegisters$Row;", true)
  | _ => ("SharedRegisters", "requestCount", "I", false)
def tyX6 : Nat → FieldType := fun k => match k with
  | 0 => .object "SharedRegisters$State"
  | 1 => .array (.object "SharedRegisters$Register")
  | 2 => .array .boolean
  | 3 => .array (.object "SharedRegisters$Asker")
  | 4 => .array (.object "SharedRegisters$Request")
  | 5 => .object "SharedRegisters$Row"
  | _ => .int
abbrev wsX60 : List Cond := u_ws RX6 TX6 7
theorem nmX6 : ∀ a, a < 7 → ∀ b, b < 7 → a ≠ b → (TX6 a).2.1 ≠ (TX6 b).2.1 := by decide +kernel
theorem tyX6_ok : ∀ k, k < 7 → parseFieldDescriptor (TX6 k).2.2.1 = some (tyX6 k) := by decide +kernel
abbrev cX6_init : ByteArray := prog_1_method_1_code
def yX6_init : MethodName := ⟨RX6, "<init>", "()V"⟩
abbrev cX6_ask : ByteArray := prog_1_method_2_code
def yX6_ask : MethodName := ⟨RX6, "ask", "(IIIJ)I"⟩
abbrev cX6_give : ByteArray := prog_1_method_3_code
def yX6_give : MethodName := ⟨RX6, "give", "(I)I"⟩
abbrev cX6_plan : ByteArray := prog_1_method_4_code
def yX6_plan : MethodName := ⟨RX6, "plan", "(IIII)V"⟩
abbrev cX6_take : ByteArray := prog_1_method_5_code
def yX6_take : MethodName := ⟨RX6, "take", "(I)I"⟩
abbrev cX6_run : ByteArray := prog_1_method_6_code
def yX6_run : MethodName := ⟨RX6, "run", "(I)I"⟩
abbrev cX6_lose : ByteArray := prog_1_method_7_code
def yX6_lose : MethodName := ⟨RX6, "lose", "(I)I"⟩
abbrev cX6_twice : ByteArray := prog_1_method_8_code
def yX6_twice : MethodName := ⟨RX6, "twice", "(I)I"⟩
abbrev cX6_down : ByteArray := prog_1_method_9_code
def yX6_down : MethodName := ⟨RX6, "down", "(IZ)Z"⟩
abbrev cX6_copy : ByteArray := prog_1_method_10_code
def yX6_copy : MethodName := ⟨RX6, "copy", "(II)I"⟩
abbrev cX6_messages : ByteArray := prog_1_method_11_code
def yX6_messages : MethodName := ⟨RX6, "messages", "()I"⟩
abbrev cX6_message : ByteArray := prog_1_method_12_code
def yX6_message : MethodName := ⟨RX6, "message", "(II)I"⟩
abbrev cX6_keeper : ByteArray := prog_1_method_13_code
def yX6_keeper : MethodName := ⟨RX6, "keeper", "(III)I"⟩
abbrev cX6_kept : ByteArray := prog_1_method_14_code
def yX6_kept : MethodName := ⟨RX6, "kept", "(II)J"⟩
abbrev cX6_asker : ByteArray := prog_1_method_15_code
def yX6_asker : MethodName := ⟨RX6, "asker", "(II)I"⟩
abbrev cX6_request : ByteArray := prog_1_method_16_code
def yX6_request : MethodName := ⟨RX6, "request", "(II)I"⟩
abbrev cX6_result : ByteArray := prog_1_method_17_code
def yX6_result : MethodName := ⟨RX6, "result", "(I)J"⟩
abbrev cX6_needIndex : ByteArray := prog_1_method_18_code
def yX6_needIndex : MethodName := ⟨RX6, "needIndex", "(II)V"⟩
abbrev cX6_needRange : ByteArray := prog_1_method_19_code
def yX6_needRange : MethodName := ⟨RX6, "needRange", "(III)V"⟩
abbrev cX6_requestAt : ByteArray := prog_1_method_20_code
def yX6_requestAt : MethodName := ⟨RX6, "requestAt", "(I)LSharedRegisters$Request;"⟩
abbrev cX6_registerOf : ByteArray := prog_1_method_21_code
def yX6_registerOf : MethodName := ⟨RX6, "registerOf", "(II)LSharedRegisters$Register;"⟩
abbrev cX6_deliver : ByteArray := prog_1_method_22_code
def yX6_deliver : MethodName := ⟨RX6, "deliver", "(I)I"⟩
abbrev cX6_takePrepare : ByteArray := prog_1_method_23_code
def yX6_takePrepare : MethodName := ⟨RX6, "takePrepare", "(LSharedRegisters$Message;)V"⟩
abbrev cX6_takeAccept : ByteArray := prog_1_method_24_code
def yX6_takeAccept : MethodName := ⟨RX6, "takeAccept", "(LSharedRegisters$Message;)V"⟩
abbrev cX6_takePromised : ByteArray := prog_1_method_25_code
def yX6_takePromised : MethodName := ⟨RX6, "takePromised", "(LSharedRegisters$Message;)V"⟩
abbrev cX6_takeTaken : ByteArray := prog_1_method_26_code
def yX6_takeTaken : MethodName := ⟨RX6, "takeTaken", "(LSharedRegisters$Message;)V"⟩
abbrev cX6_takeRefused : ByteArray := prog_1_method_27_code
def yX6_takeRefused : MethodName := ⟨RX6, "takeRefused", "(LSharedRegisters$Message;)V"⟩
abbrev cX6_awaiting : ByteArray := prog_1_method_28_code
def yX6_awaiting : MethodName := ⟨RX6, "awaiting", "(LSharedRegisters$Message;Z)LSharedRegisters$Request;"⟩
abbrev cX6_endCurrent : ByteArray := prog_1_method_29_code
def yX6_endCurrent : MethodName := ⟨RX6, "endCurrent", "(LSharedRegisters$Asker;I)I"⟩
abbrev cX6_sendToSet : ByteArray := prog_1_method_30_code
def yX6_sendToSet : MethodName := ⟨RX6, "sendToSet", "(ILSharedRegisters$Request;ILSharedRegisters$State;)V"⟩
abbrev cX6_sendBack : ByteArray := prog_1_method_31_code
def yX6_sendBack : MethodName := ⟨RX6, "sendBack", "(ILSharedRegisters$Message;ILSharedRegisters$State;)V"⟩
def RX7 : String := "SharedRegistersModel"
def TX7 : u_T := fun k => match k with
  | 0 => ("SharedRegistersModel", "many", "I", false)
  | 1 => ("SharedRegistersModel", "sort", "[I", true)
  | 2 => ("SharedRegistersModel", "who", "[I", true)
  | 3 => ("SharedRegistersModel", "whom", "[I", true)
  | 4 => ("SharedRegistersModel", "about", "[I", true)
  | 5 => ("SharedRegistersModel", "ballot", "[I", true)
  | 6 => ("SharedRegistersModel", "tells", "[Z", true)
  | 7 => ("SharedRegistersModel", "version", "[I", true)
  | 8 => ("SharedRegistersModel", "value", "[J", true)
  | 9 => ("SharedRegistersModel", "isDown", "[Z", true)
  | 10 => ("SharedRegistersModel", "promise", "[I", true)
  | 11 => ("SharedRegistersModel", "accepted", "[I", true)
  | 12 => ("SharedRegistersModel", "there", "[Z", true)
  | 13 => ("SharedRegistersModel", "keptVersion", "[I", true)
  | 14 => ("SharedRegistersModel", "keptValue", "[J", true)
  | 15 => ("SharedRegistersModel", "count", "[I", true)
  | 16 => ("SharedRegistersModel", "set", "[I", true)
  | 17 => ("SharedRegistersModel", "enough", "[I", true)
  | 18 => ("SharedRegistersModel", "nowSet", "[I", true)
  | 19 => ("SharedRegistersModel", "nowEnough", "[I", true)
  | 20 => ("SharedRegistersModel", "now", "[I", true)
  | 21 => ("SharedRegistersModel", "accepting", "[Z", true)
  | 22 => ("SharedRegistersModel", "answered", "[I", true)
  | 23 => ("SharedRegistersModel", "best", "[I", true)
  | 24 => ("SharedRegistersModel", "has", "[Z", true)
  | 25 => ("SharedRegistersModel", "hasVersion", "[I", true)
  | 26 => ("SharedRegistersModel", "hasValue", "[J", true)
  | 27 => ("SharedRegistersModel", "failing", "[Z", true)
  | 28 => ("SharedRegistersModel", "requests", "I", false)
  | 29 => ("SharedRegistersModel", "key", "[I", true)
  | 30 => ("SharedRegistersModel", "change", "[I", true)
  | 31 => ("SharedRegistersModel", "argument", "[J", true)
  | 32 => ("SharedRegistersModel", "its", "[I", true)
  | 33 => ("SharedRegistersModel", "ended", "[I", true)
  | 34 => ("SharedRegistersModel", "failed", "[Z", true)
  | 35 => ("SharedRegistersModel", "isThere", "[Z", true)
  | 36 => ("SharedRegistersModel", "endVersion", "[I", true)
  | 37 => ("SharedRegistersModel", "endValue", "[J", true)
  | _ => ("SharedRegistersModel", "thrown", "I", false)
def tyX7 : Nat → FieldType := fun k => match k with
  | 0 => .int
  | 1 => .array .int
  | 2 => .array .int
  | 3 => .array .int
  | 4 => .array .int
  | 5 => .array .int
  | 6 => .array .boolean
  | 7 => .array .int
  | 8 => .array .long
  | 9 => .array .boolean
  | 10 => .array .int
  | 11 => .array .int
  | 12 => .array .boolean
  | 13 => .array .int
  | 14 => .array .long
  | 15 => .array .int
  | 16 => .array .int
  | 17 => .array .int
  | 18 => .array .int
  | 19 => .array .int
  | 20 => .array .int
  | 21 => .array .boolean
  | 22 => .array .int
  | 23 => .array .int
  | 24 => .array .boolean
  | 25 => .array .int
  | 26 => .array .long
  | 27 => .array .boolean
  | 28 => .int
  | 29 => .array .int
  | 30 => .array .int
  | 31 => .array .long
  | 32 => .array .int
  | 33 => .array .int
  | 34 => .array .boolean
  | 35 => .array .boolean
  | 36 => .array .int
  | 37 => .array .long
  | _ => .int
abbrev wsX70 : List Cond := u_ws RX7 TX7 39
theorem nmX7 : ∀ a, a < 39 → ∀ b, b < 39 → a ≠ b → (TX7 a).2.1 ≠ (TX7 b).2.1 := by decide +kernel
theorem tyX7_ok : ∀ k, k < 39 → parseFieldDescriptor (TX7 k).2.2.1 = some (tyX7 k) := by decide +kernel
abbrev cX7_init : ByteArray := prog_9_method_1_code
def yX7_init : MethodName := ⟨RX7, "<init>", "()V"⟩
abbrev cX7_thrown : ByteArray := prog_9_method_2_code
def yX7_thrown : MethodName := ⟨RX7, "thrown", "()I"⟩
abbrev cX7_send : ByteArray := prog_9_method_3_code
def yX7_send : MethodName := ⟨RX7, "send", "(IIIIIZIJ)V"⟩
abbrev cX7_drop : ByteArray := prog_9_method_4_code
def yX7_drop : MethodName := ⟨RX7, "drop", "(I)V"⟩
abbrev cX7_noMessage : ByteArray := prog_9_method_5_code
def yX7_noMessage : MethodName := ⟨RX7, "noMessage", "(I)Z"⟩
abbrev cX7_bits : ByteArray := prog_9_method_6_code
def yX7_bits : MethodName := ⟨RX7, "bits", "(I)I"⟩
abbrev cX7_noAsker : ByteArray := prog_9_method_7_code
def yX7_noAsker : MethodName := ⟨RX7, "noAsker", "(I)Z"⟩
abbrev cX7_noKeeper : ByteArray := prog_9_method_8_code
def yX7_noKeeper : MethodName := ⟨RX7, "noKeeper", "(I)Z"⟩
abbrev cX7_noKey : ByteArray := prog_9_method_9_code
def yX7_noKey : MethodName := ⟨RX7, "noKey", "(I)Z"⟩
abbrev cX7_ask : ByteArray := prog_9_method_10_code
def yX7_ask : MethodName := ⟨RX7, "ask", "(IIIJ)I"⟩
abbrev cX7_lose0 : ByteArray := prog_9_method_11_code
def yX7_lose0 : MethodName := ⟨RX7, "lose0", "(I)V"⟩
abbrev cX7_give : ByteArray := prog_9_method_12_code
def yX7_give : MethodName := ⟨RX7, "give", "(I)I"⟩
abbrev cX7_plan : ByteArray := prog_9_method_13_code
def yX7_plan : MethodName := ⟨RX7, "plan", "(IIII)V"⟩
abbrev cX7_work : ByteArray := prog_9_method_14_code
def yX7_work : MethodName := ⟨RX7, "work", "(I)V"⟩
abbrev cX7_prepared : ByteArray := prog_9_method_15_code
def yX7_prepared : MethodName := ⟨RX7, "prepared", "(IIII)V"⟩
abbrev cX7_refuse : ByteArray := prog_9_method_16_code
def yX7_refuse : MethodName := ⟨RX7, "refuse", "(IIII)V"⟩
abbrev cX7_promised : ByteArray := prog_9_method_17_code
def yX7_promised : MethodName := ⟨RX7, "promised", "(IIIIZIJ)V"⟩
abbrev cX7_accept : ByteArray := prog_9_method_18_code
def yX7_accept : MethodName := ⟨RX7, "accept", "(IIIIZIJ)V"⟩
abbrev cX7_taken : ByteArray := prog_9_method_19_code
def yX7_taken : MethodName := ⟨RX7, "taken", "(III)V"⟩
abbrev cX7_refused : ByteArray := prog_9_method_20_code
def yX7_refused : MethodName := ⟨RX7, "refused", "(III)V"⟩
abbrev cX7_takeOne : ByteArray := prog_9_method_21_code
def yX7_takeOne : MethodName := ⟨RX7, "takeOne", "(I)I"⟩
abbrev cX7_take : ByteArray := prog_9_method_22_code
def yX7_take : MethodName := ⟨RX7, "take", "(I)I"⟩
abbrev cX7_run : ByteArray := prog_9_method_23_code
def yX7_run : MethodName := ⟨RX7, "run", "(I)I"⟩
abbrev cX7_lose : ByteArray := prog_9_method_24_code
def yX7_lose : MethodName := ⟨RX7, "lose", "(I)I"⟩
abbrev cX7_twice : ByteArray := prog_9_method_25_code
def yX7_twice : MethodName := ⟨RX7, "twice", "(I)I"⟩
abbrev cX7_down : ByteArray := prog_9_method_26_code
def yX7_down : MethodName := ⟨RX7, "down", "(IZ)Z"⟩
abbrev cX7_copy : ByteArray := prog_9_method_27_code
def yX7_copy : MethodName := ⟨RX7, "copy", "(II)I"⟩
abbrev cX7_messages : ByteArray := prog_9_method_28_code
def yX7_messages : MethodName := ⟨RX7, "messages", "()I"⟩
abbrev cX7_message : ByteArray := prog_9_method_29_code
def yX7_message : MethodName := ⟨RX7, "message", "(II)I"⟩
abbrev cX7_keeper : ByteArray := prog_9_method_30_code
def yX7_keeper : MethodName := ⟨RX7, "keeper", "(III)I"⟩
abbrev cX7_kept : ByteArray := prog_9_method_31_code
def yX7_kept : MethodName := ⟨RX7, "kept", "(II)J"⟩
abbrev cX7_asker : ByteArray := prog_9_method_32_code
def yX7_asker : MethodName := ⟨RX7, "asker", "(II)I"⟩
abbrev cX7_noRequest : ByteArray := prog_9_method_33_code
def yX7_noRequest : MethodName := ⟨RX7, "noRequest", "(I)Z"⟩
abbrev cX7_request : ByteArray := prog_9_method_34_code
def yX7_request : MethodName := ⟨RX7, "request", "(II)I"⟩
abbrev cX7_result : ByteArray := prog_9_method_35_code
def yX7_result : MethodName := ⟨RX7, "result", "(I)J"⟩
def RJ6 : String := "java/lang/Integer"
def TJ6 : u_T := fun k => match k with
  | _ => ("", "", "", false)
def tyJ6 : Nat → FieldType := fun k => match k with
  | _ => .int
abbrev wsJ60 : List Cond := u_ws RJ6 TJ6 0
theorem nmJ6 : ∀ a, a < 0 → ∀ b, b < 0 → a ≠ b → (TJ6 a).2.1 ≠ (TJ6 b).2.1 := by decide +kernel
theorem tyJ6_ok : ∀ k, k < 0 → parseFieldDescriptor (TJ6 k).2.2.1 = some (tyJ6 k) := by decide +kernel
abbrev cJ6_bitCount_0f7a4 : ByteArray := prog_13_method_49_code
def yJ6_bitCount_0f7a4 : MethodName := ⟨RJ6, "bitCount", "(I)I"⟩
def RJ9 : String := "java/lang/Math"
def TJ9 : u_T := fun k => match k with
  | _ => ("", "", "", false)
def tyJ9 : Nat → FieldType := fun k => match k with
  | _ => .int
abbrev wsJ90 : List Cond := u_ws RJ9 TJ9 0
theorem nmJ9 : ∀ a, a < 0 → ∀ b, b < 0 → a ≠ b → (TJ9 a).2.1 ≠ (TJ9 b).2.1 := by decide +kernel
theorem tyJ9_ok : ∀ k, k < 0 → parseFieldDescriptor (TJ9 k).2.2.1 = some (tyJ9 k) := by decide +kernel
abbrev cJ9_max_7cf53 : ByteArray := prog_14_method_65_code
def yJ9_max_7cf53 : MethodName := ⟨RJ9, "max", "(II)I"⟩
def RJ0 : String := "java/lang/String"
def TJ0 : u_T := fun k => match k with
  | _ => ("", "", "", false)
def tyJ0 : Nat → FieldType := fun k => match k with
  | _ => .int
abbrev wsJ00 : List Cond := u_ws RJ0 TJ0 0
theorem nmJ0 : ∀ a, a < 0 → ∀ b, b < 0 → a ≠ b → (TJ0 a).2.1 ≠ (TJ0 b).2.1 := by decide +kernel
theorem tyJ0_ok : ∀ k, k < 0 → parseFieldDescriptor (TJ0 k).2.2.1 = some (tyJ0 k) := by decide +kernel
def RL : String := "SharedRegistersLaw"
abbrev cL_ask : ByteArray := method_3_code
def yL_ask : MethodName := ⟨RL, "ask", "(LSharedRegisters;IIIJ[J)I"⟩
abbrev cL_give : ByteArray := method_4_code
def yL_give : MethodName := ⟨RL, "give", "(LSharedRegisters;I[J)I"⟩
abbrev cL_plan : ByteArray := method_5_code
def yL_plan : MethodName := ⟨RL, "plan", "(LSharedRegisters;IIII)I"⟩
abbrev cL_take : ByteArray := method_6_code
def yL_take : MethodName := ⟨RL, "take", "(LSharedRegisters;I[J)I"⟩
abbrev cL_run : ByteArray := method_7_code
def yL_run : MethodName := ⟨RL, "run", "(LSharedRegisters;I[J)I"⟩
abbrev cL_lose : ByteArray := method_8_code
def yL_lose : MethodName := ⟨RL, "lose", "(LSharedRegisters;I[J)I"⟩
abbrev cL_twice : ByteArray := method_9_code
def yL_twice : MethodName := ⟨RL, "twice", "(LSharedRegisters;I[J)I"⟩
abbrev cL_down : ByteArray := method_10_code
def yL_down : MethodName := ⟨RL, "down", "(LSharedRegisters;IZ[J)I"⟩
abbrev cL_copy : ByteArray := method_11_code
def yL_copy : MethodName := ⟨RL, "copy", "(LSharedRegisters;II[J)I"⟩
abbrev cL_message : ByteArray := method_12_code
def yL_message : MethodName := ⟨RL, "message", "(LSharedRegisters;II[J)I"⟩
abbrev cL_keeper : ByteArray := method_13_code
def yL_keeper : MethodName := ⟨RL, "keeper", "(LSharedRegisters;III[J)I"⟩
abbrev cL_kept : ByteArray := method_14_code
def yL_kept : MethodName := ⟨RL, "kept", "(LSharedRegisters;II[J)I"⟩
abbrev cL_asker : ByteArray := method_15_code
def yL_asker : MethodName := ⟨RL, "asker", "(LSharedRegisters;II[J)I"⟩
abbrev cL_request : ByteArray := method_16_code
def yL_request : MethodName := ⟨RL, "request", "(LSharedRegisters;II[J)I"⟩
abbrev cL_result : ByteArray := method_17_code
def yL_result : MethodName := ⟨RL, "result", "(LSharedRegisters;I[J)I"⟩
abbrev cL_law : ByteArray := code
def yL_law : MethodName := ⟨RL, "law", "([I)Z"⟩
def wsX0_init : List Cond := .code yX0_init cX0_init 2 none :: ([.methodLink RX0 3 objectInit, .instanceMethod objectInit, .code objectInit ⟨#[0xb1]⟩ 1 none, .fieldLink RX0 9 "SharedRegisters$Asker" "number" "I", .arrayClass .int, .fieldLink RX0 15 "SharedRegisters$Asker" "sets" "[I", .fieldLink RX0 19 "SharedRegisters$Asker" "enough" "[I", .fieldLink RX0 22 "SharedRegisters$Asker" "count" "I", .fieldLink RX0 25 "SharedRegisters$Asker" "current" "LSharedRegisters$Request;"] ++ wsX00)
def wsX1_init : List Cond := .code yX1_init cX1_init 2 none :: ([.methodLink RX1 1 objectInit, .instanceMethod objectInit, .code objectInit ⟨#[0xb1]⟩ 1 none, .fieldLink RX1 7 "SharedRegisters$Message" "state" "LSharedRegisters$State;"] ++ wsX10)
def wsX2_init : List Cond := .code yX2_init cX2_init 2 none :: ([.methodLink RX2 1 objectInit, .instanceMethod objectInit, .code objectInit ⟨#[0xb1]⟩ 1 none, .fieldLink RX2 7 "SharedRegisters$Register" "promise" "I", .fieldLink RX2 13 "SharedRegisters$Register" "ballot" "I", .fieldLink RX2 16 "SharedRegisters$Register" "state" "LSharedRegisters$State;"] ++ wsX20)
def wsX2_greaterBallot : List Cond := .code yX2_greaterBallot cX2_greaterBallot 1 (some .int) :: ([.fieldLink RX2 7 "SharedRegisters$Register" "promise" "I", .fieldLink RX2 13 "SharedRegisters$Register" "ballot" "I", .methodLink RX2 20 Lib.Math.max.name, .static Lib.Math.max.name, .initialized "java/lang/Math", .code Lib.Math.max.name Lib.Math.max.code 2 (some .int)] ++ wsX20)
def wsX2_accept : List Cond := .code yX2_accept cX2_accept 3 none :: ([.fieldLink RX2 13 "SharedRegisters$Register" "ballot" "I", .fieldLink RX2 16 "SharedRegisters$Register" "state" "LSharedRegisters$State;", .fieldLink RX2 7 "SharedRegisters$Register" "promise" "I"] ++ wsX20)
def wsX2_catchUp : List Cond := .code yX2_catchUp cX2_catchUp 2 (some .boolean) :: ([.fieldLink RX2 13 "SharedRegisters$Register" "ballot" "I", .fieldLink RX2 16 "SharedRegisters$Register" "state" "LSharedRegisters$State;", .fieldLink RX2 7 "SharedRegisters$Register" "promise" "I", .methodLink RX2 20 Lib.Math.max.name, .static Lib.Math.max.name, .initialized "java/lang/Math", .code Lib.Math.max.name Lib.Math.max.code 2 (some .int)] ++ wsX20)
def wsX3_init : List Cond := .code yX3_init cX3_init 8 none :: ([.methodLink RX3 3 objectInit, .instanceMethod objectInit, .code objectInit ⟨#[0xb1]⟩ 1 none, .fieldLink RX3 9 "SharedRegisters$Request" "number" "I", .fieldLink RX3 18 "SharedRegisters$Request" "asker" "I", .fieldLink RX3 21 "SharedRegisters$Request" "key" "I", .fieldLink RX3 24 "SharedRegisters$Request" "change" "I", .fieldLink RX3 27 "SharedRegisters$Request" "argument" "J", .fieldLink RX3 34 "SharedRegisters$Request" "ballot" "I", .fieldLink RX3 41 "SharedRegisters$Request" "enoughPromised" "I", .fieldLink RX3 47 "SharedRegisters$Request" "acceptSet" "I", .fieldLink RX3 50 "SharedRegisters$Request" "enoughTaken" "I", .fieldLink RX3 53 "SharedRegisters$Request" "accepting" "Z", .fieldLink RX3 57 "SharedRegisters$Request" "answered" "I", .fieldLink RX3 60 "SharedRegisters$Request" "toldBallot" "I", .fieldLink RX3 63 "SharedRegisters$Request" "state" "LSharedRegisters$State;", .fieldLink RX3 67 "SharedRegisters$Request" "failed" "Z", .fieldLink RX3 70 "SharedRegisters$Request" "ending" "I"] ++ wsX30 ++ wsX00)
def wsX3_hasAnswer : List Cond := .code yX3_hasAnswer cX3_hasAnswer 2 (some .boolean) :: ([.fieldLink RX3 57 "SharedRegisters$Request" "answered" "I"] ++ wsX30)
def wsX3_countAnswer : List Cond := .code yX3_countAnswer cX3_countAnswer 2 none :: ([.fieldLink RX3 57 "SharedRegisters$Request" "answered" "I"] ++ wsX30)
def wsJ6_bitCount_0f7a4 : List Cond := .code yJ6_bitCount_0f7a4 cJ6_bitCount_0f7a4 1 (some .int) :: ([.constant RJ6 265 (1431655765), .constant RJ6 266 (858993459), .constant RJ6 267 (252645135)])
def wsX3_answers : List Cond := .code yX3_answers cX3_answers 1 (some .int) :: ([.fieldLink RX3 57 "SharedRegisters$Request" "answered" "I", .methodLink RX3 73 yJ6_bitCount_0f7a4, .static yJ6_bitCount_0f7a4, .initialized RJ6, .code yJ6_bitCount_0f7a4 cJ6_bitCount_0f7a4 1 (some .int), .constant RJ6 265 (1431655765), .constant RJ6 266 (858993459), .constant RJ6 267 (252645135)] ++ wsX30)
def wsX3_hearState : List Cond := .code yX3_hearState cX3_hearState 3 none :: ([.fieldLink RX3 60 "SharedRegisters$Request" "toldBallot" "I", .fieldLink RX3 63 "SharedRegisters$Request" "state" "LSharedRegisters$State;"] ++ wsX30)
def wsX5_fails : List Cond := .code yX5_fails cX5_fails 4 (some .boolean) :: ([.fieldLink RX5 9 "SharedRegisters$State" "present" "Z", .fieldLink RX5 15 "SharedRegisters$State" "version" "I", .fieldLink RX5 19 "SharedRegisters$State" "value" "J"] ++ wsX50)
def wsX5_init : List Cond := .code yX5_init cX5_init 5 none :: ([.methodLink RX5 3 objectInit, .instanceMethod objectInit, .code objectInit ⟨#[0xb1]⟩ 1 none, .fieldLink RX5 9 "SharedRegisters$State" "present" "Z", .fieldLink RX5 15 "SharedRegisters$State" "version" "I", .fieldLink RX5 19 "SharedRegisters$State" "value" "J"] ++ wsX50)
def wsX5_next : List Cond := .code yX5_next cX5_next 3 (some (.object "SharedRegisters$State")) :: ([.classLink RX5 10 RX5, .instantiable RX5 3, .initialized RX5, .fieldLink RX5 15 "SharedRegisters$State" "version" "I", .methodLink RX5 31 yX5_init, .instanceMethod yX5_init, .code yX5_init cX5_init 5 none, .methodLink RX5 3 objectInit, .instanceMethod objectInit, .code objectInit ⟨#[0xb1]⟩ 1 none, .fieldLink RX5 9 "SharedRegisters$State" "present" "Z", .fieldLink RX5 19 "SharedRegisters$State" "value" "J"] ++ wsX50)
def wsX5_changed : List Cond := .code yX5_changed cX5_changed 4 (some (.object "SharedRegisters$State")) :: ([.fieldLink RX5 19 "SharedRegisters$State" "value" "J", .classLink RX5 10 RX5, .instantiable RX5 3, .initialized RX5, .methodLink RX5 23 yX5_fails, .instanceMethod yX5_fails, .selects RX5 yX5_fails yX5_fails, .code yX5_fails cX5_fails 4 (some .boolean), .fieldLink RX5 9 "SharedRegisters$State" "present" "Z", .fieldLink RX5 15 "SharedRegisters$State" "version" "I", .methodLink RX5 27 yX5_next, .instanceMethod yX5_next, .selects RX5 yX5_next yX5_next, .code yX5_next cX5_next 3 (some (.object "SharedRegisters$State")), .methodLink RX5 31 yX5_init, .instanceMethod yX5_init, .code yX5_init cX5_init 5 none, .methodLink RX5 3 objectInit, .instanceMethod objectInit, .code objectInit ⟨#[0xb1]⟩ 1 none] ++ wsX50)
def wsX3_beginAccepting_r1 : List Cond := [Cond.fieldLink RX3 63 "SharedRegisters$Request" "state" "LSharedRegisters$State;", Cond.fieldLink RX3 24 "SharedRegisters$Request" "change" "I", Cond.fieldLink RX3 27 "SharedRegisters$Request" "argument" "J", Cond.fieldLink RX3 67 "SharedRegisters$Request" "failed" "Z", Cond.fieldLink RX3 53 "SharedRegisters$Request" "accepting" "Z", Cond.fieldLink RX3 57 "SharedRegisters$Request" "answered" "I", Cond.instanceMethod yX5_fails, Cond.initialized RX5, Cond.selects RX5 yX5_fails yX5_fails, Cond.code yX5_fails cX5_fails 4 (some .boolean), Cond.fieldLink RX5 9 "SharedRegisters$State" "present" "Z", Cond.fieldLink RX5 15 "SharedRegisters$State" "version" "I", Cond.fieldLink RX5 19 "SharedRegisters$State" "value" "J", Cond.instanceMethod yX5_changed, Cond.selects RX5 yX5_changed yX5_changed, Cond.code yX5_changed cX5_changed 4 (some (.object "SharedRegisters$State")), Cond.classLink RX5 10 RX5, Cond.instantiable RX5 3, Cond.methodLink RX5 23 yX5_fails, Cond.methodLink RX5 27 yX5_next, Cond.instanceMethod yX5_next, Cond.selects RX5 yX5_next yX5_next, Cond.code yX5_next cX5_next 3 (some (.object "SharedRegisters$State")), Cond.methodLink RX5 31 yX5_init]
def wsX3_beginAccepting_r2 : List Cond := [Cond.instanceMethod yX5_init, Cond.code yX5_init cX5_init 5 none, Cond.methodLink RX5 3 objectInit, Cond.instanceMethod objectInit, Cond.code objectInit ⟨#[0xb1]⟩ 1 none]
def wsX3_beginAccepting : List Cond := .code yX3_beginAccepting cX3_beginAccepting 1 none :: ((wsX3_beginAccepting_r1 ++ wsX3_beginAccepting_r2) ++ wsX30 ++ wsX50)
def wsX4_init : List Cond := .code yX4_init cX4_init 3 none :: ([.methodLink RX4 3 objectInit, .instanceMethod objectInit, .code objectInit ⟨#[0xb1]⟩ 1 none, .classLink RX4 9 RX1, .fieldLink RX4 11 "SharedRegisters$Row" "messages" "[LSharedRegisters$Message;", .instantiable RX1 7, .initialized RX1, .fieldLink RX4 20 "SharedRegisters$Row" "size" "I", .instanceMethod yX1_init, .code yX1_init cX1_init 2 none, .methodLink RX1 1 objectInit, .fieldLink RX1 7 "SharedRegisters$Message" "state" "LSharedRegisters$State;"] ++ wsX40 ++ wsX10)
def wsX4_drawOut : List Cond := .code yX4_drawOut cX4_drawOut 4 (some (.object "SharedRegisters$Message")) :: ([.fieldLink RX4 11 "SharedRegisters$Row" "messages" "[LSharedRegisters$Message;", .fieldLink RX4 20 "SharedRegisters$Row" "size" "I"] ++ wsX40)
def wsX4_send : List Cond := .code yX4_send cX4_send 9 none :: ([.fieldLink RX4 20 "SharedRegisters$Row" "size" "I", .fieldLink RX4 11 "SharedRegisters$Row" "messages" "[LSharedRegisters$Message;"] ++ wsX40 ++ wsX10)
def wsX5_versionOrNone : List Cond := .code yX5_versionOrNone cX5_versionOrNone 1 (some .int) :: ([.fieldLink RX5 9 "SharedRegisters$State" "present" "Z", .fieldLink RX5 15 "SharedRegisters$State" "version" "I"] ++ wsX50)
def wsX6_init_r1 : List Cond := [Cond.methodLink RX6 1 objectInit, Cond.instanceMethod objectInit, Cond.code objectInit ⟨#[0xb1]⟩ 1 none, Cond.classLink RX6 7 RX5, Cond.instantiable RX5 3, Cond.initialized RX5, Cond.fieldLink RX6 12 "SharedRegisters" "absent" "LSharedRegisters$State;", Cond.classLink RX6 18 RX2, Cond.fieldLink RX6 20 "SharedRegisters" "registers" "[LSharedRegisters$Register;", Cond.instantiable RX2 3, Cond.initialized RX2, Cond.arrayClass .boolean, Cond.fieldLink RX6 27 "SharedRegisters" "isDown" "[Z", Cond.classLink RX6 31 RX0, Cond.fieldLink RX6 33 "SharedRegisters" "askers" "[LSharedRegisters$Asker;", Cond.instantiable RX0 5, Cond.initialized RX0, Cond.classLink RX6 40 RX3, Cond.fieldLink RX6 42 "SharedRegisters" "requests" "[LSharedRegisters$Request;", Cond.classLink RX6 46 RX4, Cond.instantiable RX4 2, Cond.initialized RX4, Cond.fieldLink RX6 49 "SharedRegisters" "row" "LSharedRegisters$Row;", Cond.fieldLink RX6 53 "SharedRegisters" "requestCount" "I"]
def wsX6_init_r2 : List Cond := [Cond.instanceMethod yX5_init, Cond.code yX5_init cX5_init 5 none, Cond.methodLink RX5 3 objectInit, Cond.fieldLink RX5 9 "SharedRegisters$State" "present" "Z", Cond.fieldLink RX5 15 "SharedRegisters$State" "version" "I", Cond.fieldLink RX5 19 "SharedRegisters$State" "value" "J", Cond.instanceMethod yX2_init, Cond.code yX2_init cX2_init 2 none, Cond.methodLink RX2 1 objectInit, Cond.fieldLink RX2 7 "SharedRegisters$Register" "promise" "I", Cond.fieldLink RX2 13 "SharedRegisters$Register" "ballot" "I", Cond.fieldLink RX2 16 "SharedRegisters$Register" "state" "LSharedRegisters$State;", Cond.instanceMethod yX0_init, Cond.code yX0_init cX0_init 2 none, Cond.methodLink RX0 3 objectInit, Cond.fieldLink RX0 9 "SharedRegisters$Asker" "number" "I", Cond.arrayClass .int, Cond.fieldLink RX0 15 "SharedRegisters$Asker" "sets" "[I", Cond.fieldLink RX0 19 "SharedRegisters$Asker" "enough" "[I", Cond.fieldLink RX0 22 "SharedRegisters$Asker" "count" "I", Cond.fieldLink RX0 25 "SharedRegisters$Asker" "current" "LSharedRegisters$Request;", Cond.instanceMethod yX4_init, Cond.code yX4_init cX4_init 3 none, Cond.methodLink RX4 3 objectInit]
def wsX6_init_r3 : List Cond := [Cond.classLink RX4 9 RX1, Cond.fieldLink RX4 11 "SharedRegisters$Row" "messages" "[LSharedRegisters$Message;", Cond.instantiable RX1 7, Cond.initialized RX1, Cond.fieldLink RX4 20 "SharedRegisters$Row" "size" "I", Cond.instanceMethod yX1_init, Cond.code yX1_init cX1_init 2 none, Cond.methodLink RX1 1 objectInit, Cond.fieldLink RX1 7 "SharedRegisters$Message" "state" "LSharedRegisters$State;"]
def wsX6_init : List Cond := .code yX6_init cX6_init 2 none :: ((wsX6_init_r1 ++ (wsX6_init_r2 ++ wsX6_init_r3)) ++ wsX50 ++ wsX60 ++ wsX20 ++ wsX00 ++ wsX40 ++ wsX10)
def wsX6_needIndex : List Cond := .code yX6_needIndex cX6_needIndex 2 none :: ([.classLink RX6 152 "java/lang/IndexOutOfBoundsException", .initialized "java/lang/IndexOutOfBoundsException"] ++ (vx_atS RX6 156 "java/lang/IndexOutOfBoundsException" ["java/lang/RuntimeException", "java/lang/Exception"]).filter goodWord)
def wsX6_needRange : List Cond := .code yX6_needRange cX6_needRange 3 none :: ([.classLink RX6 195 "java/lang/IllegalArgumentException", .initialized "java/lang/IllegalArgumentException"] ++ (vx_atS RX6 199 "java/lang/IllegalArgumentException" ["java/lang/RuntimeException", "java/lang/Exception"]).filter goodWord)
def wsX6_sendToSet : List Cond := .code yX6_sendToSet cX6_sendToSet 6 none :: ([.fieldLink RX6 49 "SharedRegisters" "row" "LSharedRegisters$Row;", .instanceMethod yX4_send, .initialized RX4, .selects RX4 yX4_send yX4_send, .code yX4_send cX4_send 9 none, .fieldLink RX4 20 "SharedRegisters$Row" "size" "I", .fieldLink RX4 11 "SharedRegisters$Row" "messages" "[LSharedRegisters$Message;"] ++ wsX60 ++ wsX30 ++ wsX40 ++ wsX10)
def wsX6_ask_r1 : List Cond := [Cond.fieldLink RX6 33 "SharedRegisters" "askers" "[LSharedRegisters$Asker;", Cond.fieldLink RX6 53 "SharedRegisters" "requestCount" "I", Cond.classLink RX6 40 RX3, Cond.instantiable RX3 15, Cond.initialized RX3, Cond.fieldLink RX6 12 "SharedRegisters" "absent" "LSharedRegisters$State;", Cond.fieldLink RX6 42 "SharedRegisters" "requests" "[LSharedRegisters$Request;", Cond.methodLink RX6 57 yX6_needIndex, Cond.static yX6_needIndex, Cond.initialized RX6, Cond.code yX6_needIndex cX6_needIndex 2 none, Cond.classLink RX6 152 "java/lang/IndexOutOfBoundsException", Cond.initialized "java/lang/IndexOutOfBoundsException", Cond.methodLink RX6 61 yX6_needRange, Cond.static yX6_needRange, Cond.code yX6_needRange cX6_needRange 3 none, Cond.classLink RX6 195 "java/lang/IllegalArgumentException", Cond.initialized "java/lang/IllegalArgumentException", Cond.instanceMethod yX3_init, Cond.code yX3_init cX3_init 8 none, Cond.methodLink RX3 3 objectInit, Cond.instanceMethod objectInit, Cond.code objectInit ⟨#[0xb1]⟩ 1 none, Cond.fieldLink RX3 9 "SharedRegisters$Request" "number" "I"]
def wsX6_ask_r2 : List Cond := [Cond.fieldLink RX3 18 "SharedRegisters$Request" "asker" "I", Cond.fieldLink RX3 21 "SharedRegisters$Request" "key" "I", Cond.fieldLink RX3 24 "SharedRegisters$Request" "change" "I", Cond.fieldLink RX3 27 "SharedRegisters$Request" "argument" "J", Cond.fieldLink RX3 34 "SharedRegisters$Request" "ballot" "I", Cond.fieldLink RX3 41 "SharedRegisters$Request" "enoughPromised" "I", Cond.fieldLink RX3 47 "SharedRegisters$Request" "acceptSet" "I", Cond.fieldLink RX3 50 "SharedRegisters$Request" "enoughTaken" "I", Cond.fieldLink RX3 53 "SharedRegisters$Request" "accepting" "Z", Cond.fieldLink RX3 57 "SharedRegisters$Request" "answered" "I", Cond.fieldLink RX3 60 "SharedRegisters$Request" "toldBallot" "I", Cond.fieldLink RX3 63 "SharedRegisters$Request" "state" "LSharedRegisters$State;", Cond.fieldLink RX3 67 "SharedRegisters$Request" "failed" "Z", Cond.fieldLink RX3 70 "SharedRegisters$Request" "ending" "I", Cond.methodLink RX6 79 yX6_sendToSet, Cond.instanceMethod yX6_sendToSet, Cond.selects RX6 yX6_sendToSet yX6_sendToSet, Cond.code yX6_sendToSet cX6_sendToSet 6 none, Cond.fieldLink RX6 49 "SharedRegisters" "row" "LSharedRegisters$Row;", Cond.instanceMethod yX4_send, Cond.initialized RX4, Cond.selects RX4 yX4_send yX4_send, Cond.code yX4_send cX4_send 9 none, Cond.fieldLink RX4 20 "SharedRegisters$Row" "size" "I"]
def wsX6_ask_r3 : List Cond := [Cond.fieldLink RX4 11 "SharedRegisters$Row" "messages" "[LSharedRegisters$Message;"]
def wsX6_ask : List Cond := .code yX6_ask cX6_ask 8 (some .int) :: ((wsX6_ask_r1 ++ (wsX6_ask_r2 ++ wsX6_ask_r3)) ++ wsX60 ++ wsX00 ++ wsX30 ++ wsX40 ++ wsX10 ++ (vx_atS RX6 156 "java/lang/IndexOutOfBoundsException" ["java/lang/RuntimeException", "java/lang/Exception"]).filter goodWord ++ (vx_atS RX6 199 "java/lang/IllegalArgumentException" ["java/lang/RuntimeException", "java/lang/Exception"]).filter goodWord)
def wsX6_endCurrent : List Cond := .code yX6_endCurrent cX6_endCurrent 3 (some .int) :: ([] ++ wsX00 ++ wsX30)
def wsX6_give : List Cond := .code yX6_give cX6_give 2 (some .int) :: ([.fieldLink RX6 33 "SharedRegisters" "askers" "[LSharedRegisters$Asker;", .methodLink RX6 57 yX6_needIndex, .static yX6_needIndex, .initialized RX6, .code yX6_needIndex cX6_needIndex 2 none, .classLink RX6 152 "java/lang/IndexOutOfBoundsException", .initialized "java/lang/IndexOutOfBoundsException", .methodLink RX6 86 yX6_endCurrent, .static yX6_endCurrent, .code yX6_endCurrent cX6_endCurrent 3 (some .int)] ++ wsX60 ++ wsX00 ++ wsX30 ++ (vx_atS RX6 156 "java/lang/IndexOutOfBoundsException" ["java/lang/RuntimeException", "java/lang/Exception"]).filter goodWord)
def wsX6_plan : List Cond := .code yX6_plan cX6_plan 5 none :: ([.fieldLink RX6 33 "SharedRegisters" "askers" "[LSharedRegisters$Asker;", .methodLink RX6 57 yX6_needIndex, .static yX6_needIndex, .initialized RX6, .code yX6_needIndex cX6_needIndex 2 none, .classLink RX6 152 "java/lang/IndexOutOfBoundsException", .initialized "java/lang/IndexOutOfBoundsException", .methodLink RX6 61 yX6_needRange, .static yX6_needRange, .code yX6_needRange cX6_needRange 3 none, .classLink RX6 195 "java/lang/IllegalArgumentException", .initialized "java/lang/IllegalArgumentException", .methodLink RX6 90 yJ6_bitCount_0f7a4, .static yJ6_bitCount_0f7a4, .initialized RJ6, .code yJ6_bitCount_0f7a4 cJ6_bitCount_0f7a4 1 (some .int), .constant RJ6 265 (1431655765), .constant RJ6 266 (858993459), .constant RJ6 267 (252645135)] ++ wsX60 ++ wsX00 ++ (vx_atS RX6 156 "java/lang/IndexOutOfBoundsException" ["java/lang/RuntimeException", "java/lang/Exception"]).filter goodWord ++ (vx_atS RX6 199 "java/lang/IllegalArgumentException" ["java/lang/RuntimeException", "java/lang/Exception"]).filter goodWord)
def wsX6_registerOf : List Cond := .code yX6_registerOf cX6_registerOf 3 (some (.object "SharedRegisters$Register")) :: ([.fieldLink RX6 20 "SharedRegisters" "registers" "[LSharedRegisters$Register;"] ++ wsX60)
def wsX6_sendBack : List Cond := .code yX6_sendBack cX6_sendBack 5 none :: ([.fieldLink RX6 49 "SharedRegisters" "row" "LSharedRegisters$Row;", .instanceMethod yX4_send, .initialized RX4, .selects RX4 yX4_send yX4_send, .code yX4_send cX4_send 9 none, .fieldLink RX4 20 "SharedRegisters$Row" "size" "I", .fieldLink RX4 11 "SharedRegisters$Row" "messages" "[LSharedRegisters$Message;"] ++ wsX60 ++ wsX10 ++ wsX40)
def wsX6_takePrepare_r1 : List Cond := [Cond.fieldLink RX6 27 "SharedRegisters" "isDown" "[Z", Cond.fieldLink RX6 12 "SharedRegisters" "absent" "LSharedRegisters$State;", Cond.methodLink RX6 140 yX6_registerOf, Cond.instanceMethod yX6_registerOf, Cond.selects RX6 yX6_registerOf yX6_registerOf, Cond.initialized RX6, Cond.code yX6_registerOf cX6_registerOf 3 (some (.object "SharedRegisters$Register")), Cond.fieldLink RX6 20 "SharedRegisters" "registers" "[LSharedRegisters$Register;", Cond.instanceMethod yX2_greaterBallot, Cond.initialized RX2, Cond.selects RX2 yX2_greaterBallot yX2_greaterBallot, Cond.code yX2_greaterBallot cX2_greaterBallot 1 (some .int), Cond.fieldLink RX2 7 "SharedRegisters$Register" "promise" "I", Cond.fieldLink RX2 13 "SharedRegisters$Register" "ballot" "I", Cond.methodLink RX2 20 Lib.Math.max.name, Cond.static Lib.Math.max.name, Cond.initialized "java/lang/Math", Cond.code Lib.Math.max.name Lib.Math.max.code 2 (some .int), Cond.methodLink RX6 219 yX6_sendBack, Cond.instanceMethod yX6_sendBack, Cond.selects RX6 yX6_sendBack yX6_sendBack, Cond.code yX6_sendBack cX6_sendBack 5 none, Cond.fieldLink RX6 49 "SharedRegisters" "row" "LSharedRegisters$Row;", Cond.instanceMethod yX4_send]
def wsX6_takePrepare_r2 : List Cond := [Cond.initialized RX4, Cond.selects RX4 yX4_send yX4_send, Cond.code yX4_send cX4_send 9 none, Cond.fieldLink RX4 20 "SharedRegisters$Row" "size" "I", Cond.fieldLink RX4 11 "SharedRegisters$Row" "messages" "[LSharedRegisters$Message;"]
def wsX6_takePrepare : List Cond := .code yX6_takePrepare cX6_takePrepare 3 none :: ((wsX6_takePrepare_r1 ++ wsX6_takePrepare_r2) ++ wsX60 ++ wsX10 ++ wsX20 ++ wsX40)
def wsX6_awaiting : List Cond := .code yX6_awaiting cX6_awaiting 4 (some (.object "SharedRegisters$Request")) :: ([.fieldLink RX6 33 "SharedRegisters" "askers" "[LSharedRegisters$Asker;", .instanceMethod yX3_hasAnswer, .initialized RX3, .selects RX3 yX3_hasAnswer yX3_hasAnswer, .code yX3_hasAnswer cX3_hasAnswer 2 (some .boolean), .fieldLink RX3 57 "SharedRegisters$Request" "answered" "I"] ++ wsX60 ++ wsX10 ++ wsX00 ++ wsX30)
def wsX6_takePromised_r1 : List Cond := [Cond.methodLink RX6 227 yX6_awaiting, Cond.instanceMethod yX6_awaiting, Cond.selects RX6 yX6_awaiting yX6_awaiting, Cond.initialized RX6, Cond.code yX6_awaiting cX6_awaiting 4 (some (.object "SharedRegisters$Request")), Cond.fieldLink RX6 33 "SharedRegisters" "askers" "[LSharedRegisters$Asker;", Cond.instanceMethod yX3_hasAnswer, Cond.initialized RX3, Cond.selects RX3 yX3_hasAnswer yX3_hasAnswer, Cond.code yX3_hasAnswer cX3_hasAnswer 2 (some .boolean), Cond.fieldLink RX3 57 "SharedRegisters$Request" "answered" "I", Cond.instanceMethod yX3_hearState, Cond.selects RX3 yX3_hearState yX3_hearState, Cond.code yX3_hearState cX3_hearState 3 none, Cond.fieldLink RX3 60 "SharedRegisters$Request" "toldBallot" "I", Cond.fieldLink RX3 63 "SharedRegisters$Request" "state" "LSharedRegisters$State;", Cond.instanceMethod yX3_countAnswer, Cond.selects RX3 yX3_countAnswer yX3_countAnswer, Cond.code yX3_countAnswer cX3_countAnswer 2 none, Cond.instanceMethod yX3_answers, Cond.selects RX3 yX3_answers yX3_answers, Cond.code yX3_answers cX3_answers 1 (some .int), Cond.methodLink RX3 73 yJ6_bitCount_0f7a4, Cond.static yJ6_bitCount_0f7a4]
def wsX6_takePromised_r2 : List Cond := [Cond.initialized RJ6, Cond.code yJ6_bitCount_0f7a4 cJ6_bitCount_0f7a4 1 (some .int), Cond.constant RJ6 265 (1431655765), Cond.constant RJ6 266 (858993459), Cond.constant RJ6 267 (252645135), Cond.instanceMethod yX3_beginAccepting, Cond.selects RX3 yX3_beginAccepting yX3_beginAccepting, Cond.code yX3_beginAccepting cX3_beginAccepting 1 none, Cond.fieldLink RX3 24 "SharedRegisters$Request" "change" "I", Cond.fieldLink RX3 27 "SharedRegisters$Request" "argument" "J", Cond.fieldLink RX3 67 "SharedRegisters$Request" "failed" "Z", Cond.fieldLink RX3 53 "SharedRegisters$Request" "accepting" "Z", Cond.instanceMethod yX5_fails, Cond.initialized RX5, Cond.selects RX5 yX5_fails yX5_fails, Cond.code yX5_fails cX5_fails 4 (some .boolean), Cond.fieldLink RX5 9 "SharedRegisters$State" "present" "Z", Cond.fieldLink RX5 15 "SharedRegisters$State" "version" "I", Cond.fieldLink RX5 19 "SharedRegisters$State" "value" "J", Cond.instanceMethod yX5_changed, Cond.selects RX5 yX5_changed yX5_changed, Cond.code yX5_changed cX5_changed 4 (some (.object "SharedRegisters$State")), Cond.classLink RX5 10 RX5, Cond.instantiable RX5 3]
def wsX6_takePromised_r3 : List Cond := [Cond.methodLink RX5 23 yX5_fails, Cond.methodLink RX5 27 yX5_next, Cond.instanceMethod yX5_next, Cond.selects RX5 yX5_next yX5_next, Cond.code yX5_next cX5_next 3 (some (.object "SharedRegisters$State")), Cond.methodLink RX5 31 yX5_init, Cond.instanceMethod yX5_init, Cond.code yX5_init cX5_init 5 none, Cond.methodLink RX5 3 objectInit, Cond.instanceMethod objectInit, Cond.code objectInit ⟨#[0xb1]⟩ 1 none, Cond.methodLink RX6 79 yX6_sendToSet, Cond.instanceMethod yX6_sendToSet, Cond.selects RX6 yX6_sendToSet yX6_sendToSet, Cond.code yX6_sendToSet cX6_sendToSet 6 none, Cond.fieldLink RX6 49 "SharedRegisters" "row" "LSharedRegisters$Row;", Cond.instanceMethod yX4_send, Cond.initialized RX4, Cond.selects RX4 yX4_send yX4_send, Cond.code yX4_send cX4_send 9 none, Cond.fieldLink RX4 20 "SharedRegisters$Row" "size" "I", Cond.fieldLink RX4 11 "SharedRegisters$Row" "messages" "[LSharedRegisters$Message;"]
def wsX6_takePromised : List Cond := .code yX6_takePromised cX6_takePromised 3 none :: ((wsX6_takePromised_r1 ++ (wsX6_takePromised_r2 ++ wsX6_takePromised_r3)) ++ wsX10 ++ wsX30 ++ wsX60 ++ wsX00 ++ wsX50 ++ wsX40)
def wsX6_takeAccept_r1 : List Cond := [Cond.fieldLink RX6 27 "SharedRegisters" "isDown" "[Z", Cond.fieldLink RX6 12 "SharedRegisters" "absent" "LSharedRegisters$State;", Cond.methodLink RX6 140 yX6_registerOf, Cond.instanceMethod yX6_registerOf, Cond.selects RX6 yX6_registerOf yX6_registerOf, Cond.initialized RX6, Cond.code yX6_registerOf cX6_registerOf 3 (some (.object "SharedRegisters$Register")), Cond.fieldLink RX6 20 "SharedRegisters" "registers" "[LSharedRegisters$Register;", Cond.instanceMethod yX2_greaterBallot, Cond.initialized RX2, Cond.selects RX2 yX2_greaterBallot yX2_greaterBallot, Cond.code yX2_greaterBallot cX2_greaterBallot 1 (some .int), Cond.fieldLink RX2 7 "SharedRegisters$Register" "promise" "I", Cond.fieldLink RX2 13 "SharedRegisters$Register" "ballot" "I", Cond.methodLink RX2 20 Lib.Math.max.name, Cond.static Lib.Math.max.name, Cond.initialized "java/lang/Math", Cond.code Lib.Math.max.name Lib.Math.max.code 2 (some .int), Cond.instanceMethod yX2_accept, Cond.selects RX2 yX2_accept yX2_accept, Cond.code yX2_accept cX2_accept 3 none, Cond.fieldLink RX2 16 "SharedRegisters$Register" "state" "LSharedRegisters$State;", Cond.methodLink RX6 219 yX6_sendBack, Cond.instanceMethod yX6_sendBack]
def wsX6_takeAccept_r2 : List Cond := [Cond.selects RX6 yX6_sendBack yX6_sendBack, Cond.code yX6_sendBack cX6_sendBack 5 none, Cond.fieldLink RX6 49 "SharedRegisters" "row" "LSharedRegisters$Row;", Cond.instanceMethod yX4_send, Cond.initialized RX4, Cond.selects RX4 yX4_send yX4_send, Cond.code yX4_send cX4_send 9 none, Cond.fieldLink RX4 20 "SharedRegisters$Row" "size" "I", Cond.fieldLink RX4 11 "SharedRegisters$Row" "messages" "[LSharedRegisters$Message;"]
def wsX6_takeAccept : List Cond := .code yX6_takeAccept cX6_takeAccept 3 none :: ((wsX6_takeAccept_r1 ++ wsX6_takeAccept_r2) ++ wsX60 ++ wsX10 ++ wsX20 ++ wsX40)
def wsX6_takeTaken_r1 : List Cond := [Cond.fieldLink RX6 33 "SharedRegisters" "askers" "[LSharedRegisters$Asker;", Cond.methodLink RX6 227 yX6_awaiting, Cond.instanceMethod yX6_awaiting, Cond.selects RX6 yX6_awaiting yX6_awaiting, Cond.initialized RX6, Cond.code yX6_awaiting cX6_awaiting 4 (some (.object "SharedRegisters$Request")), Cond.instanceMethod yX3_hasAnswer, Cond.initialized RX3, Cond.selects RX3 yX3_hasAnswer yX3_hasAnswer, Cond.code yX3_hasAnswer cX3_hasAnswer 2 (some .boolean), Cond.fieldLink RX3 57 "SharedRegisters$Request" "answered" "I", Cond.instanceMethod yX3_countAnswer, Cond.selects RX3 yX3_countAnswer yX3_countAnswer, Cond.code yX3_countAnswer cX3_countAnswer 2 none, Cond.instanceMethod yX3_answers, Cond.selects RX3 yX3_answers yX3_answers, Cond.code yX3_answers cX3_answers 1 (some .int), Cond.methodLink RX3 73 yJ6_bitCount_0f7a4, Cond.static yJ6_bitCount_0f7a4, Cond.initialized RJ6, Cond.code yJ6_bitCount_0f7a4 cJ6_bitCount_0f7a4 1 (some .int), Cond.constant RJ6 265 (1431655765), Cond.constant RJ6 266 (858993459), Cond.constant RJ6 267 (252645135)]
def wsX6_takeTaken_r2 : List Cond := [Cond.methodLink RX6 86 yX6_endCurrent, Cond.static yX6_endCurrent, Cond.code yX6_endCurrent cX6_endCurrent 3 (some .int)]
def wsX6_takeTaken : List Cond := .code yX6_takeTaken cX6_takeTaken 3 none :: ((wsX6_takeTaken_r1 ++ wsX6_takeTaken_r2) ++ wsX10 ++ wsX30 ++ wsX60 ++ wsX00)
def wsX6_takeRefused : List Cond := .code yX6_takeRefused cX6_takeRefused 3 none :: ([.fieldLink RX6 33 "SharedRegisters" "askers" "[LSharedRegisters$Asker;", .methodLink RX6 249 Lib.Math.max.name, .static Lib.Math.max.name, .initialized "java/lang/Math", .code Lib.Math.max.name Lib.Math.max.code 2 (some .int), .methodLink RX6 86 yX6_endCurrent, .static yX6_endCurrent, .initialized RX6, .code yX6_endCurrent cX6_endCurrent 3 (some .int)] ++ wsX60 ++ wsX10 ++ wsX00 ++ wsX30)
def wsX6_deliver_r1 : List Cond := [Cond.fieldLink RX6 49 "SharedRegisters" "row" "LSharedRegisters$Row;", Cond.instanceMethod yX4_drawOut, Cond.initialized RX4, Cond.selects RX4 yX4_drawOut yX4_drawOut, Cond.code yX4_drawOut cX4_drawOut 4 (some (.object "SharedRegisters$Message")), Cond.fieldLink RX4 11 "SharedRegisters$Row" "messages" "[LSharedRegisters$Message;", Cond.fieldLink RX4 20 "SharedRegisters$Row" "size" "I", Cond.methodLink RX6 200 yX6_takePrepare, Cond.instanceMethod yX6_takePrepare, Cond.selects RX6 yX6_takePrepare yX6_takePrepare, Cond.initialized RX6, Cond.code yX6_takePrepare cX6_takePrepare 3 none, Cond.fieldLink RX6 27 "SharedRegisters" "isDown" "[Z", Cond.fieldLink RX6 12 "SharedRegisters" "absent" "LSharedRegisters$State;", Cond.methodLink RX6 140 yX6_registerOf, Cond.instanceMethod yX6_registerOf, Cond.selects RX6 yX6_registerOf yX6_registerOf, Cond.code yX6_registerOf cX6_registerOf 3 (some (.object "SharedRegisters$Register")), Cond.fieldLink RX6 20 "SharedRegisters" "registers" "[LSharedRegisters$Register;", Cond.instanceMethod yX2_greaterBallot, Cond.initialized RX2, Cond.selects RX2 yX2_greaterBallot yX2_greaterBallot, Cond.code yX2_greaterBallot cX2_greaterBallot 1 (some .int), Cond.fieldLink RX2 7 "SharedRegisters$Register" "promise" "I"]
def wsX6_deliver_r2 : List Cond := [Cond.fieldLink RX2 13 "SharedRegisters$Register" "ballot" "I", Cond.methodLink RX2 20 Lib.Math.max.name, Cond.static Lib.Math.max.name, Cond.initialized "java/lang/Math", Cond.code Lib.Math.max.name Lib.Math.max.code 2 (some .int), Cond.methodLink RX6 219 yX6_sendBack, Cond.instanceMethod yX6_sendBack, Cond.selects RX6 yX6_sendBack yX6_sendBack, Cond.code yX6_sendBack cX6_sendBack 5 none, Cond.instanceMethod yX4_send, Cond.selects RX4 yX4_send yX4_send, Cond.code yX4_send cX4_send 9 none, Cond.methodLink RX6 204 yX6_takePromised, Cond.instanceMethod yX6_takePromised, Cond.selects RX6 yX6_takePromised yX6_takePromised, Cond.code yX6_takePromised cX6_takePromised 3 none, Cond.methodLink RX6 227 yX6_awaiting, Cond.instanceMethod yX6_awaiting, Cond.selects RX6 yX6_awaiting yX6_awaiting, Cond.code yX6_awaiting cX6_awaiting 4 (some (.object "SharedRegisters$Request")), Cond.fieldLink RX6 33 "SharedRegisters" "askers" "[LSharedRegisters$Asker;", Cond.instanceMethod yX3_hasAnswer, Cond.initialized RX3, Cond.selects RX3 yX3_hasAnswer yX3_hasAnswer]
def wsX6_deliver_r3 : List Cond := [Cond.code yX3_hasAnswer cX3_hasAnswer 2 (some .boolean), Cond.fieldLink RX3 57 "SharedRegisters$Request" "answered" "I", Cond.instanceMethod yX3_hearState, Cond.selects RX3 yX3_hearState yX3_hearState, Cond.code yX3_hearState cX3_hearState 3 none, Cond.fieldLink RX3 60 "SharedRegisters$Request" "toldBallot" "I", Cond.fieldLink RX3 63 "SharedRegisters$Request" "state" "LSharedRegisters$State;", Cond.instanceMethod yX3_countAnswer, Cond.selects RX3 yX3_countAnswer yX3_countAnswer, Cond.code yX3_countAnswer cX3_countAnswer 2 none, Cond.instanceMethod yX3_answers, Cond.selects RX3 yX3_answers yX3_answers, Cond.code yX3_answers cX3_answers 1 (some .int), Cond.methodLink RX3 73 yJ6_bitCount_0f7a4, Cond.static yJ6_bitCount_0f7a4, Cond.initialized RJ6, Cond.code yJ6_bitCount_0f7a4 cJ6_bitCount_0f7a4 1 (some .int), Cond.constant RJ6 265 (1431655765), Cond.constant RJ6 266 (858993459), Cond.constant RJ6 267 (252645135), Cond.instanceMethod yX3_beginAccepting, Cond.selects RX3 yX3_beginAccepting yX3_beginAccepting, Cond.code yX3_beginAccepting cX3_beginAccepting 1 none, Cond.fieldLink RX3 24 "SharedRegisters$Request" "change" "I"]
def wsX6_deliver_r4 : List Cond := [Cond.fieldLink RX3 27 "SharedRegisters$Request" "argument" "J", Cond.fieldLink RX3 67 "SharedRegisters$Request" "failed" "Z", Cond.fieldLink RX3 53 "SharedRegisters$Request" "accepting" "Z", Cond.instanceMethod yX5_fails, Cond.initialized RX5, Cond.selects RX5 yX5_fails yX5_fails, Cond.code yX5_fails cX5_fails 4 (some .boolean), Cond.fieldLink RX5 9 "SharedRegisters$State" "present" "Z", Cond.fieldLink RX5 15 "SharedRegisters$State" "version" "I", Cond.fieldLink RX5 19 "SharedRegisters$State" "value" "J", Cond.instanceMethod yX5_changed, Cond.selects RX5 yX5_changed yX5_changed, Cond.code yX5_changed cX5_changed 4 (some (.object "SharedRegisters$State")), Cond.classLink RX5 10 RX5, Cond.instantiable RX5 3, Cond.methodLink RX5 23 yX5_fails, Cond.methodLink RX5 27 yX5_next, Cond.instanceMethod yX5_next, Cond.selects RX5 yX5_next yX5_next, Cond.code yX5_next cX5_next 3 (some (.object "SharedRegisters$State")), Cond.methodLink RX5 31 yX5_init, Cond.instanceMethod yX5_init, Cond.code yX5_init cX5_init 5 none, Cond.methodLink RX5 3 objectInit]
def wsX6_deliver_r5 : List Cond := [Cond.instanceMethod objectInit, Cond.code objectInit ⟨#[0xb1]⟩ 1 none, Cond.methodLink RX6 79 yX6_sendToSet, Cond.instanceMethod yX6_sendToSet, Cond.selects RX6 yX6_sendToSet yX6_sendToSet, Cond.code yX6_sendToSet cX6_sendToSet 6 none, Cond.methodLink RX6 207 yX6_takeAccept, Cond.instanceMethod yX6_takeAccept, Cond.selects RX6 yX6_takeAccept yX6_takeAccept, Cond.code yX6_takeAccept cX6_takeAccept 3 none, Cond.instanceMethod yX2_accept, Cond.selects RX2 yX2_accept yX2_accept, Cond.code yX2_accept cX2_accept 3 none, Cond.fieldLink RX2 16 "SharedRegisters$Register" "state" "LSharedRegisters$State;", Cond.methodLink RX6 210 yX6_takeTaken, Cond.instanceMethod yX6_takeTaken, Cond.selects RX6 yX6_takeTaken yX6_takeTaken, Cond.code yX6_takeTaken cX6_takeTaken 3 none, Cond.methodLink RX6 86 yX6_endCurrent, Cond.static yX6_endCurrent, Cond.code yX6_endCurrent cX6_endCurrent 3 (some .int), Cond.methodLink RX6 213 yX6_takeRefused, Cond.instanceMethod yX6_takeRefused, Cond.selects RX6 yX6_takeRefused yX6_takeRefused]
def wsX6_deliver_r6 : List Cond := [Cond.code yX6_takeRefused cX6_takeRefused 3 none, Cond.methodLink RX6 249 Lib.Math.max.name]
def wsX6_deliver : List Cond := .code yX6_deliver cX6_deliver 3 (some .int) :: ((wsX6_deliver_r1 ++ (wsX6_deliver_r2 ++ (wsX6_deliver_r3 ++ (wsX6_deliver_r4 ++ (wsX6_deliver_r5 ++ wsX6_deliver_r6))))) ++ wsX60 ++ wsX10 ++ wsX40 ++ wsX20 ++ wsX30 ++ wsX00 ++ wsX50)
def wsX6_take_r1 : List Cond := [Cond.fieldLink RX6 49 "SharedRegisters" "row" "LSharedRegisters$Row;", Cond.methodLink RX6 57 yX6_needIndex, Cond.static yX6_needIndex, Cond.initialized RX6, Cond.code yX6_needIndex cX6_needIndex 2 none, Cond.classLink RX6 152 "java/lang/IndexOutOfBoundsException", Cond.initialized "java/lang/IndexOutOfBoundsException", Cond.methodLink RX6 102 yX6_deliver, Cond.instanceMethod yX6_deliver, Cond.selects RX6 yX6_deliver yX6_deliver, Cond.code yX6_deliver cX6_deliver 3 (some .int), Cond.instanceMethod yX4_drawOut, Cond.initialized RX4, Cond.selects RX4 yX4_drawOut yX4_drawOut, Cond.code yX4_drawOut cX4_drawOut 4 (some (.object "SharedRegisters$Message")), Cond.fieldLink RX4 11 "SharedRegisters$Row" "messages" "[LSharedRegisters$Message;", Cond.fieldLink RX4 20 "SharedRegisters$Row" "size" "I", Cond.methodLink RX6 200 yX6_takePrepare, Cond.instanceMethod yX6_takePrepare, Cond.selects RX6 yX6_takePrepare yX6_takePrepare, Cond.code yX6_takePrepare cX6_takePrepare 3 none, Cond.fieldLink RX6 27 "SharedRegisters" "isDown" "[Z", Cond.fieldLink RX6 12 "SharedRegisters" "absent" "LSharedRegisters$State;", Cond.methodLink RX6 140 yX6_registerOf]
def wsX6_take_r2 : List Cond := [Cond.instanceMethod yX6_registerOf, Cond.selects RX6 yX6_registerOf yX6_registerOf, Cond.code yX6_registerOf cX6_registerOf 3 (some (.object "SharedRegisters$Register")), Cond.fieldLink RX6 20 "SharedRegisters" "registers" "[LSharedRegisters$Register;", Cond.instanceMethod yX2_greaterBallot, Cond.initialized RX2, Cond.selects RX2 yX2_greaterBallot yX2_greaterBallot, Cond.code yX2_greaterBallot cX2_greaterBallot 1 (some .int), Cond.fieldLink RX2 7 "SharedRegisters$Register" "promise" "I", Cond.fieldLink RX2 13 "SharedRegisters$Register" "ballot" "I", Cond.methodLink RX2 20 Lib.Math.max.name, Cond.static Lib.Math.max.name, Cond.initialized "java/lang/Math", Cond.code Lib.Math.max.name Lib.Math.max.code 2 (some .int), Cond.methodLink RX6 219 yX6_sendBack, Cond.instanceMethod yX6_sendBack, Cond.selects RX6 yX6_sendBack yX6_sendBack, Cond.code yX6_sendBack cX6_sendBack 5 none, Cond.instanceMethod yX4_send, Cond.selects RX4 yX4_send yX4_send, Cond.code yX4_send cX4_send 9 none, Cond.methodLink RX6 204 yX6_takePromised, Cond.instanceMethod yX6_takePromised, Cond.selects RX6 yX6_takePromised yX6_takePromised]
def wsX6_take_r3 : List Cond := [Cond.code yX6_takePromised cX6_takePromised 3 none, Cond.methodLink RX6 227 yX6_awaiting, Cond.instanceMethod yX6_awaiting, Cond.selects RX6 yX6_awaiting yX6_awaiting, Cond.code yX6_awaiting cX6_awaiting 4 (some (.object "SharedRegisters$Request")), Cond.fieldLink RX6 33 "SharedRegisters" "askers" "[LSharedRegisters$Asker;", Cond.instanceMethod yX3_hasAnswer, Cond.initialized RX3, Cond.selects RX3 yX3_hasAnswer yX3_hasAnswer, Cond.code yX3_hasAnswer cX3_hasAnswer 2 (some .boolean), Cond.fieldLink RX3 57 "SharedRegisters$Request" "answered" "I", Cond.instanceMethod yX3_hearState, Cond.selects RX3 yX3_hearState yX3_hearState, Cond.code yX3_hearState cX3_hearState 3 none, Cond.fieldLink RX3 60 "SharedRegisters$Request" "toldBallot" "I", Cond.fieldLink RX3 63 "SharedRegisters$Request" "state" "LSharedRegisters$State;", Cond.instanceMethod yX3_countAnswer, Cond.selects RX3 yX3_countAnswer yX3_countAnswer, Cond.code yX3_countAnswer cX3_countAnswer 2 none, Cond.instanceMethod yX3_answers, Cond.selects RX3 yX3_answers yX3_answers, Cond.code yX3_answers cX3_answers 1 (some .int), Cond.methodLink RX3 73 yJ6_bitCount_0f7a4, Cond.static yJ6_bitCount_0f7a4]
def wsX6_take_r4 : List Cond := [Cond.initialized RJ6, Cond.code yJ6_bitCount_0f7a4 cJ6_bitCount_0f7a4 1 (some .int), Cond.constant RJ6 265 (1431655765), Cond.constant RJ6 266 (858993459), Cond.constant RJ6 267 (252645135), Cond.instanceMethod yX3_beginAccepting, Cond.selects RX3 yX3_beginAccepting yX3_beginAccepting, Cond.code yX3_beginAccepting cX3_beginAccepting 1 none, Cond.fieldLink RX3 24 "SharedRegisters$Request" "change" "I", Cond.fieldLink RX3 27 "SharedRegisters$Request" "argument" "J", Cond.fieldLink RX3 67 "SharedRegisters$Request" "failed" "Z", Cond.fieldLink RX3 53 "SharedRegisters$Request" "accepting" "Z", Cond.instanceMethod yX5_fails, Cond.initialized RX5, Cond.selects RX5 yX5_fails yX5_fails, Cond.code yX5_fails cX5_fails 4 (some .boolean), Cond.fieldLink RX5 9 "SharedRegisters$State" "present" "Z", Cond.fieldLink RX5 15 "SharedRegisters$State" "version" "I", Cond.fieldLink RX5 19 "SharedRegisters$State" "value" "J", Cond.instanceMethod yX5_changed, Cond.selects RX5 yX5_changed yX5_changed, Cond.code yX5_changed cX5_changed 4 (some (.object "SharedRegisters$State")), Cond.classLink RX5 10 RX5, Cond.instantiable RX5 3]
def wsX6_take_r5 : List Cond := [Cond.methodLink RX5 23 yX5_fails, Cond.methodLink RX5 27 yX5_next, Cond.instanceMethod yX5_next, Cond.selects RX5 yX5_next yX5_next, Cond.code yX5_next cX5_next 3 (some (.object "SharedRegisters$State")), Cond.methodLink RX5 31 yX5_init, Cond.instanceMethod yX5_init, Cond.code yX5_init cX5_init 5 none, Cond.methodLink RX5 3 objectInit, Cond.instanceMethod objectInit, Cond.code objectInit ⟨#[0xb1]⟩ 1 none, Cond.methodLink RX6 79 yX6_sendToSet, Cond.instanceMethod yX6_sendToSet, Cond.selects RX6 yX6_sendToSet yX6_sendToSet, Cond.code yX6_sendToSet cX6_sendToSet 6 none, Cond.methodLink RX6 207 yX6_takeAccept, Cond.instanceMethod yX6_takeAccept, Cond.selects RX6 yX6_takeAccept yX6_takeAccept, Cond.code yX6_takeAccept cX6_takeAccept 3 none, Cond.instanceMethod yX2_accept, Cond.selects RX2 yX2_accept yX2_accept, Cond.code yX2_accept cX2_accept 3 none, Cond.fieldLink RX2 16 "SharedRegisters$Register" "state" "LSharedRegisters$State;", Cond.methodLink RX6 210 yX6_takeTaken]
def wsX6_take_r6 : List Cond := [Cond.instanceMethod yX6_takeTaken, Cond.selects RX6 yX6_takeTaken yX6_takeTaken, Cond.code yX6_takeTaken cX6_takeTaken 3 none, Cond.methodLink RX6 86 yX6_endCurrent, Cond.static yX6_endCurrent, Cond.code yX6_endCurrent cX6_endCurrent 3 (some .int), Cond.methodLink RX6 213 yX6_takeRefused, Cond.instanceMethod yX6_takeRefused, Cond.selects RX6 yX6_takeRefused yX6_takeRefused, Cond.code yX6_takeRefused cX6_takeRefused 3 none, Cond.methodLink RX6 249 Lib.Math.max.name]
def wsX6_take : List Cond := .code yX6_take cX6_take 2 (some .int) :: ((wsX6_take_r1 ++ (wsX6_take_r2 ++ (wsX6_take_r3 ++ (wsX6_take_r4 ++ (wsX6_take_r5 ++ wsX6_take_r6))))) ++ wsX60 ++ wsX40 ++ wsX10 ++ wsX20 ++ wsX30 ++ wsX00 ++ wsX50 ++ (vx_atS RX6 156 "java/lang/IndexOutOfBoundsException" ["java/lang/RuntimeException", "java/lang/Exception"]).filter goodWord)
def wsX6_run_r1 : List Cond := [Cond.fieldLink RX6 49 "SharedRegisters" "row" "LSharedRegisters$Row;", Cond.methodLink RX6 61 yX6_needRange, Cond.static yX6_needRange, Cond.initialized RX6, Cond.code yX6_needRange cX6_needRange 3 none, Cond.classLink RX6 195 "java/lang/IllegalArgumentException", Cond.initialized "java/lang/IllegalArgumentException", Cond.methodLink RX6 102 yX6_deliver, Cond.instanceMethod yX6_deliver, Cond.selects RX6 yX6_deliver yX6_deliver, Cond.code yX6_deliver cX6_deliver 3 (some .int), Cond.instanceMethod yX4_drawOut, Cond.initialized RX4, Cond.selects RX4 yX4_drawOut yX4_drawOut, Cond.code yX4_drawOut cX4_drawOut 4 (some (.object "SharedRegisters$Message")), Cond.fieldLink RX4 11 "SharedRegisters$Row" "messages" "[LSharedRegisters$Message;", Cond.fieldLink RX4 20 "SharedRegisters$Row" "size" "I", Cond.methodLink RX6 200 yX6_takePrepare, Cond.instanceMethod yX6_takePrepare, Cond.selects RX6 yX6_takePrepare yX6_takePrepare, Cond.code yX6_takePrepare cX6_takePrepare 3 none, Cond.fieldLink RX6 27 "SharedRegisters" "isDown" "[Z", Cond.fieldLink RX6 12 "SharedRegisters" "absent" "LSharedRegisters$State;", Cond.methodLink RX6 140 yX6_registerOf]
def wsX6_run_r2 : List Cond := [Cond.instanceMethod yX6_registerOf, Cond.selects RX6 yX6_registerOf yX6_registerOf, Cond.code yX6_registerOf cX6_registerOf 3 (some (.object "SharedRegisters$Register")), Cond.fieldLink RX6 20 "SharedRegisters" "registers" "[LSharedRegisters$Register;", Cond.instanceMethod yX2_greaterBallot, Cond.initialized RX2, Cond.selects RX2 yX2_greaterBallot yX2_greaterBallot, Cond.code yX2_greaterBallot cX2_greaterBallot 1 (some .int), Cond.fieldLink RX2 7 "SharedRegisters$Register" "promise" "I", Cond.fieldLink RX2 13 "SharedRegisters$Register" "ballot" "I", Cond.methodLink RX2 20 Lib.Math.max.name, Cond.static Lib.Math.max.name, Cond.initialized "java/lang/Math", Cond.code Lib.Math.max.name Lib.Math.max.code 2 (some .int), Cond.methodLink RX6 219 yX6_sendBack, Cond.instanceMethod yX6_sendBack, Cond.selects RX6 yX6_sendBack yX6_sendBack, Cond.code yX6_sendBack cX6_sendBack 5 none, Cond.instanceMethod yX4_send, Cond.selects RX4 yX4_send yX4_send, Cond.code yX4_send cX4_send 9 none, Cond.methodLink RX6 204 yX6_takePromised, Cond.instanceMethod yX6_takePromised, Cond.selects RX6 yX6_takePromised yX6_takePromised]
def wsX6_run_r3 : List Cond := [Cond.code yX6_takePromised cX6_takePromised 3 none, Cond.methodLink RX6 227 yX6_awaiting, Cond.instanceMethod yX6_awaiting, Cond.selects RX6 yX6_awaiting yX6_awaiting, Cond.code yX6_awaiting cX6_awaiting 4 (some (.object "SharedRegisters$Request")), Cond.fieldLink RX6 33 "SharedRegisters" "askers" "[LSharedRegisters$Asker;", Cond.instanceMethod yX3_hasAnswer, Cond.initialized RX3, Cond.selects RX3 yX3_hasAnswer yX3_hasAnswer, Cond.code yX3_hasAnswer cX3_hasAnswer 2 (some .boolean), Cond.fieldLink RX3 57 "SharedRegisters$Request" "answered" "I", Cond.instanceMethod yX3_hearState, Cond.selects RX3 yX3_hearState yX3_hearState, Cond.code yX3_hearState cX3_hearState 3 none, Cond.fieldLink RX3 60 "SharedRegisters$Request" "toldBallot" "I", Cond.fieldLink RX3 63 "SharedRegisters$Request" "state" "LSharedRegisters$State;", Cond.instanceMethod yX3_countAnswer, Cond.selects RX3 yX3_countAnswer yX3_countAnswer, Cond.code yX3_countAnswer cX3_countAnswer 2 none, Cond.instanceMethod yX3_answers, Cond.selects RX3 yX3_answers yX3_answers, Cond.code yX3_answers cX3_answers 1 (some .int), Cond.methodLink RX3 73 yJ6_bitCount_0f7a4, Cond.static yJ6_bitCount_0f7a4]
def wsX6_run_r4 : List Cond := [Cond.initialized RJ6, Cond.code yJ6_bitCount_0f7a4 cJ6_bitCount_0f7a4 1 (some .int), Cond.constant RJ6 265 (1431655765), Cond.constant RJ6 266 (858993459), Cond.constant RJ6 267 (252645135), Cond.instanceMethod yX3_beginAccepting, Cond.selects RX3 yX3_beginAccepting yX3_beginAccepting, Cond.code yX3_beginAccepting cX3_beginAccepting 1 none, Cond.fieldLink RX3 24 "SharedRegisters$Request" "change" "I", Cond.fieldLink RX3 27 "SharedRegisters$Request" "argument" "J", Cond.fieldLink RX3 67 "SharedRegisters$Request" "failed" "Z", Cond.fieldLink RX3 53 "SharedRegisters$Request" "accepting" "Z", Cond.instanceMethod yX5_fails, Cond.initialized RX5, Cond.selects RX5 yX5_fails yX5_fails, Cond.code yX5_fails cX5_fails 4 (some .boolean), Cond.fieldLink RX5 9 "SharedRegisters$State" "present" "Z", Cond.fieldLink RX5 15 "SharedRegisters$State" "version" "I", Cond.fieldLink RX5 19 "SharedRegisters$State" "value" "J", Cond.instanceMethod yX5_changed, Cond.selects RX5 yX5_changed yX5_changed, Cond.code yX5_changed cX5_changed 4 (some (.object "SharedRegisters$State")), Cond.classLink RX5 10 RX5, Cond.instantiable RX5 3]
def wsX6_run_r5 : List Cond := [Cond.methodLink RX5 23 yX5_fails, Cond.methodLink RX5 27 yX5_next, Cond.instanceMethod yX5_next, Cond.selects RX5 yX5_next yX5_next, Cond.code yX5_next cX5_next 3 (some (.object "SharedRegisters$State")), Cond.methodLink RX5 31 yX5_init, Cond.instanceMethod yX5_init, Cond.code yX5_init cX5_init 5 none, Cond.methodLink RX5 3 objectInit, Cond.instanceMethod objectInit, Cond.code objectInit ⟨#[0xb1]⟩ 1 none, Cond.methodLink RX6 79 yX6_sendToSet, Cond.instanceMethod yX6_sendToSet, Cond.selects RX6 yX6_sendToSet yX6_sendToSet, Cond.code yX6_sendToSet cX6_sendToSet 6 none, Cond.methodLink RX6 207 yX6_takeAccept, Cond.instanceMethod yX6_takeAccept, Cond.selects RX6 yX6_takeAccept yX6_takeAccept, Cond.code yX6_takeAccept cX6_takeAccept 3 none, Cond.instanceMethod yX2_accept, Cond.selects RX2 yX2_accept yX2_accept, Cond.code yX2_accept cX2_accept 3 none, Cond.fieldLink RX2 16 "SharedRegisters$Register" "state" "LSharedRegisters$State;", Cond.methodLink RX6 210 yX6_takeTaken]
def wsX6_run_r6 : List Cond := [Cond.instanceMethod yX6_takeTaken, Cond.selects RX6 yX6_takeTaken yX6_takeTaken, Cond.code yX6_takeTaken cX6_takeTaken 3 none, Cond.methodLink RX6 86 yX6_endCurrent, Cond.static yX6_endCurrent, Cond.code yX6_endCurrent cX6_endCurrent 3 (some .int), Cond.methodLink RX6 213 yX6_takeRefused, Cond.instanceMethod yX6_takeRefused, Cond.selects RX6 yX6_takeRefused yX6_takeRefused, Cond.code yX6_takeRefused cX6_takeRefused 3 none, Cond.methodLink RX6 249 Lib.Math.max.name]
def wsX6_run : List Cond := .code yX6_run cX6_run 3 (some .int) :: ((wsX6_run_r1 ++ (wsX6_run_r2 ++ (wsX6_run_r3 ++ (wsX6_run_r4 ++ (wsX6_run_r5 ++ wsX6_run_r6))))) ++ wsX60 ++ wsX40 ++ wsX10 ++ wsX20 ++ wsX30 ++ wsX00 ++ wsX50 ++ (vx_atS RX6 199 "java/lang/IllegalArgumentException" ["java/lang/RuntimeException", "java/lang/Exception"]).filter goodWord)
def wsX6_lose : List Cond := .code yX6_lose cX6_lose 2 (some .int) :: ([.fieldLink RX6 49 "SharedRegisters" "row" "LSharedRegisters$Row;", .methodLink RX6 57 yX6_needIndex, .static yX6_needIndex, .initialized RX6, .code yX6_needIndex cX6_needIndex 2 none, .classLink RX6 152 "java/lang/IndexOutOfBoundsException", .initialized "java/lang/IndexOutOfBoundsException", .instanceMethod yX4_drawOut, .initialized RX4, .selects RX4 yX4_drawOut yX4_drawOut, .code yX4_drawOut cX4_drawOut 4 (some (.object "SharedRegisters$Message")), .fieldLink RX4 11 "SharedRegisters$Row" "messages" "[LSharedRegisters$Message;", .fieldLink RX4 20 "SharedRegisters$Row" "size" "I"] ++ wsX60 ++ wsX40 ++ wsX10 ++ (vx_atS RX6 156 "java/lang/IndexOutOfBoundsException" ["java/lang/RuntimeException", "java/lang/Exception"]).filter goodWord)
def wsX6_twice : List Cond := .code yX6_twice cX6_twice 3 (some .int) :: ([.fieldLink RX6 49 "SharedRegisters" "row" "LSharedRegisters$Row;", .methodLink RX6 57 yX6_needIndex, .static yX6_needIndex, .initialized RX6, .code yX6_needIndex cX6_needIndex 2 none, .classLink RX6 152 "java/lang/IndexOutOfBoundsException", .initialized "java/lang/IndexOutOfBoundsException", .instanceMethod yX4_send, .initialized RX4, .selects RX4 yX4_send yX4_send, .code yX4_send cX4_send 9 none, .fieldLink RX4 20 "SharedRegisters$Row" "size" "I", .fieldLink RX4 11 "SharedRegisters$Row" "messages" "[LSharedRegisters$Message;"] ++ wsX60 ++ wsX40 ++ wsX10 ++ (vx_atS RX6 156 "java/lang/IndexOutOfBoundsException" ["java/lang/RuntimeException", "java/lang/Exception"]).filter goodWord)
def wsX6_down : List Cond := .code yX6_down cX6_down 4 (some .boolean) :: ([.fieldLink RX6 27 "SharedRegisters" "isDown" "[Z", .methodLink RX6 57 yX6_needIndex, .static yX6_needIndex, .initialized RX6, .code yX6_needIndex cX6_needIndex 2 none, .classLink RX6 152 "java/lang/IndexOutOfBoundsException", .initialized "java/lang/IndexOutOfBoundsException"] ++ wsX60 ++ (vx_atS RX6 156 "java/lang/IndexOutOfBoundsException" ["java/lang/RuntimeException", "java/lang/Exception"]).filter goodWord)
def wsX6_copy : List Cond := .code yX6_copy cX6_copy 5 (some .int) :: ([.methodLink RX6 57 yX6_needIndex, .static yX6_needIndex, .initialized RX6, .code yX6_needIndex cX6_needIndex 2 none, .classLink RX6 152 "java/lang/IndexOutOfBoundsException", .initialized "java/lang/IndexOutOfBoundsException", .methodLink RX6 140 yX6_registerOf, .instanceMethod yX6_registerOf, .selects RX6 yX6_registerOf yX6_registerOf, .code yX6_registerOf cX6_registerOf 3 (some (.object "SharedRegisters$Register")), .fieldLink RX6 20 "SharedRegisters" "registers" "[LSharedRegisters$Register;", .instanceMethod yX2_catchUp, .initialized RX2, .selects RX2 yX2_catchUp yX2_catchUp, .code yX2_catchUp cX2_catchUp 2 (some .boolean), .fieldLink RX2 13 "SharedRegisters$Register" "ballot" "I", .fieldLink RX2 16 "SharedRegisters$Register" "state" "LSharedRegisters$State;", .fieldLink RX2 7 "SharedRegisters$Register" "promise" "I", .methodLink RX2 20 Lib.Math.max.name, .static Lib.Math.max.name, .initialized "java/lang/Math", .code Lib.Math.max.name Lib.Math.max.code 2 (some .int)] ++ wsX60 ++ wsX20 ++ (vx_atS RX6 156 "java/lang/IndexOutOfBoundsException" ["java/lang/RuntimeException", "java/lang/Exception"]).filter goodWord)
def wsX6_messages : List Cond := .code yX6_messages cX6_messages 1 (some .int) :: ([.fieldLink RX6 49 "SharedRegisters" "row" "LSharedRegisters$Row;"] ++ wsX60 ++ wsX40)
def wsX6_message : List Cond := .code yX6_message cX6_message 4 (some .int) :: ([.classLink RX6 152 "java/lang/IndexOutOfBoundsException", .initialized "java/lang/IndexOutOfBoundsException", .fieldLink RX6 49 "SharedRegisters" "row" "LSharedRegisters$Row;", .methodLink RX6 57 yX6_needIndex, .static yX6_needIndex, .initialized RX6, .code yX6_needIndex cX6_needIndex 2 none, .instanceMethod yX5_versionOrNone, .initialized RX5, .selects RX5 yX5_versionOrNone yX5_versionOrNone, .code yX5_versionOrNone cX5_versionOrNone 1 (some .int), .fieldLink RX5 9 "SharedRegisters$State" "present" "Z", .fieldLink RX5 15 "SharedRegisters$State" "version" "I"] ++ wsX60 ++ wsX40 ++ wsX10 ++ wsX50 ++ (vx_atS RX6 156 "java/lang/IndexOutOfBoundsException" ["java/lang/RuntimeException", "java/lang/Exception"]).filter goodWord)
def wsX6_keeper : List Cond := .code yX6_keeper cX6_keeper 5 (some .int) :: ([.classLink RX6 152 "java/lang/IndexOutOfBoundsException", .initialized "java/lang/IndexOutOfBoundsException", .methodLink RX6 57 yX6_needIndex, .static yX6_needIndex, .initialized RX6, .code yX6_needIndex cX6_needIndex 2 none, .methodLink RX6 140 yX6_registerOf, .instanceMethod yX6_registerOf, .selects RX6 yX6_registerOf yX6_registerOf, .code yX6_registerOf cX6_registerOf 3 (some (.object "SharedRegisters$Register")), .fieldLink RX6 20 "SharedRegisters" "registers" "[LSharedRegisters$Register;", .instanceMethod yX5_versionOrNone, .initialized RX5, .selects RX5 yX5_versionOrNone yX5_versionOrNone, .code yX5_versionOrNone cX5_versionOrNone 1 (some .int), .fieldLink RX5 9 "SharedRegisters$State" "present" "Z", .fieldLink RX5 15 "SharedRegisters$State" "version" "I"] ++ wsX20 ++ wsX60 ++ wsX50 ++ (vx_atS RX6 156 "java/lang/IndexOutOfBoundsException" ["java/lang/RuntimeException", "java/lang/Exception"]).filter goodWord)
def wsX6_kept : List Cond := .code yX6_kept cX6_kept 3 (some .long) :: ([.methodLink RX6 57 yX6_needIndex, .static yX6_needIndex, .initialized RX6, .code yX6_needIndex cX6_needIndex 2 none, .classLink RX6 152 "java/lang/IndexOutOfBoundsException", .initialized "java/lang/IndexOutOfBoundsException", .methodLink RX6 140 yX6_registerOf, .instanceMethod yX6_registerOf, .selects RX6 yX6_registerOf yX6_registerOf, .code yX6_registerOf cX6_registerOf 3 (some (.object "SharedRegisters$Register")), .fieldLink RX6 20 "SharedRegisters" "registers" "[LSharedRegisters$Register;"] ++ wsX20 ++ wsX50 ++ wsX60 ++ (vx_atS RX6 156 "java/lang/IndexOutOfBoundsException" ["java/lang/RuntimeException", "java/lang/Exception"]).filter goodWord)
def wsX6_asker : List Cond := .code yX6_asker cX6_asker 4 (some .int) :: ([.classLink RX6 152 "java/lang/IndexOutOfBoundsException", .initialized "java/lang/IndexOutOfBoundsException", .fieldLink RX6 33 "SharedRegisters" "askers" "[LSharedRegisters$Asker;", .methodLink RX6 57 yX6_needIndex, .static yX6_needIndex, .initialized RX6, .code yX6_needIndex cX6_needIndex 2 none, .instanceMethod yX3_answers, .initialized RX3, .selects RX3 yX3_answers yX3_answers, .code yX3_answers cX3_answers 1 (some .int), .fieldLink RX3 57 "SharedRegisters$Request" "answered" "I", .methodLink RX3 73 yJ6_bitCount_0f7a4, .static yJ6_bitCount_0f7a4, .initialized RJ6, .code yJ6_bitCount_0f7a4 cJ6_bitCount_0f7a4 1 (some .int), .constant RJ6 265 (1431655765), .constant RJ6 266 (858993459), .constant RJ6 267 (252645135)] ++ wsX60 ++ wsX00 ++ wsX30 ++ (vx_atS RX6 156 "java/lang/IndexOutOfBoundsException" ["java/lang/RuntimeException", "java/lang/Exception"]).filter goodWord)
def wsX6_requestAt : List Cond := .code yX6_requestAt cX6_requestAt 3 (some (.object "SharedRegisters$Request")) :: ([.classLink RX6 152 "java/lang/IndexOutOfBoundsException", .initialized "java/lang/IndexOutOfBoundsException", .fieldLink RX6 53 "SharedRegisters" "requestCount" "I", .fieldLink RX6 42 "SharedRegisters" "requests" "[LSharedRegisters$Request;", .methodLink RX6 57 yX6_needIndex, .static yX6_needIndex, .initialized RX6, .code yX6_needIndex cX6_needIndex 2 none] ++ wsX60 ++ (vx_atS RX6 156 "java/lang/IndexOutOfBoundsException" ["java/lang/RuntimeException", "java/lang/Exception"]).filter goodWord)
def wsX6_request : List Cond := .code yX6_request cX6_request 4 (some .int) :: ([.classLink RX6 152 "java/lang/IndexOutOfBoundsException", .initialized "java/lang/IndexOutOfBoundsException", .methodLink RX6 179 yX6_requestAt, .instanceMethod yX6_requestAt, .selects RX6 yX6_requestAt yX6_requestAt, .initialized RX6, .code yX6_requestAt cX6_requestAt 3 (some (.object "SharedRegisters$Request")), .fieldLink RX6 53 "SharedRegisters" "requestCount" "I", .fieldLink RX6 42 "SharedRegisters" "requests" "[LSharedRegisters$Request;", .methodLink RX6 57 yX6_needIndex, .static yX6_needIndex, .code yX6_needIndex cX6_needIndex 2 none, .instanceMethod yX5_versionOrNone, .initialized RX5, .selects RX5 yX5_versionOrNone yX5_versionOrNone, .code yX5_versionOrNone cX5_versionOrNone 1 (some .int), .fieldLink RX5 9 "SharedRegisters$State" "present" "Z", .fieldLink RX5 15 "SharedRegisters$State" "version" "I"] ++ wsX30 ++ wsX60 ++ wsX50 ++ (vx_atS RX6 156 "java/lang/IndexOutOfBoundsException" ["java/lang/RuntimeException", "java/lang/Exception"]).filter goodWord)
def wsX6_result : List Cond := .code yX6_result cX6_result 3 (some .long) :: ([.methodLink RX6 179 yX6_requestAt, .instanceMethod yX6_requestAt, .selects RX6 yX6_requestAt yX6_requestAt, .initialized RX6, .code yX6_requestAt cX6_requestAt 3 (some (.object "SharedRegisters$Request")), .classLink RX6 152 "java/lang/IndexOutOfBoundsException", .initialized "java/lang/IndexOutOfBoundsException", .fieldLink RX6 53 "SharedRegisters" "requestCount" "I", .fieldLink RX6 42 "SharedRegisters" "requests" "[LSharedRegisters$Request;", .methodLink RX6 57 yX6_needIndex, .static yX6_needIndex, .code yX6_needIndex cX6_needIndex 2 none] ++ wsX30 ++ wsX50 ++ wsX60 ++ (vx_atS RX6 156 "java/lang/IndexOutOfBoundsException" ["java/lang/RuntimeException", "java/lang/Exception"]).filter goodWord)
def wsX7_init_r1 : List Cond := [Cond.methodLink RX7 1 objectInit, Cond.instanceMethod objectInit, Cond.code objectInit ⟨#[0xb1]⟩ 1 none, Cond.arrayClass .int, Cond.fieldLink RX7 7 "SharedRegistersModel" "sort" "[I", Cond.fieldLink RX7 13 "SharedRegistersModel" "who" "[I", Cond.fieldLink RX7 16 "SharedRegistersModel" "whom" "[I", Cond.fieldLink RX7 19 "SharedRegistersModel" "about" "[I", Cond.fieldLink RX7 22 "SharedRegistersModel" "ballot" "[I", Cond.arrayClass .boolean, Cond.fieldLink RX7 25 "SharedRegistersModel" "tells" "[Z", Cond.fieldLink RX7 29 "SharedRegistersModel" "version" "[I", Cond.arrayClass .long, Cond.fieldLink RX7 32 "SharedRegistersModel" "value" "[J", Cond.fieldLink RX7 36 "SharedRegistersModel" "isDown" "[Z", Cond.fieldLink RX7 39 "SharedRegistersModel" "promise" "[I", Cond.fieldLink RX7 42 "SharedRegistersModel" "accepted" "[I", Cond.fieldLink RX7 45 "SharedRegistersModel" "there" "[Z", Cond.fieldLink RX7 48 "SharedRegistersModel" "keptVersion" "[I", Cond.fieldLink RX7 51 "SharedRegistersModel" "keptValue" "[J", Cond.fieldLink RX7 54 "SharedRegistersModel" "count" "[I", Cond.fieldLink RX7 57 "SharedRegistersModel" "set" "[I", Cond.fieldLink RX7 60 "SharedRegistersModel" "enough" "[I", Cond.fieldLink RX7 63 "SharedRegistersModel" "nowSet" "[I"]
def wsX7_init_r2 : List Cond := [Cond.fieldLink RX7 66 "SharedRegistersModel" "nowEnough" "[I", Cond.fieldLink RX7 69 "SharedRegistersModel" "now" "[I", Cond.fieldLink RX7 72 "SharedRegistersModel" "accepting" "[Z", Cond.fieldLink RX7 75 "SharedRegistersModel" "answered" "[I", Cond.fieldLink RX7 78 "SharedRegistersModel" "best" "[I", Cond.fieldLink RX7 81 "SharedRegistersModel" "has" "[Z", Cond.fieldLink RX7 84 "SharedRegistersModel" "hasVersion" "[I", Cond.fieldLink RX7 87 "SharedRegistersModel" "hasValue" "[J", Cond.fieldLink RX7 90 "SharedRegistersModel" "failing" "[Z", Cond.fieldLink RX7 93 "SharedRegistersModel" "key" "[I", Cond.fieldLink RX7 96 "SharedRegistersModel" "change" "[I", Cond.fieldLink RX7 99 "SharedRegistersModel" "argument" "[J", Cond.fieldLink RX7 102 "SharedRegistersModel" "its" "[I", Cond.fieldLink RX7 105 "SharedRegistersModel" "ended" "[I", Cond.fieldLink RX7 108 "SharedRegistersModel" "failed" "[Z", Cond.fieldLink RX7 111 "SharedRegistersModel" "isThere" "[Z", Cond.fieldLink RX7 114 "SharedRegistersModel" "endVersion" "[I", Cond.fieldLink RX7 117 "SharedRegistersModel" "endValue" "[J"]
def wsX7_init : List Cond := .code yX7_init cX7_init 2 none :: ((wsX7_init_r1 ++ wsX7_init_r2) ++ wsX70)
def wsX7_thrown : List Cond := .code yX7_thrown cX7_thrown 1 (some .int) :: ([.fieldLink RX7 120 "SharedRegistersModel" "thrown" "I"] ++ wsX70)
def wsX7_send : List Cond := .code yX7_send cX7_send 10 none :: ([.fieldLink RX7 124 "SharedRegistersModel" "many" "I", .fieldLink RX7 7 "SharedRegistersModel" "sort" "[I", .fieldLink RX7 13 "SharedRegistersModel" "who" "[I", .fieldLink RX7 16 "SharedRegistersModel" "whom" "[I", .fieldLink RX7 19 "SharedRegistersModel" "about" "[I", .fieldLink RX7 22 "SharedRegistersModel" "ballot" "[I", .fieldLink RX7 25 "SharedRegistersModel" "tells" "[Z", .fieldLink RX7 29 "SharedRegistersModel" "version" "[I", .fieldLink RX7 32 "SharedRegistersModel" "value" "[J"] ++ wsX70)
def wsX7_drop : List Cond := .code yX7_drop cX7_drop 3 none :: ([.fieldLink RX7 124 "SharedRegistersModel" "many" "I", .fieldLink RX7 7 "SharedRegistersModel" "sort" "[I", .fieldLink RX7 13 "SharedRegistersModel" "who" "[I", .fieldLink RX7 16 "SharedRegistersModel" "whom" "[I", .fieldLink RX7 19 "SharedRegistersModel" "about" "[I", .fieldLink RX7 22 "SharedRegistersModel" "ballot" "[I", .fieldLink RX7 25 "SharedRegistersModel" "tells" "[Z", .fieldLink RX7 29 "SharedRegistersModel" "version" "[I", .fieldLink RX7 32 "SharedRegistersModel" "value" "[J"] ++ wsX70)
def wsX7_noMessage : List Cond := .code yX7_noMessage cX7_noMessage 2 (some .boolean) :: ([.fieldLink RX7 124 "SharedRegistersModel" "many" "I"] ++ wsX70)
def wsX7_bits : List Cond := .code yX7_bits cX7_bits 3 (some .int) :: ([])
def wsX7_noAsker : List Cond := .code yX7_noAsker cX7_noAsker 1 (some .boolean) :: ([])
def wsX7_noKeeper : List Cond := .code yX7_noKeeper cX7_noKeeper 1 (some .boolean) :: ([])
def wsX7_noKey : List Cond := .code yX7_noKey cX7_noKey 1 (some .boolean) :: ([])
def wsX7_ask_r1 : List Cond := [Cond.fieldLink RX7 120 "SharedRegistersModel" "thrown" "I", Cond.fieldLink RX7 69 "SharedRegistersModel" "now" "[I", Cond.fieldLink RX7 134 "SharedRegistersModel" "requests" "I", Cond.fieldLink RX7 54 "SharedRegistersModel" "count" "[I", Cond.fieldLink RX7 93 "SharedRegistersModel" "key" "[I", Cond.fieldLink RX7 96 "SharedRegistersModel" "change" "[I", Cond.fieldLink RX7 99 "SharedRegistersModel" "argument" "[J", Cond.fieldLink RX7 102 "SharedRegistersModel" "its" "[I", Cond.fieldLink RX7 105 "SharedRegistersModel" "ended" "[I", Cond.fieldLink RX7 72 "SharedRegistersModel" "accepting" "[Z", Cond.fieldLink RX7 75 "SharedRegistersModel" "answered" "[I", Cond.fieldLink RX7 78 "SharedRegistersModel" "best" "[I", Cond.fieldLink RX7 81 "SharedRegistersModel" "has" "[Z", Cond.fieldLink RX7 84 "SharedRegistersModel" "hasVersion" "[I", Cond.fieldLink RX7 87 "SharedRegistersModel" "hasValue" "[J", Cond.fieldLink RX7 63 "SharedRegistersModel" "nowSet" "[I", Cond.fieldLink RX7 57 "SharedRegistersModel" "set" "[I", Cond.fieldLink RX7 66 "SharedRegistersModel" "nowEnough" "[I", Cond.fieldLink RX7 60 "SharedRegistersModel" "enough" "[I", Cond.methodLink RX7 127 yX7_noAsker, Cond.static yX7_noAsker, Cond.initialized RX7, Cond.code yX7_noAsker cX7_noAsker 1 (some .boolean), Cond.methodLink RX7 131 yX7_noKey]
def wsX7_ask_r2 : List Cond := [Cond.static yX7_noKey, Cond.code yX7_noKey cX7_noKey 1 (some .boolean), Cond.methodLink RX7 137 yX7_send, Cond.instanceMethod yX7_send, Cond.selects RX7 yX7_send yX7_send, Cond.code yX7_send cX7_send 10 none, Cond.fieldLink RX7 124 "SharedRegistersModel" "many" "I", Cond.fieldLink RX7 7 "SharedRegistersModel" "sort" "[I", Cond.fieldLink RX7 13 "SharedRegistersModel" "who" "[I", Cond.fieldLink RX7 16 "SharedRegistersModel" "whom" "[I", Cond.fieldLink RX7 19 "SharedRegistersModel" "about" "[I", Cond.fieldLink RX7 22 "SharedRegistersModel" "ballot" "[I", Cond.fieldLink RX7 25 "SharedRegistersModel" "tells" "[Z", Cond.fieldLink RX7 29 "SharedRegistersModel" "version" "[I", Cond.fieldLink RX7 32 "SharedRegistersModel" "value" "[J"]
def wsX7_ask : List Cond := .code yX7_ask cX7_ask 8 (some .int) :: ((wsX7_ask_r1 ++ wsX7_ask_r2) ++ wsX70)
def wsX7_lose0 : List Cond := .code yX7_lose0 cX7_lose0 2 none :: ([.fieldLink RX7 105 "SharedRegistersModel" "ended" "[I", .fieldLink RX7 69 "SharedRegistersModel" "now" "[I"] ++ wsX70)
def wsX7_give : List Cond := .code yX7_give cX7_give 3 (some .int) :: ([.fieldLink RX7 120 "SharedRegistersModel" "thrown" "I", .fieldLink RX7 69 "SharedRegistersModel" "now" "[I", .methodLink RX7 127 yX7_noAsker, .static yX7_noAsker, .initialized RX7, .code yX7_noAsker cX7_noAsker 1 (some .boolean), .methodLink RX7 141 yX7_lose0, .instanceMethod yX7_lose0, .selects RX7 yX7_lose0 yX7_lose0, .code yX7_lose0 cX7_lose0 2 none, .fieldLink RX7 105 "SharedRegistersModel" "ended" "[I"] ++ wsX70)
def wsX7_plan : List Cond := .code yX7_plan cX7_plan 5 none :: ([.fieldLink RX7 120 "SharedRegistersModel" "thrown" "I", .fieldLink RX7 57 "SharedRegistersModel" "set" "[I", .fieldLink RX7 60 "SharedRegistersModel" "enough" "[I", .methodLink RX7 127 yX7_noAsker, .static yX7_noAsker, .initialized RX7, .code yX7_noAsker cX7_noAsker 1 (some .boolean), .methodLink RX7 145 yX7_bits, .static yX7_bits, .code yX7_bits cX7_bits 3 (some .int)] ++ wsX70)
def wsX7_work : List Cond := .code yX7_work cX7_work 9 none :: ([.fieldLink RX7 69 "SharedRegistersModel" "now" "[I", .fieldLink RX7 99 "SharedRegistersModel" "argument" "[J", .fieldLink RX7 96 "SharedRegistersModel" "change" "[I", .fieldLink RX7 81 "SharedRegistersModel" "has" "[Z", .fieldLink RX7 84 "SharedRegistersModel" "hasVersion" "[I", .fieldLink RX7 87 "SharedRegistersModel" "hasValue" "[J", .fieldLink RX7 90 "SharedRegistersModel" "failing" "[Z"] ++ wsX70)
def wsX7_refuse : List Cond := .code yX7_refuse cX7_refuse 5 none :: ([.fieldLink RX7 39 "SharedRegistersModel" "promise" "[I", .fieldLink RX7 42 "SharedRegistersModel" "accepted" "[I", .methodLink RX7 137 yX7_send, .instanceMethod yX7_send, .selects RX7 yX7_send yX7_send, .initialized RX7, .code yX7_send cX7_send 10 none, .fieldLink RX7 124 "SharedRegistersModel" "many" "I", .fieldLink RX7 7 "SharedRegistersModel" "sort" "[I", .fieldLink RX7 13 "SharedRegistersModel" "who" "[I", .fieldLink RX7 16 "SharedRegistersModel" "whom" "[I", .fieldLink RX7 19 "SharedRegistersModel" "about" "[I", .fieldLink RX7 22 "SharedRegistersModel" "ballot" "[I", .fieldLink RX7 25 "SharedRegistersModel" "tells" "[Z", .fieldLink RX7 29 "SharedRegistersModel" "version" "[I", .fieldLink RX7 32 "SharedRegistersModel" "value" "[J"] ++ wsX70)
def wsX7_prepared : List Cond := .code yX7_prepared cX7_prepared 6 none :: ([.fieldLink RX7 93 "SharedRegistersModel" "key" "[I", .fieldLink RX7 39 "SharedRegistersModel" "promise" "[I", .fieldLink RX7 42 "SharedRegistersModel" "accepted" "[I", .fieldLink RX7 45 "SharedRegistersModel" "there" "[Z", .fieldLink RX7 48 "SharedRegistersModel" "keptVersion" "[I", .fieldLink RX7 51 "SharedRegistersModel" "keptValue" "[J", .methodLink RX7 137 yX7_send, .instanceMethod yX7_send, .selects RX7 yX7_send yX7_send, .initialized RX7, .code yX7_send cX7_send 10 none, .fieldLink RX7 124 "SharedRegistersModel" "many" "I", .fieldLink RX7 7 "SharedRegistersModel" "sort" "[I", .fieldLink RX7 13 "SharedRegistersModel" "who" "[I", .fieldLink RX7 16 "SharedRegistersModel" "whom" "[I", .fieldLink RX7 19 "SharedRegistersModel" "about" "[I", .fieldLink RX7 22 "SharedRegistersModel" "ballot" "[I", .fieldLink RX7 25 "SharedRegistersModel" "tells" "[Z", .fieldLink RX7 29 "SharedRegistersModel" "version" "[I", .fieldLink RX7 32 "SharedRegistersModel" "value" "[J", .methodLink RX7 149 yX7_refuse, .instanceMethod yX7_refuse, .selects RX7 yX7_refuse yX7_refuse, .code yX7_refuse cX7_refuse 5 none] ++ wsX70)
def wsX7_promised_r1 : List Cond := [Cond.fieldLink RX7 69 "SharedRegistersModel" "now" "[I", Cond.fieldLink RX7 72 "SharedRegistersModel" "accepting" "[Z", Cond.fieldLink RX7 75 "SharedRegistersModel" "answered" "[I", Cond.fieldLink RX7 78 "SharedRegistersModel" "best" "[I", Cond.fieldLink RX7 81 "SharedRegistersModel" "has" "[Z", Cond.fieldLink RX7 84 "SharedRegistersModel" "hasVersion" "[I", Cond.fieldLink RX7 87 "SharedRegistersModel" "hasValue" "[J", Cond.fieldLink RX7 66 "SharedRegistersModel" "nowEnough" "[I", Cond.fieldLink RX7 63 "SharedRegistersModel" "nowSet" "[I", Cond.fieldLink RX7 102 "SharedRegistersModel" "its" "[I", Cond.methodLink RX7 145 yX7_bits, Cond.static yX7_bits, Cond.initialized RX7, Cond.code yX7_bits cX7_bits 3 (some .int), Cond.methodLink RX7 153 yX7_work, Cond.instanceMethod yX7_work, Cond.selects RX7 yX7_work yX7_work, Cond.code yX7_work cX7_work 9 none, Cond.fieldLink RX7 99 "SharedRegistersModel" "argument" "[J", Cond.fieldLink RX7 96 "SharedRegistersModel" "change" "[I", Cond.fieldLink RX7 90 "SharedRegistersModel" "failing" "[Z", Cond.methodLink RX7 137 yX7_send, Cond.instanceMethod yX7_send, Cond.selects RX7 yX7_send yX7_send]
def wsX7_promised_r2 : List Cond := [Cond.code yX7_send cX7_send 10 none, Cond.fieldLink RX7 124 "SharedRegistersModel" "many" "I", Cond.fieldLink RX7 7 "SharedRegistersModel" "sort" "[I", Cond.fieldLink RX7 13 "SharedRegistersModel" "who" "[I", Cond.fieldLink RX7 16 "SharedRegistersModel" "whom" "[I", Cond.fieldLink RX7 19 "SharedRegistersModel" "about" "[I", Cond.fieldLink RX7 22 "SharedRegistersModel" "ballot" "[I", Cond.fieldLink RX7 25 "SharedRegistersModel" "tells" "[Z", Cond.fieldLink RX7 29 "SharedRegistersModel" "version" "[I", Cond.fieldLink RX7 32 "SharedRegistersModel" "value" "[J"]
def wsX7_promised : List Cond := .code yX7_promised cX7_promised 10 none :: ((wsX7_promised_r1 ++ wsX7_promised_r2) ++ wsX70)
def wsX7_accept : List Cond := .code yX7_accept cX7_accept 10 none :: ([.fieldLink RX7 93 "SharedRegistersModel" "key" "[I", .fieldLink RX7 39 "SharedRegistersModel" "promise" "[I", .fieldLink RX7 42 "SharedRegistersModel" "accepted" "[I", .fieldLink RX7 45 "SharedRegistersModel" "there" "[Z", .fieldLink RX7 48 "SharedRegistersModel" "keptVersion" "[I", .fieldLink RX7 51 "SharedRegistersModel" "keptValue" "[J", .methodLink RX7 137 yX7_send, .instanceMethod yX7_send, .selects RX7 yX7_send yX7_send, .initialized RX7, .code yX7_send cX7_send 10 none, .fieldLink RX7 124 "SharedRegistersModel" "many" "I", .fieldLink RX7 7 "SharedRegistersModel" "sort" "[I", .fieldLink RX7 13 "SharedRegistersModel" "who" "[I", .fieldLink RX7 16 "SharedRegistersModel" "whom" "[I", .fieldLink RX7 19 "SharedRegistersModel" "about" "[I", .fieldLink RX7 22 "SharedRegistersModel" "ballot" "[I", .fieldLink RX7 25 "SharedRegistersModel" "tells" "[Z", .fieldLink RX7 29 "SharedRegistersModel" "version" "[I", .fieldLink RX7 32 "SharedRegistersModel" "value" "[J", .methodLink RX7 149 yX7_refuse, .instanceMethod yX7_refuse, .selects RX7 yX7_refuse yX7_refuse, .code yX7_refuse cX7_refuse 5 none] ++ wsX70)
def wsX7_taken : List Cond := .code yX7_taken cX7_taken 4 none :: ([.fieldLink RX7 69 "SharedRegistersModel" "now" "[I", .fieldLink RX7 72 "SharedRegistersModel" "accepting" "[Z", .fieldLink RX7 75 "SharedRegistersModel" "answered" "[I", .fieldLink RX7 66 "SharedRegistersModel" "nowEnough" "[I", .fieldLink RX7 105 "SharedRegistersModel" "ended" "[I", .fieldLink RX7 108 "SharedRegistersModel" "failed" "[Z", .fieldLink RX7 90 "SharedRegistersModel" "failing" "[Z", .fieldLink RX7 111 "SharedRegistersModel" "isThere" "[Z", .fieldLink RX7 81 "SharedRegistersModel" "has" "[Z", .fieldLink RX7 114 "SharedRegistersModel" "endVersion" "[I", .fieldLink RX7 84 "SharedRegistersModel" "hasVersion" "[I", .fieldLink RX7 117 "SharedRegistersModel" "endValue" "[J", .fieldLink RX7 87 "SharedRegistersModel" "hasValue" "[J", .methodLink RX7 145 yX7_bits, .static yX7_bits, .initialized RX7, .code yX7_bits cX7_bits 3 (some .int)] ++ wsX70)
def wsX7_refused : List Cond := .code yX7_refused cX7_refused 4 none :: ([.fieldLink RX7 54 "SharedRegistersModel" "count" "[I", .fieldLink RX7 69 "SharedRegistersModel" "now" "[I", .methodLink RX7 141 yX7_lose0, .instanceMethod yX7_lose0, .selects RX7 yX7_lose0 yX7_lose0, .initialized RX7, .code yX7_lose0 cX7_lose0 2 none, .fieldLink RX7 105 "SharedRegistersModel" "ended" "[I"] ++ wsX70)
def wsX7_takeOne_r1 : List Cond := [Cond.fieldLink RX7 7 "SharedRegistersModel" "sort" "[I", Cond.fieldLink RX7 13 "SharedRegistersModel" "who" "[I", Cond.fieldLink RX7 16 "SharedRegistersModel" "whom" "[I", Cond.fieldLink RX7 19 "SharedRegistersModel" "about" "[I", Cond.fieldLink RX7 22 "SharedRegistersModel" "ballot" "[I", Cond.fieldLink RX7 25 "SharedRegistersModel" "tells" "[Z", Cond.fieldLink RX7 29 "SharedRegistersModel" "version" "[I", Cond.fieldLink RX7 32 "SharedRegistersModel" "value" "[J", Cond.fieldLink RX7 36 "SharedRegistersModel" "isDown" "[Z", Cond.methodLink RX7 156 yX7_drop, Cond.instanceMethod yX7_drop, Cond.selects RX7 yX7_drop yX7_drop, Cond.initialized RX7, Cond.code yX7_drop cX7_drop 3 none, Cond.fieldLink RX7 124 "SharedRegistersModel" "many" "I", Cond.methodLink RX7 159 yX7_prepared, Cond.instanceMethod yX7_prepared, Cond.selects RX7 yX7_prepared yX7_prepared, Cond.code yX7_prepared cX7_prepared 6 none, Cond.fieldLink RX7 93 "SharedRegistersModel" "key" "[I", Cond.fieldLink RX7 39 "SharedRegistersModel" "promise" "[I", Cond.fieldLink RX7 42 "SharedRegistersModel" "accepted" "[I", Cond.fieldLink RX7 45 "SharedRegistersModel" "there" "[Z", Cond.fieldLink RX7 48 "SharedRegistersModel" "keptVersion" "[I"]
def wsX7_takeOne_r2 : List Cond := [Cond.fieldLink RX7 51 "SharedRegistersModel" "keptValue" "[J", Cond.methodLink RX7 137 yX7_send, Cond.instanceMethod yX7_send, Cond.selects RX7 yX7_send yX7_send, Cond.code yX7_send cX7_send 10 none, Cond.methodLink RX7 149 yX7_refuse, Cond.instanceMethod yX7_refuse, Cond.selects RX7 yX7_refuse yX7_refuse, Cond.code yX7_refuse cX7_refuse 5 none, Cond.methodLink RX7 162 yX7_promised, Cond.instanceMethod yX7_promised, Cond.selects RX7 yX7_promised yX7_promised, Cond.code yX7_promised cX7_promised 10 none, Cond.fieldLink RX7 69 "SharedRegistersModel" "now" "[I", Cond.fieldLink RX7 72 "SharedRegistersModel" "accepting" "[Z", Cond.fieldLink RX7 75 "SharedRegistersModel" "answered" "[I", Cond.fieldLink RX7 78 "SharedRegistersModel" "best" "[I", Cond.fieldLink RX7 81 "SharedRegistersModel" "has" "[Z", Cond.fieldLink RX7 84 "SharedRegistersModel" "hasVersion" "[I", Cond.fieldLink RX7 87 "SharedRegistersModel" "hasValue" "[J", Cond.fieldLink RX7 66 "SharedRegistersModel" "nowEnough" "[I", Cond.fieldLink RX7 63 "SharedRegistersModel" "nowSet" "[I", Cond.fieldLink RX7 102 "SharedRegistersModel" "its" "[I", Cond.methodLink RX7 145 yX7_bits]
def wsX7_takeOne_r3 : List Cond := [Cond.static yX7_bits, Cond.code yX7_bits cX7_bits 3 (some .int), Cond.methodLink RX7 153 yX7_work, Cond.instanceMethod yX7_work, Cond.selects RX7 yX7_work yX7_work, Cond.code yX7_work cX7_work 9 none, Cond.fieldLink RX7 99 "SharedRegistersModel" "argument" "[J", Cond.fieldLink RX7 96 "SharedRegistersModel" "change" "[I", Cond.fieldLink RX7 90 "SharedRegistersModel" "failing" "[Z", Cond.methodLink RX7 166 yX7_accept, Cond.instanceMethod yX7_accept, Cond.selects RX7 yX7_accept yX7_accept, Cond.code yX7_accept cX7_accept 10 none, Cond.methodLink RX7 169 yX7_taken, Cond.instanceMethod yX7_taken, Cond.selects RX7 yX7_taken yX7_taken, Cond.code yX7_taken cX7_taken 4 none, Cond.fieldLink RX7 105 "SharedRegistersModel" "ended" "[I", Cond.fieldLink RX7 108 "SharedRegistersModel" "failed" "[Z", Cond.fieldLink RX7 111 "SharedRegistersModel" "isThere" "[Z", Cond.fieldLink RX7 114 "SharedRegistersModel" "endVersion" "[I", Cond.fieldLink RX7 117 "SharedRegistersModel" "endValue" "[J", Cond.methodLink RX7 173 yX7_refused, Cond.instanceMethod yX7_refused]
def wsX7_takeOne_r4 : List Cond := [Cond.selects RX7 yX7_refused yX7_refused, Cond.code yX7_refused cX7_refused 4 none, Cond.fieldLink RX7 54 "SharedRegistersModel" "count" "[I", Cond.methodLink RX7 141 yX7_lose0, Cond.instanceMethod yX7_lose0, Cond.selects RX7 yX7_lose0 yX7_lose0, Cond.code yX7_lose0 cX7_lose0 2 none]
def wsX7_takeOne : List Cond := .code yX7_takeOne cX7_takeOne 11 (some .int) :: ((wsX7_takeOne_r1 ++ (wsX7_takeOne_r2 ++ (wsX7_takeOne_r3 ++ wsX7_takeOne_r4))) ++ wsX70)
def wsX7_take_r1 : List Cond := [Cond.fieldLink RX7 120 "SharedRegistersModel" "thrown" "I", Cond.methodLink RX7 176 yX7_noMessage, Cond.instanceMethod yX7_noMessage, Cond.selects RX7 yX7_noMessage yX7_noMessage, Cond.initialized RX7, Cond.code yX7_noMessage cX7_noMessage 2 (some .boolean), Cond.fieldLink RX7 124 "SharedRegistersModel" "many" "I", Cond.methodLink RX7 179 yX7_takeOne, Cond.instanceMethod yX7_takeOne, Cond.selects RX7 yX7_takeOne yX7_takeOne, Cond.code yX7_takeOne cX7_takeOne 11 (some .int), Cond.fieldLink RX7 7 "SharedRegistersModel" "sort" "[I", Cond.fieldLink RX7 13 "SharedRegistersModel" "who" "[I", Cond.fieldLink RX7 16 "SharedRegistersModel" "whom" "[I", Cond.fieldLink RX7 19 "SharedRegistersModel" "about" "[I", Cond.fieldLink RX7 22 "SharedRegistersModel" "ballot" "[I", Cond.fieldLink RX7 25 "SharedRegistersModel" "tells" "[Z", Cond.fieldLink RX7 29 "SharedRegistersModel" "version" "[I", Cond.fieldLink RX7 32 "SharedRegistersModel" "value" "[J", Cond.fieldLink RX7 36 "SharedRegistersModel" "isDown" "[Z", Cond.methodLink RX7 156 yX7_drop, Cond.instanceMethod yX7_drop, Cond.selects RX7 yX7_drop yX7_drop, Cond.code yX7_drop cX7_drop 3 none]
def wsX7_take_r2 : List Cond := [Cond.methodLink RX7 159 yX7_prepared, Cond.instanceMethod yX7_prepared, Cond.selects RX7 yX7_prepared yX7_prepared, Cond.code yX7_prepared cX7_prepared 6 none, Cond.fieldLink RX7 93 "SharedRegistersModel" "key" "[I", Cond.fieldLink RX7 39 "SharedRegistersModel" "promise" "[I", Cond.fieldLink RX7 42 "SharedRegistersModel" "accepted" "[I", Cond.fieldLink RX7 45 "SharedRegistersModel" "there" "[Z", Cond.fieldLink RX7 48 "SharedRegistersModel" "keptVersion" "[I", Cond.fieldLink RX7 51 "SharedRegistersModel" "keptValue" "[J", Cond.methodLink RX7 137 yX7_send, Cond.instanceMethod yX7_send, Cond.selects RX7 yX7_send yX7_send, Cond.code yX7_send cX7_send 10 none, Cond.methodLink RX7 149 yX7_refuse, Cond.instanceMethod yX7_refuse, Cond.selects RX7 yX7_refuse yX7_refuse, Cond.code yX7_refuse cX7_refuse 5 none, Cond.methodLink RX7 162 yX7_promised, Cond.instanceMethod yX7_promised, Cond.selects RX7 yX7_promised yX7_promised, Cond.code yX7_promised cX7_promised 10 none, Cond.fieldLink RX7 69 "SharedRegistersModel" "now" "[I", Cond.fieldLink RX7 72 "SharedRegistersModel" "accepting" "[Z"]
def wsX7_take_r3 : List Cond := [Cond.fieldLink RX7 75 "SharedRegistersModel" "answered" "[I", Cond.fieldLink RX7 78 "SharedRegistersModel" "best" "[I", Cond.fieldLink RX7 81 "SharedRegistersModel" "has" "[Z", Cond.fieldLink RX7 84 "SharedRegistersModel" "hasVersion" "[I", Cond.fieldLink RX7 87 "SharedRegistersModel" "hasValue" "[J", Cond.fieldLink RX7 66 "SharedRegistersModel" "nowEnough" "[I", Cond.fieldLink RX7 63 "SharedRegistersModel" "nowSet" "[I", Cond.fieldLink RX7 102 "SharedRegistersModel" "its" "[I", Cond.methodLink RX7 145 yX7_bits, Cond.static yX7_bits, Cond.code yX7_bits cX7_bits 3 (some .int), Cond.methodLink RX7 153 yX7_work, Cond.instanceMethod yX7_work, Cond.selects RX7 yX7_work yX7_work, Cond.code yX7_work cX7_work 9 none, Cond.fieldLink RX7 99 "SharedRegistersModel" "argument" "[J", Cond.fieldLink RX7 96 "SharedRegistersModel" "change" "[I", Cond.fieldLink RX7 90 "SharedRegistersModel" "failing" "[Z", Cond.methodLink RX7 166 yX7_accept, Cond.instanceMethod yX7_accept, Cond.selects RX7 yX7_accept yX7_accept, Cond.code yX7_accept cX7_accept 10 none, Cond.methodLink RX7 169 yX7_taken, Cond.instanceMethod yX7_taken]
def wsX7_take_r4 : List Cond := [Cond.selects RX7 yX7_taken yX7_taken, Cond.code yX7_taken cX7_taken 4 none, Cond.fieldLink RX7 105 "SharedRegistersModel" "ended" "[I", Cond.fieldLink RX7 108 "SharedRegistersModel" "failed" "[Z", Cond.fieldLink RX7 111 "SharedRegistersModel" "isThere" "[Z", Cond.fieldLink RX7 114 "SharedRegistersModel" "endVersion" "[I", Cond.fieldLink RX7 117 "SharedRegistersModel" "endValue" "[J", Cond.methodLink RX7 173 yX7_refused, Cond.instanceMethod yX7_refused, Cond.selects RX7 yX7_refused yX7_refused, Cond.code yX7_refused cX7_refused 4 none, Cond.fieldLink RX7 54 "SharedRegistersModel" "count" "[I", Cond.methodLink RX7 141 yX7_lose0, Cond.instanceMethod yX7_lose0, Cond.selects RX7 yX7_lose0 yX7_lose0, Cond.code yX7_lose0 cX7_lose0 2 none]
def wsX7_take : List Cond := .code yX7_take cX7_take 2 (some .int) :: ((wsX7_take_r1 ++ (wsX7_take_r2 ++ (wsX7_take_r3 ++ wsX7_take_r4))) ++ wsX70)
def wsX7_run_r1 : List Cond := [Cond.fieldLink RX7 120 "SharedRegistersModel" "thrown" "I", Cond.fieldLink RX7 124 "SharedRegistersModel" "many" "I", Cond.methodLink RX7 179 yX7_takeOne, Cond.instanceMethod yX7_takeOne, Cond.selects RX7 yX7_takeOne yX7_takeOne, Cond.initialized RX7, Cond.code yX7_takeOne cX7_takeOne 11 (some .int), Cond.fieldLink RX7 7 "SharedRegistersModel" "sort" "[I", Cond.fieldLink RX7 13 "SharedRegistersModel" "who" "[I", Cond.fieldLink RX7 16 "SharedRegistersModel" "whom" "[I", Cond.fieldLink RX7 19 "SharedRegistersModel" "about" "[I", Cond.fieldLink RX7 22 "SharedRegistersModel" "ballot" "[I", Cond.fieldLink RX7 25 "SharedRegistersModel" "tells" "[Z", Cond.fieldLink RX7 29 "SharedRegistersModel" "version" "[I", Cond.fieldLink RX7 32 "SharedRegistersModel" "value" "[J", Cond.fieldLink RX7 36 "SharedRegistersModel" "isDown" "[Z", Cond.methodLink RX7 156 yX7_drop, Cond.instanceMethod yX7_drop, Cond.selects RX7 yX7_drop yX7_drop, Cond.code yX7_drop cX7_drop 3 none, Cond.methodLink RX7 159 yX7_prepared, Cond.instanceMethod yX7_prepared, Cond.selects RX7 yX7_prepared yX7_prepared, Cond.code yX7_prepared cX7_prepared 6 none]
def wsX7_run_r2 : List Cond := [Cond.fieldLink RX7 93 "SharedRegistersModel" "key" "[I", Cond.fieldLink RX7 39 "SharedRegistersModel" "promise" "[I", Cond.fieldLink RX7 42 "SharedRegistersModel" "accepted" "[I", Cond.fieldLink RX7 45 "SharedRegistersModel" "there" "[Z", Cond.fieldLink RX7 48 "SharedRegistersModel" "keptVersion" "[I", Cond.fieldLink RX7 51 "SharedRegistersModel" "keptValue" "[J", Cond.methodLink RX7 137 yX7_send, Cond.instanceMethod yX7_send, Cond.selects RX7 yX7_send yX7_send, Cond.code yX7_send cX7_send 10 none, Cond.methodLink RX7 149 yX7_refuse, Cond.instanceMethod yX7_refuse, Cond.selects RX7 yX7_refuse yX7_refuse, Cond.code yX7_refuse cX7_refuse 5 none, Cond.methodLink RX7 162 yX7_promised, Cond.instanceMethod yX7_promised, Cond.selects RX7 yX7_promised yX7_promised, Cond.code yX7_promised cX7_promised 10 none, Cond.fieldLink RX7 69 "SharedRegistersModel" "now" "[I", Cond.fieldLink RX7 72 "SharedRegistersModel" "accepting" "[Z", Cond.fieldLink RX7 75 "SharedRegistersModel" "answered" "[I", Cond.fieldLink RX7 78 "SharedRegistersModel" "best" "[I", Cond.fieldLink RX7 81 "SharedRegistersModel" "has" "[Z", Cond.fieldLink RX7 84 "SharedRegistersModel" "hasVersion" "[I"]
def wsX7_run_r3 : List Cond := [Cond.fieldLink RX7 87 "SharedRegistersModel" "hasValue" "[J", Cond.fieldLink RX7 66 "SharedRegistersModel" "nowEnough" "[I", Cond.fieldLink RX7 63 "SharedRegistersModel" "nowSet" "[I", Cond.fieldLink RX7 102 "SharedRegistersModel" "its" "[I", Cond.methodLink RX7 145 yX7_bits, Cond.static yX7_bits, Cond.code yX7_bits cX7_bits 3 (some .int), Cond.methodLink RX7 153 yX7_work, Cond.instanceMethod yX7_work, Cond.selects RX7 yX7_work yX7_work, Cond.code yX7_work cX7_work 9 none, Cond.fieldLink RX7 99 "SharedRegistersModel" "argument" "[J", Cond.fieldLink RX7 96 "SharedRegistersModel" "change" "[I", Cond.fieldLink RX7 90 "SharedRegistersModel" "failing" "[Z", Cond.methodLink RX7 166 yX7_accept, Cond.instanceMethod yX7_accept, Cond.selects RX7 yX7_accept yX7_accept, Cond.code yX7_accept cX7_accept 10 none, Cond.methodLink RX7 169 yX7_taken, Cond.instanceMethod yX7_taken, Cond.selects RX7 yX7_taken yX7_taken, Cond.code yX7_taken cX7_taken 4 none, Cond.fieldLink RX7 105 "SharedRegistersModel" "ended" "[I", Cond.fieldLink RX7 108 "SharedRegistersModel" "failed" "[Z"]
def wsX7_run_r4 : List Cond := [Cond.fieldLink RX7 111 "SharedRegistersModel" "isThere" "[Z", Cond.fieldLink RX7 114 "SharedRegistersModel" "endVersion" "[I", Cond.fieldLink RX7 117 "SharedRegistersModel" "endValue" "[J", Cond.methodLink RX7 173 yX7_refused, Cond.instanceMethod yX7_refused, Cond.selects RX7 yX7_refused yX7_refused, Cond.code yX7_refused cX7_refused 4 none, Cond.fieldLink RX7 54 "SharedRegistersModel" "count" "[I", Cond.methodLink RX7 141 yX7_lose0, Cond.instanceMethod yX7_lose0, Cond.selects RX7 yX7_lose0 yX7_lose0, Cond.code yX7_lose0 cX7_lose0 2 none]
def wsX7_run : List Cond := .code yX7_run cX7_run 4 (some .int) :: ((wsX7_run_r1 ++ (wsX7_run_r2 ++ (wsX7_run_r3 ++ wsX7_run_r4))) ++ wsX70)
def wsX7_lose : List Cond := .code yX7_lose cX7_lose 3 (some .int) :: ([.fieldLink RX7 120 "SharedRegistersModel" "thrown" "I", .fieldLink RX7 7 "SharedRegistersModel" "sort" "[I", .methodLink RX7 176 yX7_noMessage, .instanceMethod yX7_noMessage, .selects RX7 yX7_noMessage yX7_noMessage, .initialized RX7, .code yX7_noMessage cX7_noMessage 2 (some .boolean), .fieldLink RX7 124 "SharedRegistersModel" "many" "I", .methodLink RX7 156 yX7_drop, .instanceMethod yX7_drop, .selects RX7 yX7_drop yX7_drop, .code yX7_drop cX7_drop 3 none, .fieldLink RX7 13 "SharedRegistersModel" "who" "[I", .fieldLink RX7 16 "SharedRegistersModel" "whom" "[I", .fieldLink RX7 19 "SharedRegistersModel" "about" "[I", .fieldLink RX7 22 "SharedRegistersModel" "ballot" "[I", .fieldLink RX7 25 "SharedRegistersModel" "tells" "[Z", .fieldLink RX7 29 "SharedRegistersModel" "version" "[I", .fieldLink RX7 32 "SharedRegistersModel" "value" "[J"] ++ wsX70)
def wsX7_twice : List Cond := .code yX7_twice cX7_twice 2 (some .int) :: ([.fieldLink RX7 120 "SharedRegistersModel" "thrown" "I", .fieldLink RX7 124 "SharedRegistersModel" "many" "I", .fieldLink RX7 7 "SharedRegistersModel" "sort" "[I", .fieldLink RX7 13 "SharedRegistersModel" "who" "[I", .fieldLink RX7 16 "SharedRegistersModel" "whom" "[I", .fieldLink RX7 19 "SharedRegistersModel" "about" "[I", .fieldLink RX7 22 "SharedRegistersModel" "ballot" "[I", .fieldLink RX7 25 "SharedRegistersModel" "tells" "[Z", .fieldLink RX7 29 "SharedRegistersModel" "version" "[I", .fieldLink RX7 32 "SharedRegistersModel" "value" "[J", .methodLink RX7 176 yX7_noMessage, .instanceMethod yX7_noMessage, .selects RX7 yX7_noMessage yX7_noMessage, .initialized RX7, .code yX7_noMessage cX7_noMessage 2 (some .boolean), .methodLink RX7 137 yX7_send, .instanceMethod yX7_send, .selects RX7 yX7_send yX7_send, .code yX7_send cX7_send 10 none] ++ wsX70)
def wsX7_down : List Cond := .code yX7_down cX7_down 4 (some .boolean) :: ([.fieldLink RX7 120 "SharedRegistersModel" "thrown" "I", .fieldLink RX7 36 "SharedRegistersModel" "isDown" "[Z", .methodLink RX7 182 yX7_noKeeper, .static yX7_noKeeper, .initialized RX7, .code yX7_noKeeper cX7_noKeeper 1 (some .boolean)] ++ wsX70)
def wsX7_copy : List Cond := .code yX7_copy cX7_copy 7 (some .int) :: ([.fieldLink RX7 120 "SharedRegistersModel" "thrown" "I", .fieldLink RX7 42 "SharedRegistersModel" "accepted" "[I", .fieldLink RX7 39 "SharedRegistersModel" "promise" "[I", .fieldLink RX7 45 "SharedRegistersModel" "there" "[Z", .fieldLink RX7 48 "SharedRegistersModel" "keptVersion" "[I", .fieldLink RX7 51 "SharedRegistersModel" "keptValue" "[J", .methodLink RX7 182 yX7_noKeeper, .static yX7_noKeeper, .initialized RX7, .code yX7_noKeeper cX7_noKeeper 1 (some .boolean)] ++ wsX70)
def wsX7_messages : List Cond := .code yX7_messages cX7_messages 1 (some .int) :: ([.fieldLink RX7 120 "SharedRegistersModel" "thrown" "I", .fieldLink RX7 124 "SharedRegistersModel" "many" "I"] ++ wsX70)
def wsX7_message : List Cond := .code yX7_message cX7_message 3 (some .int) :: ([.fieldLink RX7 120 "SharedRegistersModel" "thrown" "I", .fieldLink RX7 7 "SharedRegistersModel" "sort" "[I", .fieldLink RX7 13 "SharedRegistersModel" "who" "[I", .fieldLink RX7 16 "SharedRegistersModel" "whom" "[I", .fieldLink RX7 19 "SharedRegistersModel" "about" "[I", .fieldLink RX7 22 "SharedRegistersModel" "ballot" "[I", .fieldLink RX7 25 "SharedRegistersModel" "tells" "[Z", .fieldLink RX7 29 "SharedRegistersModel" "version" "[I", .methodLink RX7 176 yX7_noMessage, .instanceMethod yX7_noMessage, .selects RX7 yX7_noMessage yX7_noMessage, .initialized RX7, .code yX7_noMessage cX7_noMessage 2 (some .boolean), .fieldLink RX7 124 "SharedRegistersModel" "many" "I"] ++ wsX70)
def wsX7_keeper : List Cond := .code yX7_keeper cX7_keeper 5 (some .int) :: ([.fieldLink RX7 120 "SharedRegistersModel" "thrown" "I", .fieldLink RX7 39 "SharedRegistersModel" "promise" "[I", .fieldLink RX7 42 "SharedRegistersModel" "accepted" "[I", .fieldLink RX7 45 "SharedRegistersModel" "there" "[Z", .fieldLink RX7 48 "SharedRegistersModel" "keptVersion" "[I", .methodLink RX7 182 yX7_noKeeper, .static yX7_noKeeper, .initialized RX7, .code yX7_noKeeper cX7_noKeeper 1 (some .boolean), .methodLink RX7 131 yX7_noKey, .static yX7_noKey, .code yX7_noKey cX7_noKey 1 (some .boolean)] ++ wsX70)
def wsX7_kept : List Cond := .code yX7_kept cX7_kept 4 (some .long) :: ([.fieldLink RX7 120 "SharedRegistersModel" "thrown" "I", .fieldLink RX7 45 "SharedRegistersModel" "there" "[Z", .fieldLink RX7 51 "SharedRegistersModel" "keptValue" "[J", .methodLink RX7 182 yX7_noKeeper, .static yX7_noKeeper, .initialized RX7, .code yX7_noKeeper cX7_noKeeper 1 (some .boolean), .methodLink RX7 131 yX7_noKey, .static yX7_noKey, .code yX7_noKey cX7_noKey 1 (some .boolean)] ++ wsX70)
def wsX7_asker : List Cond := .code yX7_asker cX7_asker 4 (some .int) :: ([.fieldLink RX7 120 "SharedRegistersModel" "thrown" "I", .fieldLink RX7 69 "SharedRegistersModel" "now" "[I", .fieldLink RX7 54 "SharedRegistersModel" "count" "[I", .fieldLink RX7 72 "SharedRegistersModel" "accepting" "[Z", .fieldLink RX7 75 "SharedRegistersModel" "answered" "[I", .methodLink RX7 127 yX7_noAsker, .static yX7_noAsker, .initialized RX7, .code yX7_noAsker cX7_noAsker 1 (some .boolean), .methodLink RX7 145 yX7_bits, .static yX7_bits, .code yX7_bits cX7_bits 3 (some .int)] ++ wsX70)
def wsX7_noRequest : List Cond := .code yX7_noRequest cX7_noRequest 2 (some .boolean) :: ([.fieldLink RX7 134 "SharedRegistersModel" "requests" "I"] ++ wsX70)
def wsX7_request : List Cond := .code yX7_request cX7_request 4 (some .int) :: ([.fieldLink RX7 120 "SharedRegistersModel" "thrown" "I", .fieldLink RX7 105 "SharedRegistersModel" "ended" "[I", .fieldLink RX7 108 "SharedRegistersModel" "failed" "[Z", .fieldLink RX7 111 "SharedRegistersModel" "isThere" "[Z", .fieldLink RX7 114 "SharedRegistersModel" "endVersion" "[I", .fieldLink RX7 102 "SharedRegistersModel" "its" "[I", .methodLink RX7 185 yX7_noRequest, .instanceMethod yX7_noRequest, .selects RX7 yX7_noRequest yX7_noRequest, .initialized RX7, .code yX7_noRequest cX7_noRequest 2 (some .boolean), .fieldLink RX7 134 "SharedRegistersModel" "requests" "I"] ++ wsX70)
def wsX7_result : List Cond := .code yX7_result cX7_result 2 (some .long) :: ([.fieldLink RX7 120 "SharedRegistersModel" "thrown" "I", .fieldLink RX7 105 "SharedRegistersModel" "ended" "[I", .fieldLink RX7 111 "SharedRegistersModel" "isThere" "[Z", .fieldLink RX7 117 "SharedRegistersModel" "endValue" "[J", .methodLink RX7 185 yX7_noRequest, .instanceMethod yX7_noRequest, .selects RX7 yX7_noRequest yX7_noRequest, .initialized RX7, .code yX7_noRequest cX7_noRequest 2 (some .boolean), .fieldLink RX7 134 "SharedRegistersModel" "requests" "I"] ++ wsX70)
def wsJ9_max_7cf53 : List Cond := .code yJ9_max_7cf53 cJ9_max_7cf53 2 (some .int) :: ([])
def wsL_ask_r1 : List Cond := [Cond.classLink RL 13 "java/lang/IndexOutOfBoundsException", Cond.classLink RL 15 "java/lang/IllegalArgumentException", Cond.methodLink RL 7 yX6_ask, Cond.instanceMethod yX6_ask, Cond.selects RX6 yX6_ask yX6_ask, Cond.initialized RX6, Cond.code yX6_ask cX6_ask 8 (some .int), Cond.fieldLink RX6 33 "SharedRegisters" "askers" "[LSharedRegisters$Asker;", Cond.fieldLink RX6 53 "SharedRegisters" "requestCount" "I", Cond.classLink RX6 40 RX3, Cond.instantiable RX3 15, Cond.initialized RX3, Cond.fieldLink RX6 12 "SharedRegisters" "absent" "LSharedRegisters$State;", Cond.fieldLink RX6 42 "SharedRegisters" "requests" "[LSharedRegisters$Request;", Cond.methodLink RX6 57 yX6_needIndex, Cond.static yX6_needIndex, Cond.code yX6_needIndex cX6_needIndex 2 none, Cond.classLink RX6 152 "java/lang/IndexOutOfBoundsException", Cond.initialized "java/lang/IndexOutOfBoundsException", Cond.methodLink RX6 61 yX6_needRange, Cond.static yX6_needRange, Cond.code yX6_needRange cX6_needRange 3 none, Cond.classLink RX6 195 "java/lang/IllegalArgumentException", Cond.initialized "java/lang/IllegalArgumentException"]
def wsL_ask_r2 : List Cond := [Cond.instanceMethod yX3_init, Cond.code yX3_init cX3_init 8 none, Cond.methodLink RX3 3 objectInit, Cond.instanceMethod objectInit, Cond.code objectInit ⟨#[0xb1]⟩ 1 none, Cond.fieldLink RX3 9 "SharedRegisters$Request" "number" "I", Cond.fieldLink RX3 18 "SharedRegisters$Request" "asker" "I", Cond.fieldLink RX3 21 "SharedRegisters$Request" "key" "I", Cond.fieldLink RX3 24 "SharedRegisters$Request" "change" "I", Cond.fieldLink RX3 27 "SharedRegisters$Request" "argument" "J", Cond.fieldLink RX3 34 "SharedRegisters$Request" "ballot" "I", Cond.fieldLink RX3 41 "SharedRegisters$Request" "enoughPromised" "I", Cond.fieldLink RX3 47 "SharedRegisters$Request" "acceptSet" "I", Cond.fieldLink RX3 50 "SharedRegisters$Request" "enoughTaken" "I", Cond.fieldLink RX3 53 "SharedRegisters$Request" "accepting" "Z", Cond.fieldLink RX3 57 "SharedRegisters$Request" "answered" "I", Cond.fieldLink RX3 60 "SharedRegisters$Request" "toldBallot" "I", Cond.fieldLink RX3 63 "SharedRegisters$Request" "state" "LSharedRegisters$State;", Cond.fieldLink RX3 67 "SharedRegisters$Request" "failed" "Z", Cond.fieldLink RX3 70 "SharedRegisters$Request" "ending" "I", Cond.methodLink RX6 79 yX6_sendToSet, Cond.instanceMethod yX6_sendToSet, Cond.selects RX6 yX6_sendToSet yX6_sendToSet, Cond.code yX6_sendToSet cX6_sendToSet 6 none]
def wsL_ask_r3 : List Cond := [Cond.fieldLink RX6 49 "SharedRegisters" "row" "LSharedRegisters$Row;", Cond.instanceMethod yX4_send, Cond.initialized RX4, Cond.selects RX4 yX4_send yX4_send, Cond.code yX4_send cX4_send 9 none, Cond.fieldLink RX4 20 "SharedRegisters$Row" "size" "I", Cond.fieldLink RX4 11 "SharedRegisters$Row" "messages" "[LSharedRegisters$Message;"]
def wsL_ask : List Cond := .codeWith yL_ask cL_ask 8 (some .int) [(0, 14, 17, 13), (0, 14, 21, 15)] :: ((wsL_ask_r1 ++ (wsL_ask_r2 ++ wsL_ask_r3)) ++ wsX60 ++ wsX00 ++ wsX30 ++ wsX40 ++ wsX10 ++ (vx_atS RX6 156 "java/lang/IndexOutOfBoundsException" ["java/lang/RuntimeException", "java/lang/Exception"]).filter goodWord ++ (vx_atS RX6 199 "java/lang/IllegalArgumentException" ["java/lang/RuntimeException", "java/lang/Exception"]).filter goodWord)
def wsL_give : List Cond := .codeWith yL_give cL_give 4 (some .int) [(0, 9, 12, 13)] :: ([.classLink RL 13 "java/lang/IndexOutOfBoundsException", .methodLink RL 17 yX6_give, .instanceMethod yX6_give, .selects RX6 yX6_give yX6_give, .initialized RX6, .code yX6_give cX6_give 2 (some .int), .fieldLink RX6 33 "SharedRegisters" "askers" "[LSharedRegisters$Asker;", .methodLink RX6 57 yX6_needIndex, .static yX6_needIndex, .code yX6_needIndex cX6_needIndex 2 none, .classLink RX6 152 "java/lang/IndexOutOfBoundsException", .initialized "java/lang/IndexOutOfBoundsException", .methodLink RX6 86 yX6_endCurrent, .static yX6_endCurrent, .code yX6_endCurrent cX6_endCurrent 3 (some .int)] ++ wsX60 ++ wsX00 ++ wsX30 ++ (vx_atS RX6 156 "java/lang/IndexOutOfBoundsException" ["java/lang/RuntimeException", "java/lang/Exception"]).filter goodWord)
def wsL_plan_r1 : List Cond := [Cond.classLink RL 13 "java/lang/IndexOutOfBoundsException", Cond.classLink RL 15 "java/lang/IllegalArgumentException", Cond.methodLink RL 21 yX6_plan, Cond.instanceMethod yX6_plan, Cond.selects RX6 yX6_plan yX6_plan, Cond.initialized RX6, Cond.code yX6_plan cX6_plan 5 none, Cond.fieldLink RX6 33 "SharedRegisters" "askers" "[LSharedRegisters$Asker;", Cond.methodLink RX6 57 yX6_needIndex, Cond.static yX6_needIndex, Cond.code yX6_needIndex cX6_needIndex 2 none, Cond.classLink RX6 152 "java/lang/IndexOutOfBoundsException", Cond.initialized "java/lang/IndexOutOfBoundsException", Cond.methodLink RX6 61 yX6_needRange, Cond.static yX6_needRange, Cond.code yX6_needRange cX6_needRange 3 none, Cond.classLink RX6 195 "java/lang/IllegalArgumentException", Cond.initialized "java/lang/IllegalArgumentException", Cond.methodLink RX6 90 yJ6_bitCount_0f7a4, Cond.static yJ6_bitCount_0f7a4, Cond.initialized RJ6, Cond.code yJ6_bitCount_0f7a4 cJ6_bitCount_0f7a4 1 (some .int), Cond.constant RJ6 265 (1431655765), Cond.constant RJ6 266 (858993459)]
def wsL_plan_r2 : List Cond := [Cond.constant RJ6 267 (252645135)]
def wsL_plan : List Cond := .codeWith yL_plan cL_plan 6 (some .int) [(0, 9, 12, 13), (0, 9, 16, 15)] :: ((wsL_plan_r1 ++ wsL_plan_r2) ++ wsX60 ++ wsX00 ++ (vx_atS RX6 156 "java/lang/IndexOutOfBoundsException" ["java/lang/RuntimeException", "java/lang/Exception"]).filter goodWord ++ (vx_atS RX6 199 "java/lang/IllegalArgumentException" ["java/lang/RuntimeException", "java/lang/Exception"]).filter goodWord)
def wsL_take_r1 : List Cond := [Cond.classLink RL 13 "java/lang/IndexOutOfBoundsException", Cond.methodLink RL 25 yX6_take, Cond.instanceMethod yX6_take, Cond.selects RX6 yX6_take yX6_take, Cond.initialized RX6, Cond.code yX6_take cX6_take 2 (some .int), Cond.fieldLink RX6 49 "SharedRegisters" "row" "LSharedRegisters$Row;", Cond.methodLink RX6 57 yX6_needIndex, Cond.static yX6_needIndex, Cond.code yX6_needIndex cX6_needIndex 2 none, Cond.classLink RX6 152 "java/lang/IndexOutOfBoundsException", Cond.initialized "java/lang/IndexOutOfBoundsException", Cond.methodLink RX6 102 yX6_deliver, Cond.instanceMethod yX6_deliver, Cond.selects RX6 yX6_deliver yX6_deliver, Cond.code yX6_deliver cX6_deliver 3 (some .int), Cond.instanceMethod yX4_drawOut, Cond.initialized RX4, Cond.selects RX4 yX4_drawOut yX4_drawOut, Cond.code yX4_drawOut cX4_drawOut 4 (some (.object "SharedRegisters$Message")), Cond.fieldLink RX4 11 "SharedRegisters$Row" "messages" "[LSharedRegisters$Message;", Cond.fieldLink RX4 20 "SharedRegisters$Row" "size" "I", Cond.methodLink RX6 200 yX6_takePrepare, Cond.instanceMethod yX6_takePrepare]
def wsL_take_r2 : List Cond := [Cond.selects RX6 yX6_takePrepare yX6_takePrepare, Cond.code yX6_takePrepare cX6_takePrepare 3 none, Cond.fieldLink RX6 27 "SharedRegisters" "isDown" "[Z", Cond.fieldLink RX6 12 "SharedRegisters" "absent" "LSharedRegisters$State;", Cond.methodLink RX6 140 yX6_registerOf, Cond.instanceMethod yX6_registerOf, Cond.selects RX6 yX6_registerOf yX6_registerOf, Cond.code yX6_registerOf cX6_registerOf 3 (some (.object "SharedRegisters$Register")), Cond.fieldLink RX6 20 "SharedRegisters" "registers" "[LSharedRegisters$Register;", Cond.instanceMethod yX2_greaterBallot, Cond.initialized RX2, Cond.selects RX2 yX2_greaterBallot yX2_greaterBallot, Cond.code yX2_greaterBallot cX2_greaterBallot 1 (some .int), Cond.fieldLink RX2 7 "SharedRegisters$Register" "promise" "I", Cond.fieldLink RX2 13 "SharedRegisters$Register" "ballot" "I", Cond.methodLink RX2 20 Lib.Math.max.name, Cond.static Lib.Math.max.name, Cond.initialized "java/lang/Math", Cond.code Lib.Math.max.name Lib.Math.max.code 2 (some .int), Cond.methodLink RX6 219 yX6_sendBack, Cond.instanceMethod yX6_sendBack, Cond.selects RX6 yX6_sendBack yX6_sendBack, Cond.code yX6_sendBack cX6_sendBack 5 none, Cond.instanceMethod yX4_send]
def wsL_take_r3 : List Cond := [Cond.selects RX4 yX4_send yX4_send, Cond.code yX4_send cX4_send 9 none, Cond.methodLink RX6 204 yX6_takePromised, Cond.instanceMethod yX6_takePromised, Cond.selects RX6 yX6_takePromised yX6_takePromised, Cond.code yX6_takePromised cX6_takePromised 3 none, Cond.methodLink RX6 227 yX6_awaiting, Cond.instanceMethod yX6_awaiting, Cond.selects RX6 yX6_awaiting yX6_awaiting, Cond.code yX6_awaiting cX6_awaiting 4 (some (.object "SharedRegisters$Request")), Cond.fieldLink RX6 33 "SharedRegisters" "askers" "[LSharedRegisters$Asker;", Cond.instanceMethod yX3_hasAnswer, Cond.initialized RX3, Cond.selects RX3 yX3_hasAnswer yX3_hasAnswer, Cond.code yX3_hasAnswer cX3_hasAnswer 2 (some .boolean), Cond.fieldLink RX3 57 "SharedRegisters$Request" "answered" "I", Cond.instanceMethod yX3_hearState, Cond.selects RX3 yX3_hearState yX3_hearState, Cond.code yX3_hearState cX3_hearState 3 none, Cond.fieldLink RX3 60 "SharedRegisters$Request" "toldBallot" "I", Cond.fieldLink RX3 63 "SharedRegisters$Request" "state" "LSharedRegisters$State;", Cond.instanceMethod yX3_countAnswer, Cond.selects RX3 yX3_countAnswer yX3_countAnswer, Cond.code yX3_countAnswer cX3_countAnswer 2 none]
def wsL_take_r4 : List Cond := [Cond.instanceMethod yX3_answers, Cond.selects RX3 yX3_answers yX3_answers, Cond.code yX3_answers cX3_answers 1 (some .int), Cond.methodLink RX3 73 yJ6_bitCount_0f7a4, Cond.static yJ6_bitCount_0f7a4, Cond.initialized RJ6, Cond.code yJ6_bitCount_0f7a4 cJ6_bitCount_0f7a4 1 (some .int), Cond.constant RJ6 265 (1431655765), Cond.constant RJ6 266 (858993459), Cond.constant RJ6 267 (252645135), Cond.instanceMethod yX3_beginAccepting, Cond.selects RX3 yX3_beginAccepting yX3_beginAccepting, Cond.code yX3_beginAccepting cX3_beginAccepting 1 none, Cond.fieldLink RX3 24 "SharedRegisters$Request" "change" "I", Cond.fieldLink RX3 27 "SharedRegisters$Request" "argument" "J", Cond.fieldLink RX3 67 "SharedRegisters$Request" "failed" "Z", Cond.fieldLink RX3 53 "SharedRegisters$Request" "accepting" "Z", Cond.instanceMethod yX5_fails, Cond.initialized RX5, Cond.selects RX5 yX5_fails yX5_fails, Cond.code yX5_fails cX5_fails 4 (some .boolean), Cond.fieldLink RX5 9 "SharedRegisters$State" "present" "Z", Cond.fieldLink RX5 15 "SharedRegisters$State" "version" "I", Cond.fieldLink RX5 19 "SharedRegisters$State" "value" "J"]
def wsL_take_r5 : List Cond := [Cond.instanceMethod yX5_changed, Cond.selects RX5 yX5_changed yX5_changed, Cond.code yX5_changed cX5_changed 4 (some (.object "SharedRegisters$State")), Cond.classLink RX5 10 RX5, Cond.instantiable RX5 3, Cond.methodLink RX5 23 yX5_fails, Cond.methodLink RX5 27 yX5_next, Cond.instanceMethod yX5_next, Cond.selects RX5 yX5_next yX5_next, Cond.code yX5_next cX5_next 3 (some (.object "SharedRegisters$State")), Cond.methodLink RX5 31 yX5_init, Cond.instanceMethod yX5_init, Cond.code yX5_init cX5_init 5 none, Cond.methodLink RX5 3 objectInit, Cond.instanceMethod objectInit, Cond.code objectInit ⟨#[0xb1]⟩ 1 none, Cond.methodLink RX6 79 yX6_sendToSet, Cond.instanceMethod yX6_sendToSet, Cond.selects RX6 yX6_sendToSet yX6_sendToSet, Cond.code yX6_sendToSet cX6_sendToSet 6 none, Cond.methodLink RX6 207 yX6_takeAccept, Cond.instanceMethod yX6_takeAccept, Cond.selects RX6 yX6_takeAccept yX6_takeAccept, Cond.code yX6_takeAccept cX6_takeAccept 3 none]
def wsL_take_r6 : List Cond := [Cond.instanceMethod yX2_accept, Cond.selects RX2 yX2_accept yX2_accept, Cond.code yX2_accept cX2_accept 3 none, Cond.fieldLink RX2 16 "SharedRegisters$Register" "state" "LSharedRegisters$State;", Cond.methodLink RX6 210 yX6_takeTaken, Cond.instanceMethod yX6_takeTaken, Cond.selects RX6 yX6_takeTaken yX6_takeTaken, Cond.code yX6_takeTaken cX6_takeTaken 3 none, Cond.methodLink RX6 86 yX6_endCurrent, Cond.static yX6_endCurrent, Cond.code yX6_endCurrent cX6_endCurrent 3 (some .int), Cond.methodLink RX6 213 yX6_takeRefused, Cond.instanceMethod yX6_takeRefused, Cond.selects RX6 yX6_takeRefused yX6_takeRefused, Cond.code yX6_takeRefused cX6_takeRefused 3 none, Cond.methodLink RX6 249 Lib.Math.max.name]
def wsL_take : List Cond := .codeWith yL_take cL_take 4 (some .int) [(0, 9, 12, 13)] :: ((wsL_take_r1 ++ (wsL_take_r2 ++ (wsL_take_r3 ++ (wsL_take_r4 ++ (wsL_take_r5 ++ wsL_take_r6))))) ++ wsX60 ++ wsX40 ++ wsX10 ++ wsX20 ++ wsX30 ++ wsX00 ++ wsX50 ++ (vx_atS RX6 156 "java/lang/IndexOutOfBoundsException" ["java/lang/RuntimeException", "java/lang/Exception"]).filter goodWord)
def wsL_run_r1 : List Cond := [Cond.classLink RL 15 "java/lang/IllegalArgumentException", Cond.methodLink RL 28 yX6_run, Cond.instanceMethod yX6_run, Cond.selects RX6 yX6_run yX6_run, Cond.initialized RX6, Cond.code yX6_run cX6_run 3 (some .int), Cond.fieldLink RX6 49 "SharedRegisters" "row" "LSharedRegisters$Row;", Cond.methodLink RX6 61 yX6_needRange, Cond.static yX6_needRange, Cond.code yX6_needRange cX6_needRange 3 none, Cond.classLink RX6 195 "java/lang/IllegalArgumentException", Cond.initialized "java/lang/IllegalArgumentException", Cond.methodLink RX6 102 yX6_deliver, Cond.instanceMethod yX6_deliver, Cond.selects RX6 yX6_deliver yX6_deliver, Cond.code yX6_deliver cX6_deliver 3 (some .int), Cond.instanceMethod yX4_drawOut, Cond.initialized RX4, Cond.selects RX4 yX4_drawOut yX4_drawOut, Cond.code yX4_drawOut cX4_drawOut 4 (some (.object "SharedRegisters$Message")), Cond.fieldLink RX4 11 "SharedRegisters$Row" "messages" "[LSharedRegisters$Message;", Cond.fieldLink RX4 20 "SharedRegisters$Row" "size" "I", Cond.methodLink RX6 200 yX6_takePrepare, Cond.instanceMethod yX6_takePrepare]
def wsL_run_r2 : List Cond := [Cond.selects RX6 yX6_takePrepare yX6_takePrepare, Cond.code yX6_takePrepare cX6_takePrepare 3 none, Cond.fieldLink RX6 27 "SharedRegisters" "isDown" "[Z", Cond.fieldLink RX6 12 "SharedRegisters" "absent" "LSharedRegisters$State;", Cond.methodLink RX6 140 yX6_registerOf, Cond.instanceMethod yX6_registerOf, Cond.selects RX6 yX6_registerOf yX6_registerOf, Cond.code yX6_registerOf cX6_registerOf 3 (some (.object "SharedRegisters$Register")), Cond.fieldLink RX6 20 "SharedRegisters" "registers" "[LSharedRegisters$Register;", Cond.instanceMethod yX2_greaterBallot, Cond.initialized RX2, Cond.selects RX2 yX2_greaterBallot yX2_greaterBallot, Cond.code yX2_greaterBallot cX2_greaterBallot 1 (some .int), Cond.fieldLink RX2 7 "SharedRegisters$Register" "promise" "I", Cond.fieldLink RX2 13 "SharedRegisters$Register" "ballot" "I", Cond.methodLink RX2 20 Lib.Math.max.name, Cond.static Lib.Math.max.name, Cond.initialized "java/lang/Math", Cond.code Lib.Math.max.name Lib.Math.max.code 2 (some .int), Cond.methodLink RX6 219 yX6_sendBack, Cond.instanceMethod yX6_sendBack, Cond.selects RX6 yX6_sendBack yX6_sendBack, Cond.code yX6_sendBack cX6_sendBack 5 none, Cond.instanceMethod yX4_send]
def wsL_run_r3 : List Cond := [Cond.selects RX4 yX4_send yX4_send, Cond.code yX4_send cX4_send 9 none, Cond.methodLink RX6 204 yX6_takePromised, Cond.instanceMethod yX6_takePromised, Cond.selects RX6 yX6_takePromised yX6_takePromised, Cond.code yX6_takePromised cX6_takePromised 3 none, Cond.methodLink RX6 227 yX6_awaiting, Cond.instanceMethod yX6_awaiting, Cond.selects RX6 yX6_awaiting yX6_awaiting, Cond.code yX6_awaiting cX6_awaiting 4 (some (.object "SharedRegisters$Request")), Cond.fieldLink RX6 33 "SharedRegisters" "askers" "[LSharedRegisters$Asker;", Cond.instanceMethod yX3_hasAnswer, Cond.initialized RX3, Cond.selects RX3 yX3_hasAnswer yX3_hasAnswer, Cond.code yX3_hasAnswer cX3_hasAnswer 2 (some .boolean), Cond.fieldLink RX3 57 "SharedRegisters$Request" "answered" "I", Cond.instanceMethod yX3_hearState, Cond.selects RX3 yX3_hearState yX3_hearState, Cond.code yX3_hearState cX3_hearState 3 none, Cond.fieldLink RX3 60 "SharedRegisters$Request" "toldBallot" "I", Cond.fieldLink RX3 63 "SharedRegisters$Request" "state" "LSharedRegisters$State;", Cond.instanceMethod yX3_countAnswer, Cond.selects RX3 yX3_countAnswer yX3_countAnswer, Cond.code yX3_countAnswer cX3_countAnswer 2 none]
def wsL_run_r4 : List Cond := [Cond.instanceMethod yX3_answers, Cond.selects RX3 yX3_answers yX3_answers, Cond.code yX3_answers cX3_answers 1 (some .int), Cond.methodLink RX3 73 yJ6_bitCount_0f7a4, Cond.static yJ6_bitCount_0f7a4, Cond.initialized RJ6, Cond.code yJ6_bitCount_0f7a4 cJ6_bitCount_0f7a4 1 (some .int), Cond.constant RJ6 265 (1431655765), Cond.constant RJ6 266 (858993459), Cond.constant RJ6 267 (252645135), Cond.instanceMethod yX3_beginAccepting, Cond.selects RX3 yX3_beginAccepting yX3_beginAccepting, Cond.code yX3_beginAccepting cX3_beginAccepting 1 none, Cond.fieldLink RX3 24 "SharedRegisters$Request" "change" "I", Cond.fieldLink RX3 27 "SharedRegisters$Request" "argument" "J", Cond.fieldLink RX3 67 "SharedRegisters$Request" "failed" "Z", Cond.fieldLink RX3 53 "SharedRegisters$Request" "accepting" "Z", Cond.instanceMethod yX5_fails, Cond.initialized RX5, Cond.selects RX5 yX5_fails yX5_fails, Cond.code yX5_fails cX5_fails 4 (some .boolean), Cond.fieldLink RX5 9 "SharedRegisters$State" "present" "Z", Cond.fieldLink RX5 15 "SharedRegisters$State" "version" "I", Cond.fieldLink RX5 19 "SharedRegisters$State" "value" "J"]
def wsL_run_r5 : List Cond := [Cond.instanceMethod yX5_changed, Cond.selects RX5 yX5_changed yX5_changed, Cond.code yX5_changed cX5_changed 4 (some (.object "SharedRegisters$State")), Cond.classLink RX5 10 RX5, Cond.instantiable RX5 3, Cond.methodLink RX5 23 yX5_fails, Cond.methodLink RX5 27 yX5_next, Cond.instanceMethod yX5_next, Cond.selects RX5 yX5_next yX5_next, Cond.code yX5_next cX5_next 3 (some (.object "SharedRegisters$State")), Cond.methodLink RX5 31 yX5_init, Cond.instanceMethod yX5_init, Cond.code yX5_init cX5_init 5 none, Cond.methodLink RX5 3 objectInit, Cond.instanceMethod objectInit, Cond.code objectInit ⟨#[0xb1]⟩ 1 none, Cond.methodLink RX6 79 yX6_sendToSet, Cond.instanceMethod yX6_sendToSet, Cond.selects RX6 yX6_sendToSet yX6_sendToSet, Cond.code yX6_sendToSet cX6_sendToSet 6 none, Cond.methodLink RX6 207 yX6_takeAccept, Cond.instanceMethod yX6_takeAccept, Cond.selects RX6 yX6_takeAccept yX6_takeAccept, Cond.code yX6_takeAccept cX6_takeAccept 3 none]
def wsL_run_r6 : List Cond := [Cond.instanceMethod yX2_accept, Cond.selects RX2 yX2_accept yX2_accept, Cond.code yX2_accept cX2_accept 3 none, Cond.fieldLink RX2 16 "SharedRegisters$Register" "state" "LSharedRegisters$State;", Cond.methodLink RX6 210 yX6_takeTaken, Cond.instanceMethod yX6_takeTaken, Cond.selects RX6 yX6_takeTaken yX6_takeTaken, Cond.code yX6_takeTaken cX6_takeTaken 3 none, Cond.methodLink RX6 86 yX6_endCurrent, Cond.static yX6_endCurrent, Cond.code yX6_endCurrent cX6_endCurrent 3 (some .int), Cond.methodLink RX6 213 yX6_takeRefused, Cond.instanceMethod yX6_takeRefused, Cond.selects RX6 yX6_takeRefused yX6_takeRefused, Cond.code yX6_takeRefused cX6_takeRefused 3 none, Cond.methodLink RX6 249 Lib.Math.max.name]
def wsL_run : List Cond := .codeWith yL_run cL_run 4 (some .int) [(0, 9, 12, 15)] :: ((wsL_run_r1 ++ (wsL_run_r2 ++ (wsL_run_r3 ++ (wsL_run_r4 ++ (wsL_run_r5 ++ wsL_run_r6))))) ++ wsX60 ++ wsX40 ++ wsX10 ++ wsX20 ++ wsX30 ++ wsX00 ++ wsX50 ++ (vx_atS RX6 199 "java/lang/IllegalArgumentException" ["java/lang/RuntimeException", "java/lang/Exception"]).filter goodWord)
def wsL_lose : List Cond := .codeWith yL_lose cL_lose 4 (some .int) [(0, 9, 12, 13)] :: ([.classLink RL 13 "java/lang/IndexOutOfBoundsException", .methodLink RL 31 yX6_lose, .instanceMethod yX6_lose, .selects RX6 yX6_lose yX6_lose, .initialized RX6, .code yX6_lose cX6_lose 2 (some .int), .fieldLink RX6 49 "SharedRegisters" "row" "LSharedRegisters$Row;", .methodLink RX6 57 yX6_needIndex, .static yX6_needIndex, .code yX6_needIndex cX6_needIndex 2 none, .classLink RX6 152 "java/lang/IndexOutOfBoundsException", .initialized "java/lang/IndexOutOfBoundsException", .instanceMethod yX4_drawOut, .initialized RX4, .selects RX4 yX4_drawOut yX4_drawOut, .code yX4_drawOut cX4_drawOut 4 (some (.object "SharedRegisters$Message")), .fieldLink RX4 11 "SharedRegisters$Row" "messages" "[LSharedRegisters$Message;", .fieldLink RX4 20 "SharedRegisters$Row" "size" "I"] ++ wsX60 ++ wsX40 ++ wsX10 ++ (vx_atS RX6 156 "java/lang/IndexOutOfBoundsException" ["java/lang/RuntimeException", "java/lang/Exception"]).filter goodWord)
def wsL_twice : List Cond := .codeWith yL_twice cL_twice 4 (some .int) [(0, 9, 12, 13)] :: ([.classLink RL 13 "java/lang/IndexOutOfBoundsException", .methodLink RL 34 yX6_twice, .instanceMethod yX6_twice, .selects RX6 yX6_twice yX6_twice, .initialized RX6, .code yX6_twice cX6_twice 3 (some .int), .fieldLink RX6 49 "SharedRegisters" "row" "LSharedRegisters$Row;", .methodLink RX6 57 yX6_needIndex, .static yX6_needIndex, .code yX6_needIndex cX6_needIndex 2 none, .classLink RX6 152 "java/lang/IndexOutOfBoundsException", .initialized "java/lang/IndexOutOfBoundsException", .instanceMethod yX4_send, .initialized RX4, .selects RX4 yX4_send yX4_send, .code yX4_send cX4_send 9 none, .fieldLink RX4 20 "SharedRegisters$Row" "size" "I", .fieldLink RX4 11 "SharedRegisters$Row" "messages" "[LSharedRegisters$Message;"] ++ wsX60 ++ wsX40 ++ wsX10 ++ (vx_atS RX6 156 "java/lang/IndexOutOfBoundsException" ["java/lang/RuntimeException", "java/lang/Exception"]).filter goodWord)
def wsL_down : List Cond := .codeWith yL_down cL_down 5 (some .int) [(0, 17, 20, 13)] :: ([.classLink RL 13 "java/lang/IndexOutOfBoundsException", .methodLink RL 37 yX6_down, .instanceMethod yX6_down, .selects RX6 yX6_down yX6_down, .initialized RX6, .code yX6_down cX6_down 4 (some .boolean), .fieldLink RX6 27 "SharedRegisters" "isDown" "[Z", .methodLink RX6 57 yX6_needIndex, .static yX6_needIndex, .code yX6_needIndex cX6_needIndex 2 none, .classLink RX6 152 "java/lang/IndexOutOfBoundsException", .initialized "java/lang/IndexOutOfBoundsException"] ++ wsX60 ++ (vx_atS RX6 156 "java/lang/IndexOutOfBoundsException" ["java/lang/RuntimeException", "java/lang/Exception"]).filter goodWord)
def wsL_copy_r1 : List Cond := [Cond.classLink RL 13 "java/lang/IndexOutOfBoundsException", Cond.methodLink RL 41 yX6_copy, Cond.instanceMethod yX6_copy, Cond.selects RX6 yX6_copy yX6_copy, Cond.initialized RX6, Cond.code yX6_copy cX6_copy 5 (some .int), Cond.methodLink RX6 57 yX6_needIndex, Cond.static yX6_needIndex, Cond.code yX6_needIndex cX6_needIndex 2 none, Cond.classLink RX6 152 "java/lang/IndexOutOfBoundsException", Cond.initialized "java/lang/IndexOutOfBoundsException", Cond.methodLink RX6 140 yX6_registerOf, Cond.instanceMethod yX6_registerOf, Cond.selects RX6 yX6_registerOf yX6_registerOf, Cond.code yX6_registerOf cX6_registerOf 3 (some (.object "SharedRegisters$Register")), Cond.fieldLink RX6 20 "SharedRegisters" "registers" "[LSharedRegisters$Register;", Cond.instanceMethod yX2_catchUp, Cond.initialized RX2, Cond.selects RX2 yX2_catchUp yX2_catchUp, Cond.code yX2_catchUp cX2_catchUp 2 (some .boolean), Cond.fieldLink RX2 13 "SharedRegisters$Register" "ballot" "I", Cond.fieldLink RX2 16 "SharedRegisters$Register" "state" "LSharedRegisters$State;", Cond.fieldLink RX2 7 "SharedRegisters$Register" "promise" "I", Cond.methodLink RX2 20 Lib.Math.max.name]
def wsL_copy_r2 : List Cond := [Cond.static Lib.Math.max.name, Cond.initialized "java/lang/Math", Cond.code Lib.Math.max.name Lib.Math.max.code 2 (some .int)]
def wsL_copy : List Cond := .codeWith yL_copy cL_copy 5 (some .int) [(0, 10, 13, 13)] :: ((wsL_copy_r1 ++ wsL_copy_r2) ++ wsX60 ++ wsX20 ++ (vx_atS RX6 156 "java/lang/IndexOutOfBoundsException" ["java/lang/RuntimeException", "java/lang/Exception"]).filter goodWord)
def wsL_message : List Cond := .codeWith yL_message cL_message 5 (some .int) [(0, 10, 13, 13)] :: ([.classLink RL 13 "java/lang/IndexOutOfBoundsException", .methodLink RL 45 yX6_message, .instanceMethod yX6_message, .selects RX6 yX6_message yX6_message, .initialized RX6, .code yX6_message cX6_message 4 (some .int), .classLink RX6 152 "java/lang/IndexOutOfBoundsException", .initialized "java/lang/IndexOutOfBoundsException", .fieldLink RX6 49 "SharedRegisters" "row" "LSharedRegisters$Row;", .methodLink RX6 57 yX6_needIndex, .static yX6_needIndex, .code yX6_needIndex cX6_needIndex 2 none, .instanceMethod yX5_versionOrNone, .initialized RX5, .selects RX5 yX5_versionOrNone yX5_versionOrNone, .code yX5_versionOrNone cX5_versionOrNone 1 (some .int), .fieldLink RX5 9 "SharedRegisters$State" "present" "Z", .fieldLink RX5 15 "SharedRegisters$State" "version" "I"] ++ wsX60 ++ wsX40 ++ wsX10 ++ wsX50 ++ (vx_atS RX6 156 "java/lang/IndexOutOfBoundsException" ["java/lang/RuntimeException", "java/lang/Exception"]).filter goodWord)
def wsL_keeper : List Cond := .codeWith yL_keeper cL_keeper 6 (some .int) [(0, 12, 15, 13)] :: ([.classLink RL 13 "java/lang/IndexOutOfBoundsException", .methodLink RL 48 yX6_keeper, .instanceMethod yX6_keeper, .selects RX6 yX6_keeper yX6_keeper, .initialized RX6, .code yX6_keeper cX6_keeper 5 (some .int), .classLink RX6 152 "java/lang/IndexOutOfBoundsException", .initialized "java/lang/IndexOutOfBoundsException", .methodLink RX6 57 yX6_needIndex, .static yX6_needIndex, .code yX6_needIndex cX6_needIndex 2 none, .methodLink RX6 140 yX6_registerOf, .instanceMethod yX6_registerOf, .selects RX6 yX6_registerOf yX6_registerOf, .code yX6_registerOf cX6_registerOf 3 (some (.object "SharedRegisters$Register")), .fieldLink RX6 20 "SharedRegisters" "registers" "[LSharedRegisters$Register;", .instanceMethod yX5_versionOrNone, .initialized RX5, .selects RX5 yX5_versionOrNone yX5_versionOrNone, .code yX5_versionOrNone cX5_versionOrNone 1 (some .int), .fieldLink RX5 9 "SharedRegisters$State" "present" "Z", .fieldLink RX5 15 "SharedRegisters$State" "version" "I"] ++ wsX20 ++ wsX60 ++ wsX50 ++ (vx_atS RX6 156 "java/lang/IndexOutOfBoundsException" ["java/lang/RuntimeException", "java/lang/Exception"]).filter goodWord)
def wsL_kept : List Cond := .codeWith yL_kept cL_kept 5 (some .int) [(0, 9, 12, 13)] :: ([.classLink RL 13 "java/lang/IndexOutOfBoundsException", .methodLink RL 52 yX6_kept, .instanceMethod yX6_kept, .selects RX6 yX6_kept yX6_kept, .initialized RX6, .code yX6_kept cX6_kept 3 (some .long), .methodLink RX6 57 yX6_needIndex, .static yX6_needIndex, .code yX6_needIndex cX6_needIndex 2 none, .classLink RX6 152 "java/lang/IndexOutOfBoundsException", .initialized "java/lang/IndexOutOfBoundsException", .methodLink RX6 140 yX6_registerOf, .instanceMethod yX6_registerOf, .selects RX6 yX6_registerOf yX6_registerOf, .code yX6_registerOf cX6_registerOf 3 (some (.object "SharedRegisters$Register")), .fieldLink RX6 20 "SharedRegisters" "registers" "[LSharedRegisters$Register;"] ++ wsX20 ++ wsX50 ++ wsX60 ++ (vx_atS RX6 156 "java/lang/IndexOutOfBoundsException" ["java/lang/RuntimeException", "java/lang/Exception"]).filter goodWord)
def wsL_asker : List Cond := .codeWith yL_asker cL_asker 5 (some .int) [(0, 10, 13, 13)] :: ([.classLink RL 13 "java/lang/IndexOutOfBoundsException", .methodLink RL 56 yX6_asker, .instanceMethod yX6_asker, .selects RX6 yX6_asker yX6_asker, .initialized RX6, .code yX6_asker cX6_asker 4 (some .int), .classLink RX6 152 "java/lang/IndexOutOfBoundsException", .initialized "java/lang/IndexOutOfBoundsException", .fieldLink RX6 33 "SharedRegisters" "askers" "[LSharedRegisters$Asker;", .methodLink RX6 57 yX6_needIndex, .static yX6_needIndex, .code yX6_needIndex cX6_needIndex 2 none, .instanceMethod yX3_answers, .initialized RX3, .selects RX3 yX3_answers yX3_answers, .code yX3_answers cX3_answers 1 (some .int), .fieldLink RX3 57 "SharedRegisters$Request" "answered" "I", .methodLink RX3 73 yJ6_bitCount_0f7a4, .static yJ6_bitCount_0f7a4, .initialized RJ6, .code yJ6_bitCount_0f7a4 cJ6_bitCount_0f7a4 1 (some .int), .constant RJ6 265 (1431655765), .constant RJ6 266 (858993459), .constant RJ6 267 (252645135)] ++ wsX60 ++ wsX00 ++ wsX30 ++ (vx_atS RX6 156 "java/lang/IndexOutOfBoundsException" ["java/lang/RuntimeException", "java/lang/Exception"]).filter goodWord)
def wsL_request : List Cond := .codeWith yL_request cL_request 5 (some .int) [(0, 10, 13, 13)] :: ([.classLink RL 13 "java/lang/IndexOutOfBoundsException", .methodLink RL 59 yX6_request, .instanceMethod yX6_request, .selects RX6 yX6_request yX6_request, .initialized RX6, .code yX6_request cX6_request 4 (some .int), .classLink RX6 152 "java/lang/IndexOutOfBoundsException", .initialized "java/lang/IndexOutOfBoundsException", .methodLink RX6 179 yX6_requestAt, .instanceMethod yX6_requestAt, .selects RX6 yX6_requestAt yX6_requestAt, .code yX6_requestAt cX6_requestAt 3 (some (.object "SharedRegisters$Request")), .fieldLink RX6 53 "SharedRegisters" "requestCount" "I", .fieldLink RX6 42 "SharedRegisters" "requests" "[LSharedRegisters$Request;", .methodLink RX6 57 yX6_needIndex, .static yX6_needIndex, .code yX6_needIndex cX6_needIndex 2 none, .instanceMethod yX5_versionOrNone, .initialized RX5, .selects RX5 yX5_versionOrNone yX5_versionOrNone, .code yX5_versionOrNone cX5_versionOrNone 1 (some .int), .fieldLink RX5 9 "SharedRegisters$State" "present" "Z", .fieldLink RX5 15 "SharedRegisters$State" "version" "I"] ++ wsX30 ++ wsX60 ++ wsX50 ++ (vx_atS RX6 156 "java/lang/IndexOutOfBoundsException" ["java/lang/RuntimeException", "java/lang/Exception"]).filter goodWord)
def wsL_result : List Cond := .codeWith yL_result cL_result 4 (some .int) [(0, 8, 11, 13)] :: ([.classLink RL 13 "java/lang/IndexOutOfBoundsException", .methodLink RL 62 yX6_result, .instanceMethod yX6_result, .selects RX6 yX6_result yX6_result, .initialized RX6, .code yX6_result cX6_result 3 (some .long), .methodLink RX6 179 yX6_requestAt, .instanceMethod yX6_requestAt, .selects RX6 yX6_requestAt yX6_requestAt, .code yX6_requestAt cX6_requestAt 3 (some (.object "SharedRegisters$Request")), .classLink RX6 152 "java/lang/IndexOutOfBoundsException", .initialized "java/lang/IndexOutOfBoundsException", .fieldLink RX6 53 "SharedRegisters" "requestCount" "I", .fieldLink RX6 42 "SharedRegisters" "requests" "[LSharedRegisters$Request;", .methodLink RX6 57 yX6_needIndex, .static yX6_needIndex, .code yX6_needIndex cX6_needIndex 2 none] ++ wsX30 ++ wsX50 ++ wsX60 ++ (vx_atS RX6 156 "java/lang/IndexOutOfBoundsException" ["java/lang/RuntimeException", "java/lang/Exception"]).filter goodWord)
def wsL_law0_r1 : List Cond := [Cond.classLink RL 8 RX6, Cond.instantiable RX6 7, Cond.initialized RX6, Cond.classLink RL 67 RX7, Cond.instantiable RX7 39, Cond.initialized RX7, Cond.arrayClass .long, Cond.constantLong RL 70 (4294967295), Cond.methodLink RL 66 yX6_init, Cond.instanceMethod yX6_init, Cond.code yX6_init cX6_init 2 none, Cond.methodLink RX6 1 objectInit, Cond.instanceMethod objectInit, Cond.code objectInit ⟨#[0xb1]⟩ 1 none, Cond.classLink RX6 7 RX5, Cond.instantiable RX5 3, Cond.initialized RX5, Cond.fieldLink RX6 12 "SharedRegisters" "absent" "LSharedRegisters$State;", Cond.classLink RX6 18 RX2, Cond.fieldLink RX6 20 "SharedRegisters" "registers" "[LSharedRegisters$Register;", Cond.instantiable RX2 3, Cond.initialized RX2, Cond.arrayClass .boolean, Cond.fieldLink RX6 27 "SharedRegisters" "isDown" "[Z"]
def wsL_law0_r2 : List Cond := [Cond.classLink RX6 31 RX0, Cond.fieldLink RX6 33 "SharedRegisters" "askers" "[LSharedRegisters$Asker;", Cond.instantiable RX0 5, Cond.initialized RX0, Cond.classLink RX6 40 RX3, Cond.fieldLink RX6 42 "SharedRegisters" "requests" "[LSharedRegisters$Request;", Cond.classLink RX6 46 RX4, Cond.instantiable RX4 2, Cond.initialized RX4, Cond.fieldLink RX6 49 "SharedRegisters" "row" "LSharedRegisters$Row;", Cond.fieldLink RX6 53 "SharedRegisters" "requestCount" "I", Cond.instanceMethod yX5_init, Cond.code yX5_init cX5_init 5 none, Cond.methodLink RX5 3 objectInit, Cond.fieldLink RX5 9 "SharedRegisters$State" "present" "Z", Cond.fieldLink RX5 15 "SharedRegisters$State" "version" "I", Cond.fieldLink RX5 19 "SharedRegisters$State" "value" "J", Cond.instanceMethod yX2_init, Cond.code yX2_init cX2_init 2 none, Cond.methodLink RX2 1 objectInit, Cond.fieldLink RX2 7 "SharedRegisters$Register" "promise" "I", Cond.fieldLink RX2 13 "SharedRegisters$Register" "ballot" "I", Cond.fieldLink RX2 16 "SharedRegisters$Register" "state" "LSharedRegisters$State;", Cond.instanceMethod yX0_init]
def wsL_law0_r3 : List Cond := [Cond.code yX0_init cX0_init 2 none, Cond.methodLink RX0 3 objectInit, Cond.fieldLink RX0 9 "SharedRegisters$Asker" "number" "I", Cond.arrayClass .int, Cond.fieldLink RX0 15 "SharedRegisters$Asker" "sets" "[I", Cond.fieldLink RX0 19 "SharedRegisters$Asker" "enough" "[I", Cond.fieldLink RX0 22 "SharedRegisters$Asker" "count" "I", Cond.fieldLink RX0 25 "SharedRegisters$Asker" "current" "LSharedRegisters$Request;", Cond.instanceMethod yX4_init, Cond.code yX4_init cX4_init 3 none, Cond.methodLink RX4 3 objectInit, Cond.classLink RX4 9 RX1, Cond.fieldLink RX4 11 "SharedRegisters$Row" "messages" "[LSharedRegisters$Message;", Cond.instantiable RX1 7, Cond.initialized RX1, Cond.fieldLink RX4 20 "SharedRegisters$Row" "size" "I", Cond.instanceMethod yX1_init, Cond.code yX1_init cX1_init 2 none, Cond.methodLink RX1 1 objectInit, Cond.fieldLink RX1 7 "SharedRegisters$Message" "state" "LSharedRegisters$State;", Cond.methodLink RL 69 yX7_init, Cond.instanceMethod yX7_init, Cond.code yX7_init cX7_init 2 none, Cond.methodLink RX7 1 objectInit]
def wsL_law0_r4 : List Cond := [Cond.fieldLink RX7 7 "SharedRegistersModel" "sort" "[I", Cond.fieldLink RX7 13 "SharedRegistersModel" "who" "[I", Cond.fieldLink RX7 16 "SharedRegistersModel" "whom" "[I", Cond.fieldLink RX7 19 "SharedRegistersModel" "about" "[I", Cond.fieldLink RX7 22 "SharedRegistersModel" "ballot" "[I", Cond.fieldLink RX7 25 "SharedRegistersModel" "tells" "[Z", Cond.fieldLink RX7 29 "SharedRegistersModel" "version" "[I", Cond.fieldLink RX7 32 "SharedRegistersModel" "value" "[J", Cond.fieldLink RX7 36 "SharedRegistersModel" "isDown" "[Z", Cond.fieldLink RX7 39 "SharedRegistersModel" "promise" "[I", Cond.fieldLink RX7 42 "SharedRegistersModel" "accepted" "[I", Cond.fieldLink RX7 45 "SharedRegistersModel" "there" "[Z", Cond.fieldLink RX7 48 "SharedRegistersModel" "keptVersion" "[I", Cond.fieldLink RX7 51 "SharedRegistersModel" "keptValue" "[J", Cond.fieldLink RX7 54 "SharedRegistersModel" "count" "[I", Cond.fieldLink RX7 57 "SharedRegistersModel" "set" "[I", Cond.fieldLink RX7 60 "SharedRegistersModel" "enough" "[I", Cond.fieldLink RX7 63 "SharedRegistersModel" "nowSet" "[I", Cond.fieldLink RX7 66 "SharedRegistersModel" "nowEnough" "[I", Cond.fieldLink RX7 69 "SharedRegistersModel" "now" "[I", Cond.fieldLink RX7 72 "SharedRegistersModel" "accepting" "[Z", Cond.fieldLink RX7 75 "SharedRegistersModel" "answered" "[I", Cond.fieldLink RX7 78 "SharedRegistersModel" "best" "[I", Cond.fieldLink RX7 81 "SharedRegistersModel" "has" "[Z"]
def wsL_law0_r5 : List Cond := [Cond.fieldLink RX7 84 "SharedRegistersModel" "hasVersion" "[I", Cond.fieldLink RX7 87 "SharedRegistersModel" "hasValue" "[J", Cond.fieldLink RX7 90 "SharedRegistersModel" "failing" "[Z", Cond.fieldLink RX7 93 "SharedRegistersModel" "key" "[I", Cond.fieldLink RX7 96 "SharedRegistersModel" "change" "[I", Cond.fieldLink RX7 99 "SharedRegistersModel" "argument" "[J", Cond.fieldLink RX7 102 "SharedRegistersModel" "its" "[I", Cond.fieldLink RX7 105 "SharedRegistersModel" "ended" "[I", Cond.fieldLink RX7 108 "SharedRegistersModel" "failed" "[Z", Cond.fieldLink RX7 111 "SharedRegistersModel" "isThere" "[Z", Cond.fieldLink RX7 114 "SharedRegistersModel" "endVersion" "[I", Cond.fieldLink RX7 117 "SharedRegistersModel" "endValue" "[J", Cond.methodLink RL 72 yL_ask, Cond.static yL_ask, Cond.initialized RL, Cond.codeWith yL_ask cL_ask 8 (some .int) [(0, 14, 17, 13), (0, 14, 21, 15)], Cond.classLink RL 13 "java/lang/IndexOutOfBoundsException", Cond.classLink RL 15 "java/lang/IllegalArgumentException", Cond.methodLink RL 7 yX6_ask, Cond.instanceMethod yX6_ask, Cond.selects RX6 yX6_ask yX6_ask, Cond.code yX6_ask cX6_ask 8 (some .int), Cond.instantiable RX3 15, Cond.initialized RX3]
def wsL_law0_r6 : List Cond := [Cond.methodLink RX6 57 yX6_needIndex, Cond.static yX6_needIndex, Cond.code yX6_needIndex cX6_needIndex 2 none, Cond.classLink RX6 152 "java/lang/IndexOutOfBoundsException", Cond.initialized "java/lang/IndexOutOfBoundsException", Cond.methodLink RX6 61 yX6_needRange, Cond.static yX6_needRange, Cond.code yX6_needRange cX6_needRange 3 none, Cond.classLink RX6 195 "java/lang/IllegalArgumentException", Cond.initialized "java/lang/IllegalArgumentException", Cond.instanceMethod yX3_init, Cond.code yX3_init cX3_init 8 none, Cond.methodLink RX3 3 objectInit, Cond.fieldLink RX3 9 "SharedRegisters$Request" "number" "I", Cond.fieldLink RX3 18 "SharedRegisters$Request" "asker" "I", Cond.fieldLink RX3 21 "SharedRegisters$Request" "key" "I", Cond.fieldLink RX3 24 "SharedRegisters$Request" "change" "I", Cond.fieldLink RX3 27 "SharedRegisters$Request" "argument" "J", Cond.fieldLink RX3 34 "SharedRegisters$Request" "ballot" "I", Cond.fieldLink RX3 41 "SharedRegisters$Request" "enoughPromised" "I", Cond.fieldLink RX3 47 "SharedRegisters$Request" "acceptSet" "I", Cond.fieldLink RX3 50 "SharedRegisters$Request" "enoughTaken" "I", Cond.fieldLink RX3 53 "SharedRegisters$Request" "accepting" "Z", Cond.fieldLink RX3 57 "SharedRegisters$Request" "answered" "I"]
def wsL_law0_r7 : List Cond := [Cond.fieldLink RX3 60 "SharedRegisters$Request" "toldBallot" "I", Cond.fieldLink RX3 63 "SharedRegisters$Request" "state" "LSharedRegisters$State;", Cond.fieldLink RX3 67 "SharedRegisters$Request" "failed" "Z", Cond.fieldLink RX3 70 "SharedRegisters$Request" "ending" "I", Cond.methodLink RX6 79 yX6_sendToSet, Cond.instanceMethod yX6_sendToSet, Cond.selects RX6 yX6_sendToSet yX6_sendToSet, Cond.code yX6_sendToSet cX6_sendToSet 6 none, Cond.instanceMethod yX4_send, Cond.selects RX4 yX4_send yX4_send, Cond.code yX4_send cX4_send 9 none, Cond.methodLink RL 77 yX7_ask, Cond.instanceMethod yX7_ask, Cond.selects RX7 yX7_ask yX7_ask, Cond.code yX7_ask cX7_ask 8 (some .int), Cond.fieldLink RX7 120 "SharedRegistersModel" "thrown" "I", Cond.fieldLink RX7 134 "SharedRegistersModel" "requests" "I", Cond.methodLink RX7 127 yX7_noAsker, Cond.static yX7_noAsker, Cond.code yX7_noAsker cX7_noAsker 1 (some .boolean), Cond.methodLink RX7 131 yX7_noKey, Cond.static yX7_noKey, Cond.code yX7_noKey cX7_noKey 1 (some .boolean), Cond.methodLink RX7 137 yX7_send]
def wsL_law0_r8 : List Cond := [Cond.instanceMethod yX7_send, Cond.selects RX7 yX7_send yX7_send, Cond.code yX7_send cX7_send 10 none, Cond.fieldLink RX7 124 "SharedRegistersModel" "many" "I", Cond.methodLink RL 78 yX7_thrown, Cond.instanceMethod yX7_thrown, Cond.selects RX7 yX7_thrown yX7_thrown, Cond.code yX7_thrown cX7_thrown 1 (some .int), Cond.methodLink RL 82 yL_give, Cond.static yL_give, Cond.codeWith yL_give cL_give 4 (some .int) [(0, 9, 12, 13)], Cond.methodLink RL 17 yX6_give, Cond.instanceMethod yX6_give, Cond.selects RX6 yX6_give yX6_give, Cond.code yX6_give cX6_give 2 (some .int), Cond.methodLink RX6 86 yX6_endCurrent, Cond.static yX6_endCurrent, Cond.code yX6_endCurrent cX6_endCurrent 3 (some .int), Cond.methodLink RL 85 yX7_give, Cond.instanceMethod yX7_give, Cond.selects RX7 yX7_give yX7_give, Cond.code yX7_give cX7_give 3 (some .int), Cond.methodLink RX7 141 yX7_lose0, Cond.instanceMethod yX7_lose0]
def wsL_law0_r9 : List Cond := [Cond.selects RX7 yX7_lose0 yX7_lose0, Cond.code yX7_lose0 cX7_lose0 2 none, Cond.methodLink RL 86 yL_plan, Cond.static yL_plan, Cond.codeWith yL_plan cL_plan 6 (some .int) [(0, 9, 12, 13), (0, 9, 16, 15)], Cond.methodLink RL 21 yX6_plan, Cond.instanceMethod yX6_plan, Cond.selects RX6 yX6_plan yX6_plan, Cond.code yX6_plan cX6_plan 5 none, Cond.methodLink RX6 90 yJ6_bitCount_0f7a4, Cond.static yJ6_bitCount_0f7a4, Cond.initialized RJ6, Cond.code yJ6_bitCount_0f7a4 cJ6_bitCount_0f7a4 1 (some .int), Cond.constant RJ6 265 (1431655765), Cond.constant RJ6 266 (858993459), Cond.constant RJ6 267 (252645135), Cond.methodLink RL 89 yX7_plan, Cond.instanceMethod yX7_plan, Cond.selects RX7 yX7_plan yX7_plan, Cond.code yX7_plan cX7_plan 5 none, Cond.methodLink RX7 145 yX7_bits, Cond.static yX7_bits, Cond.code yX7_bits cX7_bits 3 (some .int), Cond.methodLink RL 90 yL_take]
def wsL_law0_r10 : List Cond := [Cond.static yL_take, Cond.codeWith yL_take cL_take 4 (some .int) [(0, 9, 12, 13)], Cond.methodLink RL 25 yX6_take, Cond.instanceMethod yX6_take, Cond.selects RX6 yX6_take yX6_take, Cond.code yX6_take cX6_take 2 (some .int), Cond.methodLink RX6 102 yX6_deliver, Cond.instanceMethod yX6_deliver, Cond.selects RX6 yX6_deliver yX6_deliver, Cond.code yX6_deliver cX6_deliver 3 (some .int), Cond.instanceMethod yX4_drawOut, Cond.selects RX4 yX4_drawOut yX4_drawOut, Cond.code yX4_drawOut cX4_drawOut 4 (some (.object "SharedRegisters$Message")), Cond.methodLink RX6 200 yX6_takePrepare, Cond.instanceMethod yX6_takePrepare, Cond.selects RX6 yX6_takePrepare yX6_takePrepare, Cond.code yX6_takePrepare cX6_takePrepare 3 none, Cond.methodLink RX6 140 yX6_registerOf, Cond.instanceMethod yX6_registerOf, Cond.selects RX6 yX6_registerOf yX6_registerOf, Cond.code yX6_registerOf cX6_registerOf 3 (some (.object "SharedRegisters$Register")), Cond.instanceMethod yX2_greaterBallot, Cond.selects RX2 yX2_greaterBallot yX2_greaterBallot, Cond.code yX2_greaterBallot cX2_greaterBallot 1 (some .int)]
def wsL_law0_r11 : List Cond := [Cond.methodLink RX2 20 Lib.Math.max.name, Cond.static Lib.Math.max.name, Cond.initialized "java/lang/Math", Cond.code Lib.Math.max.name Lib.Math.max.code 2 (some .int), Cond.methodLink RX6 219 yX6_sendBack, Cond.instanceMethod yX6_sendBack, Cond.selects RX6 yX6_sendBack yX6_sendBack, Cond.code yX6_sendBack cX6_sendBack 5 none, Cond.methodLink RX6 204 yX6_takePromised, Cond.instanceMethod yX6_takePromised, Cond.selects RX6 yX6_takePromised yX6_takePromised, Cond.code yX6_takePromised cX6_takePromised 3 none, Cond.methodLink RX6 227 yX6_awaiting, Cond.instanceMethod yX6_awaiting, Cond.selects RX6 yX6_awaiting yX6_awaiting, Cond.code yX6_awaiting cX6_awaiting 4 (some (.object "SharedRegisters$Request")), Cond.instanceMethod yX3_hasAnswer, Cond.selects RX3 yX3_hasAnswer yX3_hasAnswer, Cond.code yX3_hasAnswer cX3_hasAnswer 2 (some .boolean), Cond.instanceMethod yX3_hearState, Cond.selects RX3 yX3_hearState yX3_hearState, Cond.code yX3_hearState cX3_hearState 3 none, Cond.instanceMethod yX3_countAnswer, Cond.selects RX3 yX3_countAnswer yX3_countAnswer]
def wsL_law0_r12 : List Cond := [Cond.code yX3_countAnswer cX3_countAnswer 2 none, Cond.instanceMethod yX3_answers, Cond.selects RX3 yX3_answers yX3_answers, Cond.code yX3_answers cX3_answers 1 (some .int), Cond.methodLink RX3 73 yJ6_bitCount_0f7a4, Cond.instanceMethod yX3_beginAccepting, Cond.selects RX3 yX3_beginAccepting yX3_beginAccepting, Cond.code yX3_beginAccepting cX3_beginAccepting 1 none, Cond.instanceMethod yX5_fails, Cond.selects RX5 yX5_fails yX5_fails, Cond.code yX5_fails cX5_fails 4 (some .boolean), Cond.instanceMethod yX5_changed, Cond.selects RX5 yX5_changed yX5_changed, Cond.code yX5_changed cX5_changed 4 (some (.object "SharedRegisters$State")), Cond.classLink RX5 10 RX5, Cond.methodLink RX5 23 yX5_fails, Cond.methodLink RX5 27 yX5_next, Cond.instanceMethod yX5_next, Cond.selects RX5 yX5_next yX5_next, Cond.code yX5_next cX5_next 3 (some (.object "SharedRegisters$State")), Cond.methodLink RX5 31 yX5_init, Cond.methodLink RX6 207 yX6_takeAccept, Cond.instanceMethod yX6_takeAccept, Cond.selects RX6 yX6_takeAccept yX6_takeAccept]
def wsL_law0_r13 : List Cond := [Cond.code yX6_takeAccept cX6_takeAccept 3 none, Cond.instanceMethod yX2_accept, Cond.selects RX2 yX2_accept yX2_accept, Cond.code yX2_accept cX2_accept 3 none, Cond.methodLink RX6 210 yX6_takeTaken, Cond.instanceMethod yX6_takeTaken, Cond.selects RX6 yX6_takeTaken yX6_takeTaken, Cond.code yX6_takeTaken cX6_takeTaken 3 none, Cond.methodLink RX6 213 yX6_takeRefused, Cond.instanceMethod yX6_takeRefused, Cond.selects RX6 yX6_takeRefused yX6_takeRefused, Cond.code yX6_takeRefused cX6_takeRefused 3 none, Cond.methodLink RX6 249 Lib.Math.max.name, Cond.methodLink RL 92 yX7_take, Cond.instanceMethod yX7_take, Cond.selects RX7 yX7_take yX7_take, Cond.code yX7_take cX7_take 2 (some .int), Cond.methodLink RX7 176 yX7_noMessage, Cond.instanceMethod yX7_noMessage, Cond.selects RX7 yX7_noMessage yX7_noMessage, Cond.code yX7_noMessage cX7_noMessage 2 (some .boolean), Cond.methodLink RX7 179 yX7_takeOne, Cond.instanceMethod yX7_takeOne, Cond.selects RX7 yX7_takeOne yX7_takeOne]
def wsL_law0_r14 : List Cond := [Cond.code yX7_takeOne cX7_takeOne 11 (some .int), Cond.methodLink RX7 156 yX7_drop, Cond.instanceMethod yX7_drop, Cond.selects RX7 yX7_drop yX7_drop, Cond.code yX7_drop cX7_drop 3 none, Cond.methodLink RX7 159 yX7_prepared, Cond.instanceMethod yX7_prepared, Cond.selects RX7 yX7_prepared yX7_prepared, Cond.code yX7_prepared cX7_prepared 6 none, Cond.methodLink RX7 149 yX7_refuse, Cond.instanceMethod yX7_refuse, Cond.selects RX7 yX7_refuse yX7_refuse, Cond.code yX7_refuse cX7_refuse 5 none, Cond.methodLink RX7 162 yX7_promised, Cond.instanceMethod yX7_promised, Cond.selects RX7 yX7_promised yX7_promised, Cond.code yX7_promised cX7_promised 10 none, Cond.methodLink RX7 153 yX7_work, Cond.instanceMethod yX7_work, Cond.selects RX7 yX7_work yX7_work, Cond.code yX7_work cX7_work 9 none, Cond.methodLink RX7 166 yX7_accept, Cond.instanceMethod yX7_accept, Cond.selects RX7 yX7_accept yX7_accept]
def wsL_law0_r15 : List Cond := [Cond.code yX7_accept cX7_accept 10 none, Cond.methodLink RX7 169 yX7_taken, Cond.instanceMethod yX7_taken, Cond.selects RX7 yX7_taken yX7_taken, Cond.code yX7_taken cX7_taken 4 none, Cond.methodLink RX7 173 yX7_refused, Cond.instanceMethod yX7_refused, Cond.selects RX7 yX7_refused yX7_refused, Cond.code yX7_refused cX7_refused 4 none, Cond.methodLink RL 93 yL_run, Cond.static yL_run, Cond.codeWith yL_run cL_run 4 (some .int) [(0, 9, 12, 15)], Cond.methodLink RL 28 yX6_run, Cond.instanceMethod yX6_run, Cond.selects RX6 yX6_run yX6_run, Cond.code yX6_run cX6_run 3 (some .int), Cond.methodLink RL 95 yX7_run, Cond.instanceMethod yX7_run, Cond.selects RX7 yX7_run yX7_run, Cond.code yX7_run cX7_run 4 (some .int), Cond.methodLink RL 96 yL_lose, Cond.static yL_lose, Cond.codeWith yL_lose cL_lose 4 (some .int) [(0, 9, 12, 13)], Cond.methodLink RL 31 yX6_lose]
def wsL_law0_r16 : List Cond := [Cond.instanceMethod yX6_lose, Cond.selects RX6 yX6_lose yX6_lose, Cond.code yX6_lose cX6_lose 2 (some .int), Cond.methodLink RL 98 yX7_lose, Cond.instanceMethod yX7_lose, Cond.selects RX7 yX7_lose yX7_lose, Cond.code yX7_lose cX7_lose 3 (some .int), Cond.methodLink RL 99 yL_twice, Cond.static yL_twice, Cond.codeWith yL_twice cL_twice 4 (some .int) [(0, 9, 12, 13)], Cond.methodLink RL 34 yX6_twice, Cond.instanceMethod yX6_twice, Cond.selects RX6 yX6_twice yX6_twice, Cond.code yX6_twice cX6_twice 3 (some .int), Cond.methodLink RL 101 yX7_twice, Cond.instanceMethod yX7_twice, Cond.selects RX7 yX7_twice yX7_twice, Cond.code yX7_twice cX7_twice 2 (some .int), Cond.methodLink RL 102 yL_down, Cond.static yL_down, Cond.codeWith yL_down cL_down 5 (some .int) [(0, 17, 20, 13)], Cond.methodLink RL 37 yX6_down, Cond.instanceMethod yX6_down, Cond.selects RX6 yX6_down yX6_down]
def wsL_law0_r17 : List Cond := [Cond.code yX6_down cX6_down 4 (some .boolean), Cond.methodLink RL 105 yX7_down, Cond.instanceMethod yX7_down, Cond.selects RX7 yX7_down yX7_down, Cond.code yX7_down cX7_down 4 (some .boolean), Cond.methodLink RX7 182 yX7_noKeeper, Cond.static yX7_noKeeper, Cond.code yX7_noKeeper cX7_noKeeper 1 (some .boolean), Cond.methodLink RL 106 yL_copy, Cond.static yL_copy, Cond.codeWith yL_copy cL_copy 5 (some .int) [(0, 10, 13, 13)], Cond.methodLink RL 41 yX6_copy, Cond.instanceMethod yX6_copy, Cond.selects RX6 yX6_copy yX6_copy, Cond.code yX6_copy cX6_copy 5 (some .int), Cond.instanceMethod yX2_catchUp, Cond.selects RX2 yX2_catchUp yX2_catchUp, Cond.code yX2_catchUp cX2_catchUp 2 (some .boolean), Cond.methodLink RL 109 yX7_copy, Cond.instanceMethod yX7_copy, Cond.selects RX7 yX7_copy yX7_copy, Cond.code yX7_copy cX7_copy 7 (some .int), Cond.methodLink RL 110 yX6_messages, Cond.instanceMethod yX6_messages]
def wsL_law0_r18 : List Cond := [Cond.selects RX6 yX6_messages yX6_messages, Cond.code yX6_messages cX6_messages 1 (some .int), Cond.methodLink RL 113 yX7_messages, Cond.instanceMethod yX7_messages, Cond.selects RX7 yX7_messages yX7_messages, Cond.code yX7_messages cX7_messages 1 (some .int), Cond.methodLink RL 114 yL_message, Cond.static yL_message, Cond.codeWith yL_message cL_message 5 (some .int) [(0, 10, 13, 13)], Cond.methodLink RL 45 yX6_message, Cond.instanceMethod yX6_message, Cond.selects RX6 yX6_message yX6_message, Cond.code yX6_message cX6_message 4 (some .int), Cond.instanceMethod yX5_versionOrNone, Cond.selects RX5 yX5_versionOrNone yX5_versionOrNone, Cond.code yX5_versionOrNone cX5_versionOrNone 1 (some .int), Cond.methodLink RL 116 yX7_message, Cond.instanceMethod yX7_message, Cond.selects RX7 yX7_message yX7_message, Cond.code yX7_message cX7_message 3 (some .int), Cond.methodLink RL 117 yL_keeper, Cond.static yL_keeper, Cond.codeWith yL_keeper cL_keeper 6 (some .int) [(0, 12, 15, 13)], Cond.methodLink RL 48 yX6_keeper]
def wsL_law0_r19 : List Cond := [Cond.instanceMethod yX6_keeper, Cond.selects RX6 yX6_keeper yX6_keeper, Cond.code yX6_keeper cX6_keeper 5 (some .int), Cond.methodLink RL 120 yX7_keeper, Cond.instanceMethod yX7_keeper, Cond.selects RX7 yX7_keeper yX7_keeper, Cond.code yX7_keeper cX7_keeper 5 (some .int), Cond.methodLink RL 121 yL_kept, Cond.static yL_kept, Cond.codeWith yL_kept cL_kept 5 (some .int) [(0, 9, 12, 13)], Cond.methodLink RL 52 yX6_kept, Cond.instanceMethod yX6_kept, Cond.selects RX6 yX6_kept yX6_kept, Cond.code yX6_kept cX6_kept 3 (some .long), Cond.methodLink RL 123 yX7_kept, Cond.instanceMethod yX7_kept, Cond.selects RX7 yX7_kept yX7_kept, Cond.code yX7_kept cX7_kept 4 (some .long), Cond.methodLink RL 124 yL_asker, Cond.static yL_asker, Cond.codeWith yL_asker cL_asker 5 (some .int) [(0, 10, 13, 13)], Cond.methodLink RL 56 yX6_asker, Cond.instanceMethod yX6_asker, Cond.selects RX6 yX6_asker yX6_asker]
def wsL_law0_r20 : List Cond := [Cond.code yX6_asker cX6_asker 4 (some .int), Cond.methodLink RL 126 yX7_asker, Cond.instanceMethod yX7_asker, Cond.selects RX7 yX7_asker yX7_asker, Cond.code yX7_asker cX7_asker 4 (some .int), Cond.methodLink RL 127 yL_request, Cond.static yL_request, Cond.codeWith yL_request cL_request 5 (some .int) [(0, 10, 13, 13)], Cond.methodLink RL 59 yX6_request, Cond.instanceMethod yX6_request, Cond.selects RX6 yX6_request yX6_request, Cond.code yX6_request cX6_request 4 (some .int), Cond.methodLink RX6 179 yX6_requestAt, Cond.instanceMethod yX6_requestAt, Cond.selects RX6 yX6_requestAt yX6_requestAt, Cond.code yX6_requestAt cX6_requestAt 3 (some (.object "SharedRegisters$Request")), Cond.methodLink RL 129 yX7_request, Cond.instanceMethod yX7_request, Cond.selects RX7 yX7_request yX7_request, Cond.code yX7_request cX7_request 4 (some .int), Cond.methodLink RX7 185 yX7_noRequest, Cond.instanceMethod yX7_noRequest, Cond.selects RX7 yX7_noRequest yX7_noRequest, Cond.code yX7_noRequest cX7_noRequest 2 (some .boolean)]
def wsL_law0_r21 : List Cond := [Cond.methodLink RL 130 yL_result, Cond.static yL_result, Cond.codeWith yL_result cL_result 4 (some .int) [(0, 8, 11, 13)], Cond.methodLink RL 62 yX6_result, Cond.instanceMethod yX6_result, Cond.selects RX6 yX6_result yX6_result, Cond.code yX6_result cX6_result 3 (some .long), Cond.methodLink RL 132 yX7_result, Cond.instanceMethod yX7_result, Cond.selects RX7 yX7_result yX7_result, Cond.code yX7_result cX7_result 2 (some .long)]
def wsL_law0 : List Cond := (wsL_law0_r1 ++ (wsL_law0_r2 ++ (wsL_law0_r3 ++ (wsL_law0_r4 ++ (wsL_law0_r5 ++ (wsL_law0_r6 ++ (wsL_law0_r7 ++ (wsL_law0_r8 ++ (wsL_law0_r9 ++ (wsL_law0_r10 ++ (wsL_law0_r11 ++ (wsL_law0_r12 ++ (wsL_law0_r13 ++ (wsL_law0_r14 ++ (wsL_law0_r15 ++ (wsL_law0_r16 ++ (wsL_law0_r17 ++ (wsL_law0_r18 ++ (wsL_law0_r19 ++ (wsL_law0_r20 ++ wsL_law0_r21)))))))))))))))))))) ++ wsX60 ++ wsX70 ++ wsX50 ++ wsX20 ++ wsX00 ++ wsX40 ++ wsX10 ++ wsX30 ++ ([] : List Cond)
def wsL_law : List Cond := wsL_law0 ++ (vx_atS RX6 156 "java/lang/IndexOutOfBoundsException" ["java/lang/RuntimeException", "java/lang/Exception"]).filter goodWord ++ (vx_atS RX6 199 "java/lang/IllegalArgumentException" ["java/lang/RuntimeException", "java/lang/Exception"]).filter goodWord
set_option maxRecDepth 20000 in
theorem inlX0 : ∀ w ∈ wsX00, w ∈ wsL_law := fun _ h => List.mem_append_left _ (List.mem_append_left _ (List.mem_append_left _ (List.mem_append_left _ (List.mem_append_left _ (List.mem_append_left _ (List.mem_append_right _ h))))))
theorem inlX1 : ∀ w ∈ wsX10, w ∈ wsL_law := fun _ h => List.mem_append_left _ (List.mem_append_left _ (List.mem_append_left _ (List.mem_append_left _ (List.mem_append_right _ h))))
theorem inlX2 : ∀ w ∈ wsX20, w ∈ wsL_law := fun _ h => List.mem_append_left _ (List.mem_append_left _ (List.mem_append_left _ (List.mem_append_left _ (List.mem_append_left _ (List.mem_append_left _ (List.mem_append_left _ (List.mem_append_right _ h)))))))
theorem inlX3 : ∀ w ∈ wsX30, w ∈ wsL_law := fun _ h => List.mem_append_left _ (List.mem_append_left _ (List.mem_append_left _ (List.mem_append_right _ h)))
theorem inlX4 : ∀ w ∈ wsX40, w ∈ wsL_law := fun _ h => List.mem_append_left _ (List.mem_append_left _ (List.mem_append_left _ (List.mem_append_left _ (List.mem_append_left _ (List.mem_append_right _ h)))))
theorem inlX5 : ∀ w ∈ wsX50, w ∈ wsL_law := fun _ h => List.mem_append_left _ (List.mem_append_left _ (List.mem_append_left _ (List.mem_append_left _ (List.mem_append_left _ (List.mem_append_left _ (List.mem_append_left _ (List.mem_append_left _ (List.mem_append_right _ h))))))))
theorem inlX6 : ∀ w ∈ wsX60, w ∈ wsL_law := fun _ h => List.mem_append_left _ (List.mem_append_left _ (List.mem_append_left _ (List.mem_append_left _ (List.mem_append_left _ (List.mem_append_left _ (List.mem_append_left _ (List.mem_append_left _ (List.mem_append_left _ (List.mem_append_left _ (List.mem_append_right _ h))))))))))
theorem inlX7 : ∀ w ∈ wsX70, w ∈ wsL_law := fun _ h => List.mem_append_left _ (List.mem_append_left _ (List.mem_append_left _ (List.mem_append_left _ (List.mem_append_left _ (List.mem_append_left _ (List.mem_append_left _ (List.mem_append_left _ (List.mem_append_left _ (List.mem_append_right _ h)))))))))
theorem inJ6 : ∀ w ∈ wsJ60, w ∈ lw_tbl := by decide +kernel
theorem inJ9 : ∀ w ∈ wsJ90, w ∈ lw_tbl := by decide +kernel
theorem inJ0 : ∀ w ∈ wsJ00, w ∈ lw_tbl := by decide +kernel
abbrev vwCl : List vw_C := [(RX0, TX0, 5), (RX1, TX1, 7), (RX2, TX2, 3), (RX3, TX3, 15), (RX4, TX4, 2), (RX5, TX5, 3), (RX6, TX6, 7), (RX7, TX7, 39)]
end
section
theorem dX0_init_0 : decode cX0_init 0 = .ok (.aload_n 0, 1) := by decide +kernel
theorem dX0_init_1 : decode cX0_init 1 = .ok (.invokespecial 3, 3) := by decide +kernel
theorem dX0_init_4 : decode cX0_init 4 = .ok (.aload_n 0, 1) := by decide +kernel
theorem dX0_init_5 : decode cX0_init 5 = .ok (.iload_n 1, 1) := by decide +kernel
theorem dX0_init_6 : decode cX0_init 6 = .ok (.putfield 9, 3) := by decide +kernel
theorem dX0_init_9 : decode cX0_init 9 = .ok (.aload_n 0, 1) := by decide +kernel
theorem dX0_init_10 : decode cX0_init 10 = .ok (.iconst 2, 1) := by decide +kernel
theorem dX0_init_11 : decode cX0_init 11 = .ok (.newarray .int, 2) := by decide +kernel
theorem dX0_init_13 : decode cX0_init 13 = .ok (.dup, 1) := by decide +kernel
theorem dX0_init_14 : decode cX0_init 14 = .ok (.iconst 0, 1) := by decide +kernel
theorem dX0_init_15 : decode cX0_init 15 = .ok (.bipush 7, 2) := by decide +kernel
theorem dX0_init_17 : decode cX0_init 17 = .ok (.iastore, 1) := by decide +kernel
theorem dX0_init_18 : decode cX0_init 18 = .ok (.dup, 1) := by decide +kernel
theorem dX0_init_19 : decode cX0_init 19 = .ok (.iconst 1, 1) := by decide +kernel
theorem dX0_init_20 : decode cX0_init 20 = .ok (.bipush 7, 2) := by decide +kernel
theorem dX0_init_22 : decode cX0_init 22 = .ok (.iastore, 1) := by decide +kernel
theorem dX0_init_23 : decode cX0_init 23 = .ok (.putfield 15, 3) := by decide +kernel
theorem dX0_init_26 : decode cX0_init 26 = .ok (.aload_n 0, 1) := by decide +kernel
theorem dX0_init_27 : decode cX0_init 27 = .ok (.iconst 2, 1) := by decide +kernel
theorem dX0_init_28 : decode cX0_init 28 = .ok (.newarray .int, 2) := by decide +kernel
theorem dX0_init_30 : decode cX0_init 30 = .ok (.dup, 1) := by decide +kernel
theorem dX0_init_31 : decode cX0_init 31 = .ok (.iconst 0, 1) := by decide +kernel
theorem dX0_init_32 : decode cX0_init 32 = .ok (.iconst 2, 1) := by decide +kernel
theorem dX0_init_33 : decode cX0_init 33 = .ok (.iastore, 1) := by decide +kernel
theorem dX0_init_34 : decode cX0_init 34 = .ok (.dup, 1) := by decide +kernel
theorem dX0_init_35 : decode cX0_init 35 = .ok (.iconst 1, 1) := by decide +kernel
theorem dX0_init_36 : decode cX0_init 36 = .ok (.iconst 2, 1) := by decide +kernel
theorem dX0_init_37 : decode cX0_init 37 = .ok (.iastore, 1) := by decide +kernel
theorem dX0_init_38 : decode cX0_init 38 = .ok (.putfield 19, 3) := by decide +kernel
theorem dX0_init_41 : decode cX0_init 41 = .ok (.aload_n 0, 1) := by decide +kernel
theorem dX0_init_42 : decode cX0_init 42 = .ok (.iconst 0, 1) := by decide +kernel
theorem dX0_init_43 : decode cX0_init 43 = .ok (.putfield 22, 3) := by decide +kernel
theorem dX0_init_46 : decode cX0_init 46 = .ok (.aload_n 0, 1) := by decide +kernel
theorem dX0_init_47 : decode cX0_init 47 = .ok (.aconst_null, 1) := by decide +kernel
theorem dX0_init_48 : decode cX0_init 48 = .ok (.putfield 25, 3) := by decide +kernel
theorem dX0_init_51 : decode cX0_init 51 = .ok (.return_, 1) := by decide +kernel
theorem dX1_init_0 : decode cX1_init 0 = .ok (.aload_n 0, 1) := by decide +kernel
theorem dX1_init_1 : decode cX1_init 1 = .ok (.invokespecial 1, 3) := by decide +kernel
theorem dX1_init_4 : decode cX1_init 4 = .ok (.aload_n 0, 1) := by decide +kernel
theorem dX1_init_5 : decode cX1_init 5 = .ok (.aload_n 1, 1) := by decide +kernel
theorem dX1_init_6 : decode cX1_init 6 = .ok (.putfield 7, 3) := by decide +kernel
theorem dX1_init_9 : decode cX1_init 9 = .ok (.return_, 1) := by decide +kernel
theorem dX2_init_0 : decode cX2_init 0 = .ok (.aload_n 0, 1) := by decide +kernel
theorem dX2_init_1 : decode cX2_init 1 = .ok (.invokespecial 1, 3) := by decide +kernel
theorem dX2_init_4 : decode cX2_init 4 = .ok (.aload_n 0, 1) := by decide +kernel
theorem dX2_init_5 : decode cX2_init 5 = .ok (.iconst 0, 1) := by decide +kernel
theorem dX2_init_6 : decode cX2_init 6 = .ok (.putfield 7, 3) := by decide +kernel
theorem dX2_init_9 : decode cX2_init 9 = .ok (.aload_n 0, 1) := by decide +kernel
theorem dX2_init_10 : decode cX2_init 10 = .ok (.iconst 0, 1) := by decide +kernel
theorem dX2_init_11 : decode cX2_init 11 = .ok (.putfield 13, 3) := by decide +kernel
theorem dX2_init_14 : decode cX2_init 14 = .ok (.aload_n 0, 1) := by decide +kernel
theorem dX2_init_15 : decode cX2_init 15 = .ok (.aload_n 1, 1) := by decide +kernel
theorem dX2_init_16 : decode cX2_init 16 = .ok (.putfield 16, 3) := by decide +kernel
theorem dX2_init_19 : decode cX2_init 19 = .ok (.return_, 1) := by decide +kernel
theorem dX2_greaterBallot_0 : decode cX2_greaterBallot 0 = .ok (.aload_n 0, 1) := by decide +kernel
theorem dX2_greaterBallot_1 : decode cX2_greaterBallot 1 = .ok (.getfield 7, 3) := by decide +kernel
theorem dX2_greaterBallot_4 : decode cX2_greaterBallot 4 = .ok (.aload_n 0, 1) := by decide +kernel
theorem dX2_greaterBallot_5 : decode cX2_greaterBallot 5 = .ok (.getfield 13, 3) := by decide +kernel
theorem dX2_greaterBallot_8 : decode cX2_greaterBallot 8 = .ok (.invokestatic 20, 3) := by decide +kernel
theorem dX2_greaterBallot_11 : decode cX2_greaterBallot 11 = .ok (.ireturn, 1) := by decide +kernel
theorem dX2_accept_0 : decode cX2_accept 0 = .ok (.aload_n 0, 1) := by decide +kernel
theorem dX2_accept_1 : decode cX2_accept 1 = .ok (.iload_n 1, 1) := by decide +kernel
theorem dX2_accept_2 : decode cX2_accept 2 = .ok (.putfield 13, 3) := by decide +kernel
theorem dX2_accept_5 : decode cX2_accept 5 = .ok (.aload_n 0, 1) := by decide +kernel
theorem dX2_accept_6 : decode cX2_accept 6 = .ok (.aload_n 2, 1) := by decide +kernel
theorem dX2_accept_7 : decode cX2_accept 7 = .ok (.putfield 16, 3) := by decide +kernel
theorem dX2_accept_10 : decode cX2_accept 10 = .ok (.aload_n 0, 1) := by decide +kernel
theorem dX2_accept_11 : decode cX2_accept 11 = .ok (.iconst 0, 1) := by decide +kernel
theorem dX2_accept_12 : decode cX2_accept 12 = .ok (.putfield 7, 3) := by decide +kernel
theorem dX2_accept_15 : decode cX2_accept 15 = .ok (.return_, 1) := by decide +kernel
theorem dX2_catchUp_0 : decode cX2_catchUp 0 = .ok (.aload_n 1, 1) := by decide +kernel
theorem dX2_catchUp_1 : decode cX2_catchUp 1 = .ok (.getfield 13, 3) := by decide +kernel
theorem dX2_catchUp_4 : decode cX2_catchUp 4 = .ok (.aload_n 0, 1) := by decide +kernel
theorem dX2_catchUp_5 : decode cX2_catchUp 5 = .ok (.getfield 13, 3) := by decide +kernel
theorem dX2_catchUp_8 : decode cX2_catchUp 8 = .ok (.if_icmp .gt 5, 3) := by decide +kernel
theorem dX2_catchUp_11 : decode cX2_catchUp 11 = .ok (.iconst 0, 1) := by decide +kernel
theorem dX2_catchUp_12 : decode cX2_catchUp 12 = .ok (.ireturn, 1) := by decide +kernel
theorem dX2_catchUp_13 : decode cX2_catchUp 13 = .ok (.aload_n 0, 1) := by decide +kernel
theorem dX2_catchUp_14 : decode cX2_catchUp 14 = .ok (.aload_n 1, 1) := by decide +kernel
theorem dX2_catchUp_15 : decode cX2_catchUp 15 = .ok (.getfield 13, 3) := by decide +kernel
theorem dX2_catchUp_18 : decode cX2_catchUp 18 = .ok (.putfield 13, 3) := by decide +kernel
theorem dX2_catchUp_21 : decode cX2_catchUp 21 = .ok (.aload_n 0, 1) := by decide +kernel
theorem dX2_catchUp_22 : decode cX2_catchUp 22 = .ok (.aload_n 1, 1) := by decide +kernel
theorem dX2_catchUp_23 : decode cX2_catchUp 23 = .ok (.getfield 16, 3) := by decide +kernel
theorem dX2_catchUp_26 : decode cX2_catchUp 26 = .ok (.putfield 16, 3) := by decide +kernel
theorem dX2_catchUp_29 : decode cX2_catchUp 29 = .ok (.aload_n 0, 1) := by decide +kernel
theorem dX2_catchUp_30 : decode cX2_catchUp 30 = .ok (.aload_n 0, 1) := by decide +kernel
theorem dX2_catchUp_31 : decode cX2_catchUp 31 = .ok (.getfield 7, 3) := by decide +kernel
theorem dX2_catchUp_34 : decode cX2_catchUp 34 = .ok (.aload_n 1, 1) := by decide +kernel
theorem dX2_catchUp_35 : decode cX2_catchUp 35 = .ok (.getfield 7, 3) := by decide +kernel
theorem dX2_catchUp_38 : decode cX2_catchUp 38 = .ok (.invokestatic 20, 3) := by decide +kernel
theorem dX2_catchUp_41 : decode cX2_catchUp 41 = .ok (.putfield 7, 3) := by decide +kernel
theorem dX2_catchUp_44 : decode cX2_catchUp 44 = .ok (.iconst 1, 1) := by decide +kernel
theorem dX2_catchUp_45 : decode cX2_catchUp 45 = .ok (.ireturn, 1) := by decide +kernel
theorem dX3_init_0 : decode cX3_init 0 = .ok (.aload_n 0, 1) := by decide +kernel
theorem dX3_init_1 : decode cX3_init 1 = .ok (.invokespecial 3, 3) := by decide +kernel
theorem dX3_init_4 : decode cX3_init 4 = .ok (.aload_n 0, 1) := by decide +kernel
theorem dX3_init_5 : decode cX3_init 5 = .ok (.iload_n 1, 1) := by decide +kernel
theorem dX3_init_6 : decode cX3_init 6 = .ok (.putfield 9, 3) := by decide +kernel
theorem dX3_init_9 : decode cX3_init 9 = .ok (.aload_n 0, 1) := by decide +kernel
theorem dX3_init_10 : decode cX3_init 10 = .ok (.aload_n 2, 1) := by decide +kernel
theorem dX3_init_11 : decode cX3_init 11 = .ok (.getfield 15, 3) := by decide +kernel
theorem dX3_init_14 : decode cX3_init 14 = .ok (.putfield 18, 3) := by decide +kernel
theorem dX3_init_17 : decode cX3_init 17 = .ok (.aload_n 0, 1) := by decide +kernel
theorem dX3_init_18 : decode cX3_init 18 = .ok (.iload_n 3, 1) := by decide +kernel
theorem dX3_init_19 : decode cX3_init 19 = .ok (.putfield 21, 3) := by decide +kernel
theorem dX3_init_22 : decode cX3_init 22 = .ok (.aload_n 0, 1) := by decide +kernel
theorem dX3_init_23 : decode cX3_init 23 = .ok (.iload 4, 2) := by decide +kernel
theorem dX3_init_25 : decode cX3_init 25 = .ok (.putfield 24, 3) := by decide +kernel
theorem dX3_init_28 : decode cX3_init 28 = .ok (.aload_n 0, 1) := by decide +kernel
theorem dX3_init_29 : decode cX3_init 29 = .ok (.lload 5, 2) := by decide +kernel
theorem dX3_init_31 : decode cX3_init 31 = .ok (.putfield 27, 3) := by decide +kernel
theorem dX3_init_34 : decode cX3_init 34 = .ok (.aload_n 0, 1) := by decide +kernel
theorem dX3_init_35 : decode cX3_init 35 = .ok (.iconst 4, 1) := by decide +kernel
theorem dX3_init_36 : decode cX3_init 36 = .ok (.aload_n 2, 1) := by decide +kernel
theorem dX3_init_37 : decode cX3_init 37 = .ok (.getfield 31, 3) := by decide +kernel
theorem dX3_init_40 : decode cX3_init 40 = .ok (.imul, 1) := by decide +kernel
theorem dX3_init_41 : decode cX3_init 41 = .ok (.aload_n 2, 1) := by decide +kernel
theorem dX3_init_42 : decode cX3_init 42 = .ok (.getfield 15, 3) := by decide +kernel
theorem dX3_init_45 : decode cX3_init 45 = .ok (.iadd, 1) := by decide +kernel
theorem dX3_init_46 : decode cX3_init 46 = .ok (.putfield 34, 3) := by decide +kernel
theorem dX3_init_49 : decode cX3_init 49 = .ok (.aload_n 0, 1) := by decide +kernel
theorem dX3_init_50 : decode cX3_init 50 = .ok (.aload_n 2, 1) := by decide +kernel
theorem dX3_init_51 : decode cX3_init 51 = .ok (.getfield 37, 3) := by decide +kernel
theorem dX3_init_54 : decode cX3_init 54 = .ok (.iconst 0, 1) := by decide +kernel
theorem dX3_init_55 : decode cX3_init 55 = .ok (.iaload, 1) := by decide +kernel
theorem dX3_init_56 : decode cX3_init 56 = .ok (.putfield 41, 3) := by decide +kernel
theorem dX3_init_59 : decode cX3_init 59 = .ok (.aload_n 0, 1) := by decide +kernel
theorem dX3_init_60 : decode cX3_init 60 = .ok (.aload_n 2, 1) := by decide +kernel
theorem dX3_init_61 : decode cX3_init 61 = .ok (.getfield 44, 3) := by decide +kernel
theorem dX3_init_64 : decode cX3_init 64 = .ok (.iconst 1, 1) := by decide +kernel
theorem dX3_init_65 : decode cX3_init 65 = .ok (.iaload, 1) := by decide +kernel
theorem dX3_init_66 : decode cX3_init 66 = .ok (.putfield 47, 3) := by decide +kernel
theorem dX3_init_69 : decode cX3_init 69 = .ok (.aload_n 0, 1) := by decide +kernel
theorem dX3_init_70 : decode cX3_init 70 = .ok (.aload_n 2, 1) := by decide +kernel
theorem dX3_init_71 : decode cX3_init 71 = .ok (.getfield 37, 3) := by decide +kernel
theorem dX3_init_74 : decode cX3_init 74 = .ok (.iconst 1, 1) := by decide +kernel
theorem dX3_init_75 : decode cX3_init 75 = .ok (.iaload, 1) := by decide +kernel
theorem dX3_init_76 : decode cX3_init 76 = .ok (.putfield 50, 3) := by decide +kernel
theorem dX3_init_79 : decode cX3_init 79 = .ok (.aload_n 0, 1) := by decide +kernel
theorem dX3_init_80 : decode cX3_init 80 = .ok (.iconst 0, 1) := by decide +kernel
theorem dX3_init_81 : decode cX3_init 81 = .ok (.putfield 53, 3) := by decide +kernel
theorem dX3_init_84 : decode cX3_init 84 = .ok (.aload_n 0, 1) := by decide +kernel
theorem dX3_init_85 : decode cX3_init 85 = .ok (.iconst 0, 1) := by decide +kernel
theorem dX3_init_86 : decode cX3_init 86 = .ok (.putfield 57, 3) := by decide +kernel
theorem dX3_init_89 : decode cX3_init 89 = .ok (.aload_n 0, 1) := by decide +kernel
theorem dX3_init_90 : decode cX3_init 90 = .ok (.iconst 0, 1) := by decide +kernel
theorem dX3_init_91 : decode cX3_init 91 = .ok (.putfield 60, 3) := by decide +kernel
theorem dX3_init_94 : decode cX3_init 94 = .ok (.aload_n 0, 1) := by decide +kernel
theorem dX3_init_95 : decode cX3_init 95 = .ok (.aload 7, 2) := by decide +kernel
theorem dX3_init_97 : decode cX3_init 97 = .ok (.putfield 63, 3) := by decide +kernel
theorem dX3_init_100 : decode cX3_init 100 = .ok (.aload_n 0, 1) := by decide +kernel
theorem dX3_init_101 : decode cX3_init 101 = .ok (.iconst 0, 1) := by decide +kernel
theorem dX3_init_102 : decode cX3_init 102 = .ok (.putfield 67, 3) := by decide +kernel
theorem dX3_init_105 : decode cX3_init 105 = .ok (.aload_n 0, 1) := by decide +kernel
theorem dX3_init_106 : decode cX3_init 106 = .ok (.iconst 0, 1) := by decide +kernel
theorem dX3_init_107 : decode cX3_init 107 = .ok (.putfield 70, 3) := by decide +kernel
theorem dX3_init_110 : decode cX3_init 110 = .ok (.return_, 1) := by decide +kernel
theorem dX3_hasAnswer_0 : decode cX3_hasAnswer 0 = .ok (.aload_n 0, 1) := by decide +kernel
theorem dX3_hasAnswer_1 : decode cX3_hasAnswer 1 = .ok (.getfield 57, 3) := by decide +kernel
theorem dX3_hasAnswer_4 : decode cX3_hasAnswer 4 = .ok (.iconst 1, 1) := by decide +kernel
theorem dX3_hasAnswer_5 : decode cX3_hasAnswer 5 = .ok (.iload_n 1, 1) := by decide +kernel
theorem dX3_hasAnswer_6 : decode cX3_hasAnswer 6 = .ok (.ishl, 1) := by decide +kernel
theorem dX3_hasAnswer_7 : decode cX3_hasAnswer 7 = .ok (.iand, 1) := by decide +kernel
theorem dX3_hasAnswer_8 : decode cX3_hasAnswer 8 = .ok (.ifCond .eq 7, 3) := by decide +kernel
theorem dX3_hasAnswer_11 : decode cX3_hasAnswer 11 = .ok (.iconst 1, 1) := by decide +kernel
theorem dX3_hasAnswer_12 : decode cX3_hasAnswer 12 = .ok (.goto 4, 3) := by decide +kernel
theorem dX3_hasAnswer_15 : decode cX3_hasAnswer 15 = .ok (.iconst 0, 1) := by decide +kernel
theorem dX3_hasAnswer_16 : decode cX3_hasAnswer 16 = .ok (.ireturn, 1) := by decide +kernel
theorem dX3_countAnswer_0 : decode cX3_countAnswer 0 = .ok (.aload_n 0, 1) := by decide +kernel
theorem dX3_countAnswer_1 : decode cX3_countAnswer 1 = .ok (.dup, 1) := by decide +kernel
theorem dX3_countAnswer_2 : decode cX3_countAnswer 2 = .ok (.getfield 57, 3) := by decide +kernel
theorem dX3_countAnswer_5 : decode cX3_countAnswer 5 = .ok (.iconst 1, 1) := by decide +kernel
theorem dX3_countAnswer_6 : decode cX3_countAnswer 6 = .ok (.iload_n 1, 1) := by decide +kernel
theorem dX3_countAnswer_7 : decode cX3_countAnswer 7 = .ok (.ishl, 1) := by decide +kernel
theorem dX3_countAnswer_8 : decode cX3_countAnswer 8 = .ok (.ior, 1) := by decide +kernel
theorem dX3_countAnswer_9 : decode cX3_countAnswer 9 = .ok (.putfield 57, 3) := by decide +kernel
theorem dX3_countAnswer_12 : decode cX3_countAnswer 12 = .ok (.return_, 1) := by decide +kernel
set_option maxRecDepth 20000 in
theorem ggX3_answers_J6_bitCount_0f7a4 : GoodIn wsX3_answers wsJ6_bitCount_0f7a4 := goodIn_r _ [5, 6, 7, 8] (by decide +kernel) (by decide +kernel)
set_option maxRecDepth 20000 in
theorem gX3_answers_J6_bitCount_0f7a4 : GoodIn wsX3_answers (va_wsS RX3 73 yJ6_bitCount_0f7a4 wsJ6_bitCount_0f7a4) := goodIn_app (goodIn_of _ (by decide +kernel)) ggX3_answers_J6_bitCount_0f7a4
theorem dX3_answers_0 : decode cX3_answers 0 = .ok (.aload_n 0, 1) := by decide +kernel
theorem dX3_answers_1 : decode cX3_answers 1 = .ok (.getfield 57, 3) := by decide +kernel
theorem dX3_answers_4 : decode cX3_answers 4 = .ok (.invokestatic 73, 3) := by decide +kernel
theorem dX3_answers_7 : decode cX3_answers 7 = .ok (.ireturn, 1) := by decide +kernel
theorem dX3_hearState_0 : decode cX3_hearState 0 = .ok (.iload_n 1, 1) := by decide +kernel
theorem dX3_hearState_1 : decode cX3_hearState 1 = .ok (.aload_n 0, 1) := by decide +kernel
theorem dX3_hearState_2 : decode cX3_hearState 2 = .ok (.getfield 60, 3) := by decide +kernel
theorem dX3_hearState_5 : decode cX3_hearState 5 = .ok (.if_icmp .le 13, 3) := by decide +kernel
theorem dX3_hearState_8 : decode cX3_hearState 8 = .ok (.aload_n 0, 1) := by decide +kernel
theorem dX3_hearState_9 : decode cX3_hearState 9 = .ok (.iload_n 1, 1) := by decide +kernel
theorem dX3_hearState_10 : decode cX3_hearState 10 = .ok (.putfield 60, 3) := by decide +kernel
theorem dX3_hearState_13 : decode cX3_hearState 13 = .ok (.aload_n 0, 1) := by decide +kernel
theorem dX3_hearState_14 : decode cX3_hearState 14 = .ok (.aload_n 2, 1) := by decide +kernel
theorem dX3_hearState_15 : decode cX3_hearState 15 = .ok (.putfield 63, 3) := by decide +kernel
theorem dX3_hearState_18 : decode cX3_hearState 18 = .ok (.return_, 1) := by decide +kernel
set_option maxRecDepth 20000 in
theorem ggX3_beginAccepting_X5_fails : GoodIn wsX3_beginAccepting wsX5_fails := goodIn_r _ [10, 11, 12, 13, 45, 46, 47] (by decide +kernel) (by decide +kernel)
set_option maxRecDepth 20000 in
theorem gX3_beginAccepting_X5_fails_n79 : GoodIn wsX3_beginAccepting (wsX5_fails) := ggX3_beginAccepting_X5_fails
set_option maxRecDepth 20000 in
theorem ggX3_beginAccepting_X5_changed : GoodIn wsX3_beginAccepting wsX5_changed := goodIn_r _ [16, 13, 17, 18, 8, 19, 7, 9, 10, 11, 12, 20, 21, 22, 23, 24, 25, 26, 27, 28, 29, 45, 46, 47] (by decide +kernel) (by decide +kernel)
set_option maxRecDepth 20000 in
theorem gX3_beginAccepting_X5_changed_n85 : GoodIn wsX3_beginAccepting (wsX5_changed) := ggX3_beginAccepting_X5_changed
theorem dX3_beginAccepting_0 : decode cX3_beginAccepting 0 = .ok (.aload_n 0, 1) := by decide +kernel
theorem dX3_beginAccepting_1 : decode cX3_beginAccepting 1 = .ok (.aload_n 0, 1) := by decide +kernel
theorem dX3_beginAccepting_2 : decode cX3_beginAccepting 2 = .ok (.getfield 63, 3) := by decide +kernel
theorem dX3_beginAccepting_5 : decode cX3_beginAccepting 5 = .ok (.aload_n 0, 1) := by decide +kernel
theorem dX3_beginAccepting_6 : decode cX3_beginAccepting 6 = .ok (.getfield 24, 3) := by decide +kernel
theorem dX3_beginAccepting_9 : decode cX3_beginAccepting 9 = .ok (.aload_n 0, 1) := by decide +kernel
theorem dX3_beginAccepting_10 : decode cX3_beginAccepting 10 = .ok (.getfield 27, 3) := by decide +kernel
theorem dX3_beginAccepting_13 : decode cX3_beginAccepting 13 = .ok (.invokevirtual 79, 3) := by decide +kernel
theorem dX3_beginAccepting_16 : decode cX3_beginAccepting 16 = .ok (.putfield 67, 3) := by decide +kernel
theorem dX3_beginAccepting_19 : decode cX3_beginAccepting 19 = .ok (.aload_n 0, 1) := by decide +kernel
theorem dX3_beginAccepting_20 : decode cX3_beginAccepting 20 = .ok (.aload_n 0, 1) := by decide +kernel
theorem dX3_beginAccepting_21 : decode cX3_beginAccepting 21 = .ok (.getfield 63, 3) := by decide +kernel
theorem dX3_beginAccepting_24 : decode cX3_beginAccepting 24 = .ok (.aload_n 0, 1) := by decide +kernel
theorem dX3_beginAccepting_25 : decode cX3_beginAccepting 25 = .ok (.getfield 24, 3) := by decide +kernel
theorem dX3_beginAccepting_28 : decode cX3_beginAccepting 28 = .ok (.aload_n 0, 1) := by decide +kernel
theorem dX3_beginAccepting_29 : decode cX3_beginAccepting 29 = .ok (.getfield 27, 3) := by decide +kernel
theorem dX3_beginAccepting_32 : decode cX3_beginAccepting 32 = .ok (.invokevirtual 85, 3) := by decide +kernel
theorem dX3_beginAccepting_35 : decode cX3_beginAccepting 35 = .ok (.putfield 63, 3) := by decide +kernel
theorem dX3_beginAccepting_38 : decode cX3_beginAccepting 38 = .ok (.aload_n 0, 1) := by decide +kernel
theorem dX3_beginAccepting_39 : decode cX3_beginAccepting 39 = .ok (.iconst 1, 1) := by decide +kernel
theorem dX3_beginAccepting_40 : decode cX3_beginAccepting 40 = .ok (.putfield 53, 3) := by decide +kernel
theorem dX3_beginAccepting_43 : decode cX3_beginAccepting 43 = .ok (.aload_n 0, 1) := by decide +kernel
theorem dX3_beginAccepting_44 : decode cX3_beginAccepting 44 = .ok (.iconst 0, 1) := by decide +kernel
theorem dX3_beginAccepting_45 : decode cX3_beginAccepting 45 = .ok (.putfield 57, 3) := by decide +kernel
theorem dX3_beginAccepting_48 : decode cX3_beginAccepting 48 = .ok (.return_, 1) := by decide +kernel
set_option maxRecDepth 20000 in
theorem ggX4_init_X1_init : GoodIn wsX4_init wsX1_init := goodIn_r _ [10, 11, 2, 3, 12, 15, 16, 17, 18, 19, 20, 21] (by decide +kernel) (by decide +kernel)
set_option maxRecDepth 20000 in
theorem gX4_init_X1_init_n17 : GoodIn wsX4_init (wsX1_init) := ggX4_init_X1_init
theorem dX4_init_0 : decode cX4_init 0 = .ok (.aload_n 0, 1) := by decide +kernel
theorem dX4_init_1 : decode cX4_init 1 = .ok (.invokespecial 3, 3) := by decide +kernel
theorem dX4_init_4 : decode cX4_init 4 = .ok (.aload_n 0, 1) := by decide +kernel
theorem dX4_init_5 : decode cX4_init 5 = .ok (.sipush 301, 3) := by decide +kernel
theorem dX4_init_8 : decode cX4_init 8 = .ok (.anewarray 9, 3) := by decide +kernel
theorem dX4_init_11 : decode cX4_init 11 = .ok (.putfield 11, 3) := by decide +kernel
theorem dX4_init_14 : decode cX4_init 14 = .ok (.iconst 0, 1) := by decide +kernel
theorem dX4_init_15 : decode cX4_init 15 = .ok (.istore_n 2, 1) := by decide +kernel
theorem dX4_init_16 : decode cX4_init 16 = .ok (.iload_n 2, 1) := by decide +kernel
theorem dX4_init_17 : decode cX4_init 17 = .ok (.aload_n 0, 1) := by decide +kernel
theorem dX4_init_18 : decode cX4_init 18 = .ok (.getfield 11, 3) := by decide +kernel
theorem dX4_init_21 : decode cX4_init 21 = .ok (.arraylength, 1) := by decide +kernel
theorem dX4_init_22 : decode cX4_init 22 = .ok (.if_icmp .ge 23, 3) := by decide +kernel
theorem dX4_init_25 : decode cX4_init 25 = .ok (.aload_n 0, 1) := by decide +kernel
theorem dX4_init_26 : decode cX4_init 26 = .ok (.getfield 11, 3) := by decide +kernel
theorem dX4_init_29 : decode cX4_init 29 = .ok (.iload_n 2, 1) := by decide +kernel
theorem dX4_init_30 : decode cX4_init 30 = .ok (.new 9, 3) := by decide +kernel
theorem dX4_init_33 : decode cX4_init 33 = .ok (.dup, 1) := by decide +kernel
theorem dX4_init_34 : decode cX4_init 34 = .ok (.aload_n 1, 1) := by decide +kernel
theorem dX4_init_35 : decode cX4_init 35 = .ok (.invokespecial 17, 3) := by decide +kernel
theorem dX4_init_38 : decode cX4_init 38 = .ok (.aastore, 1) := by decide +kernel
theorem dX4_init_39 : decode cX4_init 39 = .ok (.iinc 2 1, 3) := by decide +kernel
theorem dX4_init_42 : decode cX4_init 42 = .ok (.goto (-26), 3) := by decide +kernel
theorem dX4_init_45 : decode cX4_init 45 = .ok (.aload_n 0, 1) := by decide +kernel
theorem dX4_init_46 : decode cX4_init 46 = .ok (.iconst 0, 1) := by decide +kernel
theorem dX4_init_47 : decode cX4_init 47 = .ok (.putfield 20, 3) := by decide +kernel
theorem dX4_init_50 : decode cX4_init 50 = .ok (.return_, 1) := by decide +kernel
theorem dX4_drawOut_0 : decode cX4_drawOut 0 = .ok (.aload_n 0, 1) := by decide +kernel
theorem dX4_drawOut_1 : decode cX4_drawOut 1 = .ok (.getfield 11, 3) := by decide +kernel
theorem dX4_drawOut_4 : decode cX4_drawOut 4 = .ok (.iload_n 1, 1) := by decide +kernel
theorem dX4_drawOut_5 : decode cX4_drawOut 5 = .ok (.aaload, 1) := by decide +kernel
theorem dX4_drawOut_6 : decode cX4_drawOut 6 = .ok (.astore_n 2, 1) := by decide +kernel
theorem dX4_drawOut_7 : decode cX4_drawOut 7 = .ok (.aload_n 0, 1) := by decide +kernel
theorem dX4_drawOut_8 : decode cX4_drawOut 8 = .ok (.dup, 1) := by decide +kernel
theorem dX4_drawOut_9 : decode cX4_drawOut 9 = .ok (.getfield 20, 3) := by decide +kernel
theorem dX4_drawOut_12 : decode cX4_drawOut 12 = .ok (.iconst 1, 1) := by decide +kernel
theorem dX4_drawOut_13 : decode cX4_drawOut 13 = .ok (.isub, 1) := by decide +kernel
theorem dX4_drawOut_14 : decode cX4_drawOut 14 = .ok (.putfield 20, 3) := by decide +kernel
theorem dX4_drawOut_17 : decode cX4_drawOut 17 = .ok (.iload_n 1, 1) := by decide +kernel
theorem dX4_drawOut_18 : decode cX4_drawOut 18 = .ok (.istore_n 3, 1) := by decide +kernel
theorem dX4_drawOut_19 : decode cX4_drawOut 19 = .ok (.iload_n 3, 1) := by decide +kernel
theorem dX4_drawOut_20 : decode cX4_drawOut 20 = .ok (.aload_n 0, 1) := by decide +kernel
theorem dX4_drawOut_21 : decode cX4_drawOut 21 = .ok (.getfield 20, 3) := by decide +kernel
theorem dX4_drawOut_24 : decode cX4_drawOut 24 = .ok (.if_icmp .ge 23, 3) := by decide +kernel
theorem dX4_drawOut_27 : decode cX4_drawOut 27 = .ok (.aload_n 0, 1) := by decide +kernel
theorem dX4_drawOut_28 : decode cX4_drawOut 28 = .ok (.getfield 11, 3) := by decide +kernel
theorem dX4_drawOut_31 : decode cX4_drawOut 31 = .ok (.iload_n 3, 1) := by decide +kernel
theorem dX4_drawOut_32 : decode cX4_drawOut 32 = .ok (.aload_n 0, 1) := by decide +kernel
theorem dX4_drawOut_33 : decode cX4_drawOut 33 = .ok (.getfield 11, 3) := by decide +kernel
theorem dX4_drawOut_36 : decode cX4_drawOut 36 = .ok (.iload_n 3, 1) := by decide +kernel
theorem dX4_drawOut_37 : decode cX4_drawOut 37 = .ok (.iconst 1, 1) := by decide +kernel
theorem dX4_drawOut_38 : decode cX4_drawOut 38 = .ok (.iadd, 1) := by decide +kernel
theorem dX4_drawOut_39 : decode cX4_drawOut 39 = .ok (.aaload, 1) := by decide +kernel
theorem dX4_drawOut_40 : decode cX4_drawOut 40 = .ok (.aastore, 1) := by decide +kernel
theorem dX4_drawOut_41 : decode cX4_drawOut 41 = .ok (.iinc 3 1, 3) := by decide +kernel
theorem dX4_drawOut_44 : decode cX4_drawOut 44 = .ok (.goto (-25), 3) := by decide +kernel
theorem dX4_drawOut_47 : decode cX4_drawOut 47 = .ok (.aload_n 0, 1) := by decide +kernel
theorem dX4_drawOut_48 : decode cX4_drawOut 48 = .ok (.getfield 11, 3) := by decide +kernel
theorem dX4_drawOut_51 : decode cX4_drawOut 51 = .ok (.aload_n 0, 1) := by decide +kernel
theorem dX4_drawOut_52 : decode cX4_drawOut 52 = .ok (.getfield 20, 3) := by decide +kernel
theorem dX4_drawOut_55 : decode cX4_drawOut 55 = .ok (.aload_n 0, 1) := by decide +kernel
theorem dX4_drawOut_56 : decode cX4_drawOut 56 = .ok (.getfield 11, 3) := by decide +kernel
theorem dX4_drawOut_59 : decode cX4_drawOut 59 = .ok (.sipush 300, 3) := by decide +kernel
theorem dX4_drawOut_62 : decode cX4_drawOut 62 = .ok (.aaload, 1) := by decide +kernel
theorem dX4_drawOut_63 : decode cX4_drawOut 63 = .ok (.aastore, 1) := by decide +kernel
theorem dX4_drawOut_64 : decode cX4_drawOut 64 = .ok (.aload_n 0, 1) := by decide +kernel
theorem dX4_drawOut_65 : decode cX4_drawOut 65 = .ok (.getfield 11, 3) := by decide +kernel
theorem dX4_drawOut_68 : decode cX4_drawOut 68 = .ok (.sipush 300, 3) := by decide +kernel
theorem dX4_drawOut_71 : decode cX4_drawOut 71 = .ok (.aload_n 2, 1) := by decide +kernel
theorem dX4_drawOut_72 : decode cX4_drawOut 72 = .ok (.aastore, 1) := by decide +kernel
theorem dX4_drawOut_73 : decode cX4_drawOut 73 = .ok (.aload_n 2, 1) := by decide +kernel
theorem dX4_drawOut_74 : decode cX4_drawOut 74 = .ok (.areturn, 1) := by decide +kernel
theorem dX4_send_0 : decode cX4_send 0 = .ok (.aload_n 0, 1) := by decide +kernel
theorem dX4_send_1 : decode cX4_send 1 = .ok (.getfield 20, 3) := by decide +kernel
theorem dX4_send_4 : decode cX4_send 4 = .ok (.sipush 300, 3) := by decide +kernel
theorem dX4_send_7 : decode cX4_send 7 = .ok (.if_icmp .lt 4, 3) := by decide +kernel
theorem dX4_send_10 : decode cX4_send 10 = .ok (.return_, 1) := by decide +kernel
theorem dX4_send_11 : decode cX4_send 11 = .ok (.aload_n 0, 1) := by decide +kernel
theorem dX4_send_12 : decode cX4_send 12 = .ok (.getfield 11, 3) := by decide +kernel
theorem dX4_send_15 : decode cX4_send 15 = .ok (.aload_n 0, 1) := by decide +kernel
theorem dX4_send_16 : decode cX4_send 16 = .ok (.getfield 20, 3) := by decide +kernel
theorem dX4_send_19 : decode cX4_send 19 = .ok (.aaload, 1) := by decide +kernel
theorem dX4_send_20 : decode cX4_send 20 = .ok (.astore 8, 2) := by decide +kernel
theorem dX4_send_22 : decode cX4_send 22 = .ok (.aload_n 0, 1) := by decide +kernel
theorem dX4_send_23 : decode cX4_send 23 = .ok (.dup, 1) := by decide +kernel
theorem dX4_send_24 : decode cX4_send 24 = .ok (.getfield 20, 3) := by decide +kernel
theorem dX4_send_27 : decode cX4_send 27 = .ok (.iconst 1, 1) := by decide +kernel
theorem dX4_send_28 : decode cX4_send 28 = .ok (.iadd, 1) := by decide +kernel
theorem dX4_send_29 : decode cX4_send 29 = .ok (.putfield 20, 3) := by decide +kernel
theorem dX4_send_32 : decode cX4_send 32 = .ok (.aload 8, 2) := by decide +kernel
theorem dX4_send_34 : decode cX4_send 34 = .ok (.iload_n 1, 1) := by decide +kernel
theorem dX4_send_35 : decode cX4_send 35 = .ok (.putfield 24, 3) := by decide +kernel
theorem dX4_send_38 : decode cX4_send 38 = .ok (.aload 8, 2) := by decide +kernel
theorem dX4_send_40 : decode cX4_send 40 = .ok (.iload_n 2, 1) := by decide +kernel
theorem dX4_send_41 : decode cX4_send 41 = .ok (.putfield 27, 3) := by decide +kernel
theorem dX4_send_44 : decode cX4_send 44 = .ok (.aload 8, 2) := by decide +kernel
theorem dX4_send_46 : decode cX4_send 46 = .ok (.iload_n 3, 1) := by decide +kernel
theorem dX4_send_47 : decode cX4_send 47 = .ok (.putfield 30, 3) := by decide +kernel
theorem dX4_send_50 : decode cX4_send 50 = .ok (.aload 8, 2) := by decide +kernel
theorem dX4_send_52 : decode cX4_send 52 = .ok (.iload 4, 2) := by decide +kernel
theorem dX4_send_54 : decode cX4_send 54 = .ok (.putfield 33, 3) := by decide +kernel
theorem dX4_send_57 : decode cX4_send 57 = .ok (.aload 8, 2) := by decide +kernel
theorem dX4_send_59 : decode cX4_send 59 = .ok (.iload 5, 2) := by decide +kernel
theorem dX4_send_61 : decode cX4_send 61 = .ok (.putfield 36, 3) := by decide +kernel
theorem dX4_send_64 : decode cX4_send 64 = .ok (.aload 8, 2) := by decide +kernel
theorem dX4_send_66 : decode cX4_send 66 = .ok (.iload 6, 2) := by decide +kernel
theorem dX4_send_68 : decode cX4_send 68 = .ok (.putfield 39, 3) := by decide +kernel
theorem dX4_send_71 : decode cX4_send 71 = .ok (.aload 8, 2) := by decide +kernel
theorem dX4_send_73 : decode cX4_send 73 = .ok (.aload 7, 2) := by decide +kernel
theorem dX4_send_75 : decode cX4_send 75 = .ok (.putfield 42, 3) := by decide +kernel
theorem dX4_send_78 : decode cX4_send 78 = .ok (.return_, 1) := by decide +kernel
theorem dX5_init_0 : decode cX5_init 0 = .ok (.aload_n 0, 1) := by decide +kernel
theorem dX5_init_1 : decode cX5_init 1 = .ok (.invokespecial 3, 3) := by decide +kernel
theorem dX5_init_4 : decode cX5_init 4 = .ok (.aload_n 0, 1) := by decide +kernel
theorem dX5_init_5 : decode cX5_init 5 = .ok (.iload_n 1, 1) := by decide +kernel
theorem dX5_init_6 : decode cX5_init 6 = .ok (.putfield 9, 3) := by decide +kernel
theorem dX5_init_9 : decode cX5_init 9 = .ok (.aload_n 0, 1) := by decide +kernel
theorem dX5_init_10 : decode cX5_init 10 = .ok (.iload_n 2, 1) := by decide +kernel
theorem dX5_init_11 : decode cX5_init 11 = .ok (.putfield 15, 3) := by decide +kernel
theorem dX5_init_14 : decode cX5_init 14 = .ok (.aload_n 0, 1) := by decide +kernel
theorem dX5_init_15 : decode cX5_init 15 = .ok (.lload_n 3, 1) := by decide +kernel
theorem dX5_init_16 : decode cX5_init 16 = .ok (.putfield 19, 3) := by decide +kernel
theorem dX5_init_19 : decode cX5_init 19 = .ok (.return_, 1) := by decide +kernel
theorem dX5_versionOrNone_0 : decode cX5_versionOrNone 0 = .ok (.aload_n 0, 1) := by decide +kernel
theorem dX5_versionOrNone_1 : decode cX5_versionOrNone 1 = .ok (.getfield 9, 3) := by decide +kernel
theorem dX5_versionOrNone_4 : decode cX5_versionOrNone 4 = .ok (.ifCond .eq 10, 3) := by decide +kernel
theorem dX5_versionOrNone_7 : decode cX5_versionOrNone 7 = .ok (.aload_n 0, 1) := by decide +kernel
theorem dX5_versionOrNone_8 : decode cX5_versionOrNone 8 = .ok (.getfield 15, 3) := by decide +kernel
theorem dX5_versionOrNone_11 : decode cX5_versionOrNone 11 = .ok (.goto 4, 3) := by decide +kernel
theorem dX5_versionOrNone_14 : decode cX5_versionOrNone 14 = .ok (.iconst (-1), 1) := by decide +kernel
theorem dX5_versionOrNone_15 : decode cX5_versionOrNone 15 = .ok (.ireturn, 1) := by decide +kernel
theorem dX5_fails_0 : decode cX5_fails 0 = .ok (.iload_n 1, 1) := by decide +kernel
theorem dX5_fails_1 : decode cX5_fails 1 = .ok (.tableswitch 104 1 6 #[39, 104, 44, 104, 69, 82], 39) := by decide +kernel
theorem dX5_fails_40 : decode cX5_fails 40 = .ok (.aload_n 0, 1) := by decide +kernel
theorem dX5_fails_41 : decode cX5_fails 41 = .ok (.getfield 9, 3) := by decide +kernel
theorem dX5_fails_44 : decode cX5_fails 44 = .ok (.ireturn, 1) := by decide +kernel
theorem dX5_fails_45 : decode cX5_fails 45 = .ok (.aload_n 0, 1) := by decide +kernel
theorem dX5_fails_46 : decode cX5_fails 46 = .ok (.getfield 9, 3) := by decide +kernel
theorem dX5_fails_49 : decode cX5_fails 49 = .ok (.ifCond .eq 15, 3) := by decide +kernel
theorem dX5_fails_52 : decode cX5_fails 52 = .ok (.aload_n 0, 1) := by decide +kernel
theorem dX5_fails_53 : decode cX5_fails 53 = .ok (.getfield 15, 3) := by decide +kernel
theorem dX5_fails_56 : decode cX5_fails 56 = .ok (.lload_n 2, 1) := by decide +kernel
theorem dX5_fails_57 : decode cX5_fails 57 = .ok (.bipush 32, 2) := by decide +kernel
theorem dX5_fails_59 : decode cX5_fails 59 = .ok (.lshr, 1) := by decide +kernel
theorem dX5_fails_60 : decode cX5_fails 60 = .ok (.l2i, 1) := by decide +kernel
theorem dX5_fails_61 : decode cX5_fails 61 = .ok (.if_icmp .eq 7, 3) := by decide +kernel
theorem dX5_fails_64 : decode cX5_fails 64 = .ok (.iconst 1, 1) := by decide +kernel
theorem dX5_fails_65 : decode cX5_fails 65 = .ok (.goto 4, 3) := by decide +kernel
theorem dX5_fails_68 : decode cX5_fails 68 = .ok (.iconst 0, 1) := by decide +kernel
theorem dX5_fails_69 : decode cX5_fails 69 = .ok (.ireturn, 1) := by decide +kernel
theorem dX5_fails_70 : decode cX5_fails 70 = .ok (.aload_n 0, 1) := by decide +kernel
theorem dX5_fails_71 : decode cX5_fails 71 = .ok (.getfield 9, 3) := by decide +kernel
theorem dX5_fails_74 : decode cX5_fails 74 = .ok (.ifCond .ne 7, 3) := by decide +kernel
theorem dX5_fails_77 : decode cX5_fails 77 = .ok (.iconst 1, 1) := by decide +kernel
theorem dX5_fails_78 : decode cX5_fails 78 = .ok (.goto 4, 3) := by decide +kernel
theorem dX5_fails_81 : decode cX5_fails 81 = .ok (.iconst 0, 1) := by decide +kernel
theorem dX5_fails_82 : decode cX5_fails 82 = .ok (.ireturn, 1) := by decide +kernel
theorem dX5_fails_83 : decode cX5_fails 83 = .ok (.aload_n 0, 1) := by decide +kernel
theorem dX5_fails_84 : decode cX5_fails 84 = .ok (.getfield 9, 3) := by decide +kernel
theorem dX5_fails_87 : decode cX5_fails 87 = .ok (.ifCond .eq 16, 3) := by decide +kernel
theorem dX5_fails_90 : decode cX5_fails 90 = .ok (.aload_n 0, 1) := by decide +kernel
theorem dX5_fails_91 : decode cX5_fails 91 = .ok (.getfield 19, 3) := by decide +kernel
theorem dX5_fails_94 : decode cX5_fails 94 = .ok (.lload_n 2, 1) := by decide +kernel
theorem dX5_fails_95 : decode cX5_fails 95 = .ok (.lcmp, 1) := by decide +kernel
theorem dX5_fails_96 : decode cX5_fails 96 = .ok (.ifCond .lt 7, 3) := by decide +kernel
theorem dX5_fails_99 : decode cX5_fails 99 = .ok (.iconst 1, 1) := by decide +kernel
theorem dX5_fails_100 : decode cX5_fails 100 = .ok (.goto 4, 3) := by decide +kernel
theorem dX5_fails_103 : decode cX5_fails 103 = .ok (.iconst 0, 1) := by decide +kernel
theorem dX5_fails_104 : decode cX5_fails 104 = .ok (.ireturn, 1) := by decide +kernel
theorem dX5_fails_105 : decode cX5_fails 105 = .ok (.iconst 0, 1) := by decide +kernel
theorem dX5_fails_106 : decode cX5_fails 106 = .ok (.ireturn, 1) := by decide +kernel
set_option maxRecDepth 20000 in
theorem ggX5_changed_X5_fails : GoodIn wsX5_changed wsX5_fails := goodIn_r _ [8, 9, 10, 1, 21, 22, 23] (by decide +kernel) (by decide +kernel)
set_option maxRecDepth 20000 in
theorem gX5_changed_X5_fails : GoodIn wsX5_changed (wsV RX5 23 RX5 yX5_fails wsX5_fails) := goodIn_app (goodIn_of _ (by decide +kernel)) ggX5_changed_X5_fails
set_option maxRecDepth 20000 in
theorem ggX5_changed_X5_next : GoodIn wsX5_changed wsX5_next := goodIn_r _ [14, 2, 3, 4, 10, 15, 16, 17, 18, 19, 20, 9, 1, 21, 22, 23] (by decide +kernel) (by decide +kernel)
set_option maxRecDepth 20000 in
theorem gX5_changed_X5_next : GoodIn wsX5_changed (wsV RX5 27 RX5 yX5_next wsX5_next) := goodIn_app (goodIn_of _ (by decide +kernel)) ggX5_changed_X5_next
set_option maxRecDepth 20000 in
theorem ggX5_changed_X5_init : GoodIn wsX5_changed wsX5_init := goodIn_r _ [17, 18, 19, 20, 9, 10, 1, 21, 22, 23] (by decide +kernel) (by decide +kernel)
set_option maxRecDepth 20000 in
theorem gX5_changed_X5_init : GoodIn wsX5_changed (wsX5_init) := ggX5_changed_X5_init
theorem dX5_changed_0 : decode cX5_changed 0 = .ok (.aload_n 0, 1) := by decide +kernel
theorem dX5_changed_1 : decode cX5_changed 1 = .ok (.iload_n 1, 1) := by decide +kernel
theorem dX5_changed_2 : decode cX5_changed 2 = .ok (.lload_n 2, 1) := by decide +kernel
theorem dX5_changed_3 : decode cX5_changed 3 = .ok (.invokevirtual 23, 3) := by decide +kernel
theorem dX5_changed_6 : decode cX5_changed 6 = .ok (.ifCond .eq 5, 3) := by decide +kernel
theorem dX5_changed_9 : decode cX5_changed 9 = .ok (.aload_n 0, 1) := by decide +kernel
theorem dX5_changed_10 : decode cX5_changed 10 = .ok (.areturn, 1) := by decide +kernel
theorem dX5_changed_11 : decode cX5_changed 11 = .ok (.iload_n 1, 1) := by decide +kernel
theorem dX5_changed_12 : decode cX5_changed 12 = .ok (.tableswitch 76 0 6 #[44, 76, 76, 46, 54, 65, 76], 44) := by decide +kernel
theorem dX5_changed_56 : decode cX5_changed 56 = .ok (.aload_n 0, 1) := by decide +kernel
theorem dX5_changed_57 : decode cX5_changed 57 = .ok (.areturn, 1) := by decide +kernel
theorem dX5_changed_58 : decode cX5_changed 58 = .ok (.aload_n 0, 1) := by decide +kernel
theorem dX5_changed_59 : decode cX5_changed 59 = .ok (.lload_n 2, 1) := by decide +kernel
theorem dX5_changed_60 : decode cX5_changed 60 = .ok (.l2i, 1) := by decide +kernel
theorem dX5_changed_61 : decode cX5_changed 61 = .ok (.i2l, 1) := by decide +kernel
theorem dX5_changed_62 : decode cX5_changed 62 = .ok (.invokevirtual 27, 3) := by decide +kernel
theorem dX5_changed_65 : decode cX5_changed 65 = .ok (.areturn, 1) := by decide +kernel
theorem dX5_changed_66 : decode cX5_changed 66 = .ok (.aload_n 0, 1) := by decide +kernel
theorem dX5_changed_67 : decode cX5_changed 67 = .ok (.aload_n 0, 1) := by decide +kernel
theorem dX5_changed_68 : decode cX5_changed 68 = .ok (.getfield 19, 3) := by decide +kernel
theorem dX5_changed_71 : decode cX5_changed 71 = .ok (.lload_n 2, 1) := by decide +kernel
theorem dX5_changed_72 : decode cX5_changed 72 = .ok (.ladd, 1) := by decide +kernel
theorem dX5_changed_73 : decode cX5_changed 73 = .ok (.invokevirtual 27, 3) := by decide +kernel
theorem dX5_changed_76 : decode cX5_changed 76 = .ok (.areturn, 1) := by decide +kernel
theorem dX5_changed_77 : decode cX5_changed 77 = .ok (.new 10, 3) := by decide +kernel
theorem dX5_changed_80 : decode cX5_changed 80 = .ok (.dup, 1) := by decide +kernel
theorem dX5_changed_81 : decode cX5_changed 81 = .ok (.iconst 0, 1) := by decide +kernel
theorem dX5_changed_82 : decode cX5_changed 82 = .ok (.iconst 0, 1) := by decide +kernel
theorem dX5_changed_83 : decode cX5_changed 83 = .ok (.lconst 0, 1) := by decide +kernel
theorem dX5_changed_84 : decode cX5_changed 84 = .ok (.invokespecial 31, 3) := by decide +kernel
theorem dX5_changed_87 : decode cX5_changed 87 = .ok (.areturn, 1) := by decide +kernel
theorem dX5_changed_88 : decode cX5_changed 88 = .ok (.aload_n 0, 1) := by decide +kernel
theorem dX5_changed_89 : decode cX5_changed 89 = .ok (.lload_n 2, 1) := by decide +kernel
theorem dX5_changed_90 : decode cX5_changed 90 = .ok (.invokevirtual 27, 3) := by decide +kernel
theorem dX5_changed_93 : decode cX5_changed 93 = .ok (.areturn, 1) := by decide +kernel
set_option maxRecDepth 20000 in
theorem ggX5_next_X5_init : GoodIn wsX5_next wsX5_init := goodIn_r _ [7, 8, 9, 10, 11, 4, 12, 13, 14, 15] (by decide +kernel) (by decide +kernel)
set_option maxRecDepth 20000 in
theorem gX5_next_X5_init : GoodIn wsX5_next (wsX5_init) := ggX5_next_X5_init
theorem dX5_next_0 : decode cX5_next 0 = .ok (.new 10, 3) := by decide +kernel
theorem dX5_next_3 : decode cX5_next 3 = .ok (.dup, 1) := by decide +kernel
theorem dX5_next_4 : decode cX5_next 4 = .ok (.iconst 1, 1) := by decide +kernel
theorem dX5_next_5 : decode cX5_next 5 = .ok (.aload_n 0, 1) := by decide +kernel
theorem dX5_next_6 : decode cX5_next 6 = .ok (.getfield 15, 3) := by decide +kernel
theorem dX5_next_9 : decode cX5_next 9 = .ok (.iconst 1, 1) := by decide +kernel
theorem dX5_next_10 : decode cX5_next 10 = .ok (.iadd, 1) := by decide +kernel
theorem dX5_next_11 : decode cX5_next 11 = .ok (.lload_n 1, 1) := by decide +kernel
theorem dX5_next_12 : decode cX5_next 12 = .ok (.invokespecial 31, 3) := by decide +kernel
theorem dX5_next_15 : decode cX5_next 15 = .ok (.areturn, 1) := by decide +kernel
set_option maxRecDepth 20000 in
theorem ggX6_init_X5_init : GoodIn wsX6_init wsX5_init := goodIn_r _ [26, 27, 2, 3, 28, 29, 30, 58, 59, 60] (by decide +kernel) (by decide +kernel)
set_option maxRecDepth 20000 in
theorem gX6_init_X5_init_n9 : GoodIn wsX6_init (wsX5_init) := ggX6_init_X5_init
set_option maxRecDepth 20000 in
theorem ggX6_init_X2_init : GoodIn wsX6_init wsX2_init := goodIn_r _ [32, 33, 2, 3, 34, 35, 36, 68, 69, 70] (by decide +kernel) (by decide +kernel)
set_option maxRecDepth 20000 in
theorem gX6_init_X2_init_n24 : GoodIn wsX6_init (wsX2_init) := ggX6_init_X2_init
set_option maxRecDepth 20000 in
theorem ggX6_init_X0_init : GoodIn wsX6_init wsX0_init := goodIn_r _ [38, 39, 2, 3, 40, 41, 42, 43, 44, 45, 71, 72, 73, 74, 75] (by decide +kernel) (by decide +kernel)
set_option maxRecDepth 20000 in
theorem gX6_init_X0_init_n37 : GoodIn wsX6_init (wsX0_init) := ggX6_init_X0_init
set_option maxRecDepth 20000 in
theorem ggX6_init_X4_init : GoodIn wsX6_init wsX4_init := goodIn_r _ [47, 48, 2, 3, 49, 50, 51, 52, 53, 54, 55, 56, 57, 76, 77, 78, 79, 80, 81, 82, 83, 84] (by decide +kernel) (by decide +kernel)
set_option maxRecDepth 20000 in
theorem gX6_init_X4_init_n48 : GoodIn wsX6_init (wsX4_init) := ggX6_init_X4_init
theorem dX6_init_0 : decode cX6_init 0 = .ok (.aload_n 0, 1) := by decide +kernel
theorem dX6_init_1 : decode cX6_init 1 = .ok (.invokespecial 1, 3) := by decide +kernel
theorem dX6_init_4 : decode cX6_init 4 = .ok (.aload_n 0, 1) := by decide +kernel
theorem dX6_init_5 : decode cX6_init 5 = .ok (.new 7, 3) := by decide +kernel
theorem dX6_init_8 : decode cX6_init 8 = .ok (.dup, 1) := by decide +kernel
theorem dX6_init_9 : decode cX6_init 9 = .ok (.iconst 0, 1) := by decide +kernel
theorem dX6_init_10 : decode cX6_init 10 = .ok (.iconst 0, 1) := by decide +kernel
theorem dX6_init_11 : decode cX6_init 11 = .ok (.lconst 0, 1) := by decide +kernel
theorem dX6_init_12 : decode cX6_init 12 = .ok (.invokespecial 9, 3) := by decide +kernel
theorem dX6_init_15 : decode cX6_init 15 = .ok (.putfield 12, 3) := by decide +kernel
theorem dX6_init_18 : decode cX6_init 18 = .ok (.aload_n 0, 1) := by decide +kernel
theorem dX6_init_19 : decode cX6_init 19 = .ok (.bipush 36, 2) := by decide +kernel
theorem dX6_init_21 : decode cX6_init 21 = .ok (.anewarray 18, 3) := by decide +kernel
theorem dX6_init_24 : decode cX6_init 24 = .ok (.putfield 20, 3) := by decide +kernel
theorem dX6_init_27 : decode cX6_init 27 = .ok (.iconst 0, 1) := by decide +kernel
theorem dX6_init_28 : decode cX6_init 28 = .ok (.istore_n 1, 1) := by decide +kernel
theorem dX6_init_29 : decode cX6_init 29 = .ok (.iload_n 1, 1) := by decide +kernel
theorem dX6_init_30 : decode cX6_init 30 = .ok (.aload_n 0, 1) := by decide +kernel
theorem dX6_init_31 : decode cX6_init 31 = .ok (.getfield 20, 3) := by decide +kernel
theorem dX6_init_34 : decode cX6_init 34 = .ok (.arraylength, 1) := by decide +kernel
theorem dX6_init_35 : decode cX6_init 35 = .ok (.if_icmp .ge 26, 3) := by decide +kernel
theorem dX6_init_38 : decode cX6_init 38 = .ok (.aload_n 0, 1) := by decide +kernel
theorem dX6_init_39 : decode cX6_init 39 = .ok (.getfield 20, 3) := by decide +kernel
theorem dX6_init_42 : decode cX6_init 42 = .ok (.iload_n 1, 1) := by decide +kernel
theorem dX6_init_43 : decode cX6_init 43 = .ok (.new 18, 3) := by decide +kernel
theorem dX6_init_46 : decode cX6_init 46 = .ok (.dup, 1) := by decide +kernel
theorem dX6_init_47 : decode cX6_init 47 = .ok (.aload_n 0, 1) := by decide +kernel
theorem dX6_init_48 : decode cX6_init 48 = .ok (.getfield 12, 3) := by decide +kernel
theorem dX6_init_51 : decode cX6_init 51 = .ok (.invokespecial 24, 3) := by decide +kernel
theorem dX6_init_54 : decode cX6_init 54 = .ok (.aastore, 1) := by decide +kernel
theorem dX6_init_55 : decode cX6_init 55 = .ok (.iinc 1 1, 3) := by decide +kernel
theorem dX6_init_58 : decode cX6_init 58 = .ok (.goto (-29), 3) := by decide +kernel
theorem dX6_init_61 : decode cX6_init 61 = .ok (.aload_n 0, 1) := by decide +kernel
theorem dX6_init_62 : decode cX6_init 62 = .ok (.bipush 9, 2) := by decide +kernel
theorem dX6_init_64 : decode cX6_init 64 = .ok (.newarray .boolean, 2) := by decide +kernel
theorem dX6_init_66 : decode cX6_init 66 = .ok (.putfield 27, 3) := by decide +kernel
theorem dX6_init_69 : decode cX6_init 69 = .ok (.aload_n 0, 1) := by decide +kernel
theorem dX6_init_70 : decode cX6_init 70 = .ok (.iconst 4, 1) := by decide +kernel
theorem dX6_init_71 : decode cX6_init 71 = .ok (.anewarray 31, 3) := by decide +kernel
theorem dX6_init_74 : decode cX6_init 74 = .ok (.putfield 33, 3) := by decide +kernel
theorem dX6_init_77 : decode cX6_init 77 = .ok (.iconst 0, 1) := by decide +kernel
theorem dX6_init_78 : decode cX6_init 78 = .ok (.istore_n 1, 1) := by decide +kernel
theorem dX6_init_79 : decode cX6_init 79 = .ok (.iload_n 1, 1) := by decide +kernel
theorem dX6_init_80 : decode cX6_init 80 = .ok (.iconst 4, 1) := by decide +kernel
theorem dX6_init_81 : decode cX6_init 81 = .ok (.if_icmp .ge 23, 3) := by decide +kernel
theorem dX6_init_84 : decode cX6_init 84 = .ok (.aload_n 0, 1) := by decide +kernel
theorem dX6_init_85 : decode cX6_init 85 = .ok (.getfield 33, 3) := by decide +kernel
theorem dX6_init_88 : decode cX6_init 88 = .ok (.iload_n 1, 1) := by decide +kernel
theorem dX6_init_89 : decode cX6_init 89 = .ok (.new 31, 3) := by decide +kernel
theorem dX6_init_92 : decode cX6_init 92 = .ok (.dup, 1) := by decide +kernel
theorem dX6_init_93 : decode cX6_init 93 = .ok (.iload_n 1, 1) := by decide +kernel
theorem dX6_init_94 : decode cX6_init 94 = .ok (.invokespecial 37, 3) := by decide +kernel
theorem dX6_init_97 : decode cX6_init 97 = .ok (.aastore, 1) := by decide +kernel
theorem dX6_init_98 : decode cX6_init 98 = .ok (.iinc 1 1, 3) := by decide +kernel
theorem dX6_init_101 : decode cX6_init 101 = .ok (.goto (-22), 3) := by decide +kernel
theorem dX6_init_104 : decode cX6_init 104 = .ok (.aload_n 0, 1) := by decide +kernel
theorem dX6_init_105 : decode cX6_init 105 = .ok (.sipush 200, 3) := by decide +kernel
theorem dX6_init_108 : decode cX6_init 108 = .ok (.anewarray 40, 3) := by decide +kernel
theorem dX6_init_111 : decode cX6_init 111 = .ok (.putfield 42, 3) := by decide +kernel
theorem dX6_init_114 : decode cX6_init 114 = .ok (.aload_n 0, 1) := by decide +kernel
theorem dX6_init_115 : decode cX6_init 115 = .ok (.new 46, 3) := by decide +kernel
theorem dX6_init_118 : decode cX6_init 118 = .ok (.dup, 1) := by decide +kernel
theorem dX6_init_119 : decode cX6_init 119 = .ok (.aload_n 0, 1) := by decide +kernel
theorem dX6_init_120 : decode cX6_init 120 = .ok (.getfield 12, 3) := by decide +kernel
theorem dX6_init_123 : decode cX6_init 123 = .ok (.invokespecial 48, 3) := by decide +kernel
theorem dX6_init_126 : decode cX6_init 126 = .ok (.putfield 49, 3) := by decide +kernel
theorem dX6_init_129 : decode cX6_init 129 = .ok (.aload_n 0, 1) := by decide +kernel
theorem dX6_init_130 : decode cX6_init 130 = .ok (.iconst 0, 1) := by decide +kernel
theorem dX6_init_131 : decode cX6_init 131 = .ok (.putfield 53, 3) := by decide +kernel
theorem dX6_init_134 : decode cX6_init 134 = .ok (.return_, 1) := by decide +kernel
set_option maxRecDepth 20000 in
theorem ggX6_ask_X6_needIndex : GoodIn wsX6_ask wsX6_needIndex := goodIn_ca (goodIn_r _ [11, 12, 13] (by decide +kernel) (by decide +kernel)) (goodIn_sub (fun _ h => List.mem_cons_of_mem _ (List.mem_append_left _ (List.mem_append_right _ h))) (by decide +kernel))
set_option maxRecDepth 20000 in
theorem gX6_ask_X6_needIndex : GoodIn wsX6_ask (va_wsS RX6 57 yX6_needIndex wsX6_needIndex) := goodIn_app (goodIn_of _ (by decide +kernel)) ggX6_ask_X6_needIndex
set_option maxRecDepth 20000 in
theorem ggX6_ask_X6_needRange : GoodIn wsX6_ask wsX6_needRange := goodIn_ca (goodIn_r _ [16, 17, 18] (by decide +kernel) (by decide +kernel)) (goodIn_sub (fun _ h => List.mem_cons_of_mem _ (List.mem_append_right _ h)) (by decide +kernel))
set_option maxRecDepth 20000 in
theorem gX6_ask_X6_needRange : GoodIn wsX6_ask (va_wsS RX6 61 yX6_needRange wsX6_needRange) := goodIn_app (goodIn_of _ (by decide +kernel)) ggX6_ask_X6_needRange
set_option maxRecDepth 20000 in
theorem ggX6_ask_X3_init : GoodIn wsX6_ask wsX3_init := goodIn_r _ [20, 21, 22, 23, 24, 25, 26, 27, 28, 29, 30, 31, 32, 33, 34, 35, 36, 37, 38, 62, 63, 64, 65, 66, 67, 68, 69, 70, 71, 72, 73, 74, 75, 76, 57, 58, 59, 60, 61] (by decide +kernel) (by decide +kernel)
set_option maxRecDepth 20000 in
theorem gX6_ask_X3_init_n72 : GoodIn wsX6_ask (wsX3_init) := ggX6_ask_X3_init
set_option maxRecDepth 20000 in
theorem ggX6_ask_X6_sendToSet : GoodIn wsX6_ask wsX6_sendToSet := goodIn_r _ [42, 43, 44, 45, 46, 47, 48, 49, 50, 51, 52, 53, 54, 55, 56, 62, 63, 64, 65, 66, 67, 68, 69, 70, 71, 72, 73, 74, 75, 76, 77, 78, 79, 80, 81, 82, 83, 84, 85] (by decide +kernel) (by decide +kernel)
set_option maxRecDepth 20000 in
theorem gX6_ask_X6_sendToSet : GoodIn wsX6_ask (wsV RX6 79 RX6 yX6_sendToSet wsX6_sendToSet) := goodIn_app (goodIn_of _ (by decide +kernel)) ggX6_ask_X6_sendToSet
theorem dX6_ask_0 : decode cX6_ask 0 = .ok (.iload_n 1, 1) := by decide +kernel
theorem dX6_ask_1 : decode cX6_ask 1 = .ok (.iconst 4, 1) := by decide +kernel
theorem dX6_ask_2 : decode cX6_ask 2 = .ok (.invokestatic 57, 3) := by decide +kernel
theorem dX6_ask_5 : decode cX6_ask 5 = .ok (.iload_n 2, 1) := by decide +kernel
theorem dX6_ask_6 : decode cX6_ask 6 = .ok (.iconst 4, 1) := by decide +kernel
theorem dX6_ask_7 : decode cX6_ask 7 = .ok (.invokestatic 57, 3) := by decide +kernel
theorem dX6_ask_10 : decode cX6_ask 10 = .ok (.iload_n 3, 1) := by decide +kernel
theorem dX6_ask_11 : decode cX6_ask 11 = .ok (.iconst 0, 1) := by decide +kernel
theorem dX6_ask_12 : decode cX6_ask 12 = .ok (.bipush 6, 2) := by decide +kernel
theorem dX6_ask_14 : decode cX6_ask 14 = .ok (.invokestatic 61, 3) := by decide +kernel
theorem dX6_ask_17 : decode cX6_ask 17 = .ok (.aload_n 0, 1) := by decide +kernel
theorem dX6_ask_18 : decode cX6_ask 18 = .ok (.getfield 33, 3) := by decide +kernel
theorem dX6_ask_21 : decode cX6_ask 21 = .ok (.iload_n 1, 1) := by decide +kernel
theorem dX6_ask_22 : decode cX6_ask 22 = .ok (.aaload, 1) := by decide +kernel
theorem dX6_ask_23 : decode cX6_ask 23 = .ok (.astore 6, 2) := by decide +kernel
theorem dX6_ask_25 : decode cX6_ask 25 = .ok (.aload 6, 2) := by decide +kernel
theorem dX6_ask_27 : decode cX6_ask 27 = .ok (.getfield 65, 3) := by decide +kernel
theorem dX6_ask_30 : decode cX6_ask 30 = .ok (.ifnonnull 13, 3) := by decide +kernel
theorem dX6_ask_33 : decode cX6_ask 33 = .ok (.aload_n 0, 1) := by decide +kernel
theorem dX6_ask_34 : decode cX6_ask 34 = .ok (.getfield 53, 3) := by decide +kernel
theorem dX6_ask_37 : decode cX6_ask 37 = .ok (.sipush 200, 3) := by decide +kernel
theorem dX6_ask_40 : decode cX6_ask 40 = .ok (.if_icmp .lt 5, 3) := by decide +kernel
theorem dX6_ask_43 : decode cX6_ask 43 = .ok (.iconst (-1), 1) := by decide +kernel
theorem dX6_ask_44 : decode cX6_ask 44 = .ok (.ireturn, 1) := by decide +kernel
theorem dX6_ask_45 : decode cX6_ask 45 = .ok (.aload 6, 2) := by decide +kernel
theorem dX6_ask_47 : decode cX6_ask 47 = .ok (.dup, 1) := by decide +kernel
theorem dX6_ask_48 : decode cX6_ask 48 = .ok (.getfield 69, 3) := by decide +kernel
theorem dX6_ask_51 : decode cX6_ask 51 = .ok (.iconst 1, 1) := by decide +kernel
theorem dX6_ask_52 : decode cX6_ask 52 = .ok (.iadd, 1) := by decide +kernel
theorem dX6_ask_53 : decode cX6_ask 53 = .ok (.putfield 69, 3) := by decide +kernel
theorem dX6_ask_56 : decode cX6_ask 56 = .ok (.new 40, 3) := by decide +kernel
theorem dX6_ask_59 : decode cX6_ask 59 = .ok (.dup, 1) := by decide +kernel
theorem dX6_ask_60 : decode cX6_ask 60 = .ok (.aload_n 0, 1) := by decide +kernel
theorem dX6_ask_61 : decode cX6_ask 61 = .ok (.getfield 53, 3) := by decide +kernel
theorem dX6_ask_64 : decode cX6_ask 64 = .ok (.aload 6, 2) := by decide +kernel
theorem dX6_ask_66 : decode cX6_ask 66 = .ok (.iload_n 2, 1) := by decide +kernel
theorem dX6_ask_67 : decode cX6_ask 67 = .ok (.iload_n 3, 1) := by decide +kernel
theorem dX6_ask_68 : decode cX6_ask 68 = .ok (.lload 4, 2) := by decide +kernel
theorem dX6_ask_70 : decode cX6_ask 70 = .ok (.aload_n 0, 1) := by decide +kernel
theorem dX6_ask_71 : decode cX6_ask 71 = .ok (.getfield 12, 3) := by decide +kernel
theorem dX6_ask_74 : decode cX6_ask 74 = .ok (.invokespecial 72, 3) := by decide +kernel
theorem dX6_ask_77 : decode cX6_ask 77 = .ok (.astore 7, 2) := by decide +kernel
theorem dX6_ask_79 : decode cX6_ask 79 = .ok (.aload_n 0, 1) := by decide +kernel
theorem dX6_ask_80 : decode cX6_ask 80 = .ok (.getfield 42, 3) := by decide +kernel
theorem dX6_ask_83 : decode cX6_ask 83 = .ok (.aload_n 0, 1) := by decide +kernel
theorem dX6_ask_84 : decode cX6_ask 84 = .ok (.getfield 53, 3) := by decide +kernel
theorem dX6_ask_87 : decode cX6_ask 87 = .ok (.aload 7, 2) := by decide +kernel
theorem dX6_ask_89 : decode cX6_ask 89 = .ok (.aastore, 1) := by decide +kernel
theorem dX6_ask_90 : decode cX6_ask 90 = .ok (.aload_n 0, 1) := by decide +kernel
theorem dX6_ask_91 : decode cX6_ask 91 = .ok (.dup, 1) := by decide +kernel
theorem dX6_ask_92 : decode cX6_ask 92 = .ok (.getfield 53, 3) := by decide +kernel
theorem dX6_ask_95 : decode cX6_ask 95 = .ok (.iconst 1, 1) := by decide +kernel
theorem dX6_ask_96 : decode cX6_ask 96 = .ok (.iadd, 1) := by decide +kernel
theorem dX6_ask_97 : decode cX6_ask 97 = .ok (.putfield 53, 3) := by decide +kernel
theorem dX6_ask_100 : decode cX6_ask 100 = .ok (.aload 6, 2) := by decide +kernel
theorem dX6_ask_102 : decode cX6_ask 102 = .ok (.aload 7, 2) := by decide +kernel
theorem dX6_ask_104 : decode cX6_ask 104 = .ok (.putfield 65, 3) := by decide +kernel
theorem dX6_ask_107 : decode cX6_ask 107 = .ok (.aload_n 0, 1) := by decide +kernel
theorem dX6_ask_108 : decode cX6_ask 108 = .ok (.iconst 0, 1) := by decide +kernel
theorem dX6_ask_109 : decode cX6_ask 109 = .ok (.aload 7, 2) := by decide +kernel
theorem dX6_ask_111 : decode cX6_ask 111 = .ok (.aload 6, 2) := by decide +kernel
theorem dX6_ask_113 : decode cX6_ask 113 = .ok (.getfield 75, 3) := by decide +kernel
theorem dX6_ask_116 : decode cX6_ask 116 = .ok (.iconst 0, 1) := by decide +kernel
theorem dX6_ask_117 : decode cX6_ask 117 = .ok (.iaload, 1) := by decide +kernel
theorem dX6_ask_118 : decode cX6_ask 118 = .ok (.aload_n 0, 1) := by decide +kernel
theorem dX6_ask_119 : decode cX6_ask 119 = .ok (.getfield 12, 3) := by decide +kernel
theorem dX6_ask_122 : decode cX6_ask 122 = .ok (.invokevirtual 79, 3) := by decide +kernel
theorem dX6_ask_125 : decode cX6_ask 125 = .ok (.aload 7, 2) := by decide +kernel
theorem dX6_ask_127 : decode cX6_ask 127 = .ok (.getfield 83, 3) := by decide +kernel
theorem dX6_ask_130 : decode cX6_ask 130 = .ok (.ireturn, 1) := by decide +kernel
set_option maxRecDepth 20000 in
theorem ggX6_give_X6_needIndex : GoodIn wsX6_give wsX6_needIndex := goodIn_ca (goodIn_r _ [5, 6, 7] (by decide +kernel) (by decide +kernel)) (goodIn_sub (fun _ h => List.mem_cons_of_mem _ (List.mem_append_right _ h)) (by decide +kernel))
set_option maxRecDepth 20000 in
theorem gX6_give_X6_needIndex : GoodIn wsX6_give (va_wsS RX6 57 yX6_needIndex wsX6_needIndex) := goodIn_app (goodIn_of _ (by decide +kernel)) ggX6_give_X6_needIndex
set_option maxRecDepth 20000 in
theorem ggX6_give_X6_endCurrent : GoodIn wsX6_give wsX6_endCurrent := goodIn_r _ [10, 18, 19, 20, 21, 22, 23, 24, 25, 26, 27, 28, 29, 30, 31, 32, 33, 34, 35, 36, 37] (by decide +kernel) (by decide +kernel)
set_option maxRecDepth 20000 in
theorem gX6_give_X6_endCurrent : GoodIn wsX6_give (va_wsS RX6 86 yX6_endCurrent wsX6_endCurrent) := goodIn_app (goodIn_of _ (by decide +kernel)) ggX6_give_X6_endCurrent
theorem dX6_give_0 : decode cX6_give 0 = .ok (.iload_n 1, 1) := by decide +kernel
theorem dX6_give_1 : decode cX6_give 1 = .ok (.iconst 4, 1) := by decide +kernel
theorem dX6_give_2 : decode cX6_give 2 = .ok (.invokestatic 57, 3) := by decide +kernel
theorem dX6_give_5 : decode cX6_give 5 = .ok (.aload_n 0, 1) := by decide +kernel
theorem dX6_give_6 : decode cX6_give 6 = .ok (.getfield 33, 3) := by decide +kernel
theorem dX6_give_9 : decode cX6_give 9 = .ok (.iload_n 1, 1) := by decide +kernel
theorem dX6_give_10 : decode cX6_give 10 = .ok (.aaload, 1) := by decide +kernel
theorem dX6_give_11 : decode cX6_give 11 = .ok (.iconst 2, 1) := by decide +kernel
theorem dX6_give_12 : decode cX6_give 12 = .ok (.invokestatic 86, 3) := by decide +kernel
theorem dX6_give_15 : decode cX6_give 15 = .ok (.ireturn, 1) := by decide +kernel
set_option maxRecDepth 20000 in
theorem ggX6_plan_X6_needIndex : GoodIn wsX6_plan wsX6_needIndex := goodIn_ca (goodIn_r _ [5, 6, 7] (by decide +kernel) (by decide +kernel)) (goodIn_sub (fun _ h => List.mem_cons_of_mem _ (List.mem_append_left _ (List.mem_append_right _ h))) (by decide +kernel))
set_option maxRecDepth 20000 in
theorem gX6_plan_X6_needIndex : GoodIn wsX6_plan (va_wsS RX6 57 yX6_needIndex wsX6_needIndex) := goodIn_app (goodIn_of _ (by decide +kernel)) ggX6_plan_X6_needIndex
set_option maxRecDepth 20000 in
theorem ggX6_plan_X6_needRange : GoodIn wsX6_plan wsX6_needRange := goodIn_ca (goodIn_r _ [10, 11, 12] (by decide +kernel) (by decide +kernel)) (goodIn_sub (fun _ h => List.mem_cons_of_mem _ (List.mem_append_right _ h)) (by decide +kernel))
set_option maxRecDepth 20000 in
theorem gX6_plan_X6_needRange : GoodIn wsX6_plan (va_wsS RX6 61 yX6_needRange wsX6_needRange) := goodIn_app (goodIn_of _ (by decide +kernel)) ggX6_plan_X6_needRange
set_option maxRecDepth 20000 in
theorem ggX6_plan_J6_bitCount_0f7a4 : GoodIn wsX6_plan wsJ6_bitCount_0f7a4 := goodIn_r _ [16, 17, 18, 19] (by decide +kernel) (by decide +kernel)
set_option maxRecDepth 20000 in
theorem gX6_plan_J6_bitCount_0f7a4 : GoodIn wsX6_plan (va_wsS RX6 90 yJ6_bitCount_0f7a4 wsJ6_bitCount_0f7a4) := goodIn_app (goodIn_of _ (by decide +kernel)) ggX6_plan_J6_bitCount_0f7a4
theorem dX6_plan_0 : decode cX6_plan 0 = .ok (.iload_n 1, 1) := by decide +kernel
theorem dX6_plan_1 : decode cX6_plan 1 = .ok (.iconst 4, 1) := by decide +kernel
theorem dX6_plan_2 : decode cX6_plan 2 = .ok (.invokestatic 57, 3) := by decide +kernel
theorem dX6_plan_5 : decode cX6_plan 5 = .ok (.iload_n 2, 1) := by decide +kernel
theorem dX6_plan_6 : decode cX6_plan 6 = .ok (.iconst 2, 1) := by decide +kernel
theorem dX6_plan_7 : decode cX6_plan 7 = .ok (.invokestatic 57, 3) := by decide +kernel
theorem dX6_plan_10 : decode cX6_plan 10 = .ok (.iload_n 3, 1) := by decide +kernel
theorem dX6_plan_11 : decode cX6_plan 11 = .ok (.iconst 1, 1) := by decide +kernel
theorem dX6_plan_12 : decode cX6_plan 12 = .ok (.sipush 511, 3) := by decide +kernel
theorem dX6_plan_15 : decode cX6_plan 15 = .ok (.invokestatic 61, 3) := by decide +kernel
theorem dX6_plan_18 : decode cX6_plan 18 = .ok (.iload 4, 2) := by decide +kernel
theorem dX6_plan_20 : decode cX6_plan 20 = .ok (.iconst 1, 1) := by decide +kernel
theorem dX6_plan_21 : decode cX6_plan 21 = .ok (.iload_n 3, 1) := by decide +kernel
theorem dX6_plan_22 : decode cX6_plan 22 = .ok (.invokestatic 90, 3) := by decide +kernel
theorem dX6_plan_25 : decode cX6_plan 25 = .ok (.invokestatic 61, 3) := by decide +kernel
theorem dX6_plan_28 : decode cX6_plan 28 = .ok (.aload_n 0, 1) := by decide +kernel
theorem dX6_plan_29 : decode cX6_plan 29 = .ok (.getfield 33, 3) := by decide +kernel
theorem dX6_plan_32 : decode cX6_plan 32 = .ok (.iload_n 1, 1) := by decide +kernel
theorem dX6_plan_33 : decode cX6_plan 33 = .ok (.aaload, 1) := by decide +kernel
theorem dX6_plan_34 : decode cX6_plan 34 = .ok (.getfield 75, 3) := by decide +kernel
theorem dX6_plan_37 : decode cX6_plan 37 = .ok (.iload_n 2, 1) := by decide +kernel
theorem dX6_plan_38 : decode cX6_plan 38 = .ok (.iload_n 3, 1) := by decide +kernel
theorem dX6_plan_39 : decode cX6_plan 39 = .ok (.iastore, 1) := by decide +kernel
theorem dX6_plan_40 : decode cX6_plan 40 = .ok (.aload_n 0, 1) := by decide +kernel
theorem dX6_plan_41 : decode cX6_plan 41 = .ok (.getfield 33, 3) := by decide +kernel
theorem dX6_plan_44 : decode cX6_plan 44 = .ok (.iload_n 1, 1) := by decide +kernel
theorem dX6_plan_45 : decode cX6_plan 45 = .ok (.aaload, 1) := by decide +kernel
theorem dX6_plan_46 : decode cX6_plan 46 = .ok (.getfield 96, 3) := by decide +kernel
theorem dX6_plan_49 : decode cX6_plan 49 = .ok (.iload_n 2, 1) := by decide +kernel
theorem dX6_plan_50 : decode cX6_plan 50 = .ok (.iload 4, 2) := by decide +kernel
theorem dX6_plan_52 : decode cX6_plan 52 = .ok (.iastore, 1) := by decide +kernel
theorem dX6_plan_53 : decode cX6_plan 53 = .ok (.return_, 1) := by decide +kernel
set_option maxRecDepth 20000 in
theorem ggX6_take_X6_needIndex : GoodIn wsX6_take wsX6_needIndex := goodIn_ca (goodIn_r _ [5, 6, 7] (by decide +kernel) (by decide +kernel)) (goodIn_sub (fun _ h => List.mem_cons_of_mem _ (List.mem_append_right _ h)) (by decide +kernel))
set_option maxRecDepth 20000 in
theorem gX6_take_X6_needIndex : GoodIn wsX6_take (va_wsS RX6 57 yX6_needIndex wsX6_needIndex) := goodIn_app (goodIn_of _ (by decide +kernel)) ggX6_take_X6_needIndex
set_option maxRecDepth 20000 in
theorem ggX6_take_X6_deliver : GoodIn wsX6_take wsX6_deliver := goodIn_r _ [11, 1, 12, 13, 14, 15, 16, 17, 18, 19, 20, 4, 21, 22, 23, 24, 25, 26, 27, 28, 29, 30, 31, 32, 33, 34, 35, 36, 37, 38, 39, 40, 41, 42, 43, 44, 45, 46, 47, 48, 49, 50, 51, 52, 53, 54, 55, 56, 57, 58, 59, 60, 61, 62, 63, 64, 65, 66, 67, 68, 69, 70, 71, 72, 73, 74, 75, 76, 77, 78, 79, 80, 81, 82, 83, 84, 85, 86, 87, 88, 89, 90, 91, 92, 93, 94, 95, 96, 97, 98, 99, 100, 101, 102, 103, 104, 105, 106, 107, 108, 109, 110, 111, 112, 113, 114, 115, 116, 117, 118, 119, 120, 121, 122, 123, 124, 125, 126, 127, 128, 129, 130, 131, 132, 133, 134, 135, 136, 137, 138, 141, 142, 143, 144, 145, 146, 147, 139, 140, 148, 149, 150, 151, 152, 153, 154, 155, 156, 157, 158, 159, 160, 161, 162, 163, 164, 165, 166, 167, 168, 169, 170, 171, 172, 173] (by decide +kernel) (by decide +kernel)
set_option maxRecDepth 20000 in
theorem gX6_take_X6_deliver : GoodIn wsX6_take (wsV RX6 102 RX6 yX6_deliver wsX6_deliver) := goodIn_app (goodIn_of _ (by decide +kernel)) ggX6_take_X6_deliver
theorem dX6_take_0 : decode cX6_take 0 = .ok (.iload_n 1, 1) := by decide +kernel
theorem dX6_take_1 : decode cX6_take 1 = .ok (.aload_n 0, 1) := by decide +kernel
theorem dX6_take_2 : decode cX6_take 2 = .ok (.getfield 49, 3) := by decide +kernel
theorem dX6_take_5 : decode cX6_take 5 = .ok (.getfield 99, 3) := by decide +kernel
theorem dX6_take_8 : decode cX6_take 8 = .ok (.invokestatic 57, 3) := by decide +kernel
theorem dX6_take_11 : decode cX6_take 11 = .ok (.aload_n 0, 1) := by decide +kernel
theorem dX6_take_12 : decode cX6_take 12 = .ok (.iload_n 1, 1) := by decide +kernel
theorem dX6_take_13 : decode cX6_take 13 = .ok (.invokevirtual 102, 3) := by decide +kernel
theorem dX6_take_16 : decode cX6_take 16 = .ok (.ireturn, 1) := by decide +kernel
set_option maxRecDepth 20000 in
theorem ggX6_run_X6_needRange : GoodIn wsX6_run wsX6_needRange := goodIn_ca (goodIn_r _ [5, 6, 7] (by decide +kernel) (by decide +kernel)) (goodIn_sub (fun _ h => List.mem_cons_of_mem _ (List.mem_append_right _ h)) (by decide +kernel))
set_option maxRecDepth 20000 in
theorem gX6_run_X6_needRange : GoodIn wsX6_run (va_wsS RX6 61 yX6_needRange wsX6_needRange) := goodIn_app (goodIn_of _ (by decide +kernel)) ggX6_run_X6_needRange
set_option maxRecDepth 20000 in
theorem ggX6_run_X6_deliver : GoodIn wsX6_run wsX6_deliver := goodIn_r _ [11, 1, 12, 13, 14, 15, 16, 17, 18, 19, 20, 4, 21, 22, 23, 24, 25, 26, 27, 28, 29, 30, 31, 32, 33, 34, 35, 36, 37, 38, 39, 40, 41, 42, 43, 44, 45, 46, 47, 48, 49, 50, 51, 52, 53, 54, 55, 56, 57, 58, 59, 60, 61, 62, 63, 64, 65, 66, 67, 68, 69, 70, 71, 72, 73, 74, 75, 76, 77, 78, 79, 80, 81, 82, 83, 84, 85, 86, 87, 88, 89, 90, 91, 92, 93, 94, 95, 96, 97, 98, 99, 100, 101, 102, 103, 104, 105, 106, 107, 108, 109, 110, 111, 112, 113, 114, 115, 116, 117, 118, 119, 120, 121, 122, 123, 124, 125, 126, 127, 128, 129, 130, 131, 132, 133, 134, 135, 136, 137, 138, 141, 142, 143, 144, 145, 146, 147, 139, 140, 148, 149, 150, 151, 152, 153, 154, 155, 156, 157, 158, 159, 160, 161, 162, 163, 164, 165, 166, 167, 168, 169, 170, 171, 172, 173] (by decide +kernel) (by decide +kernel)
set_option maxRecDepth 20000 in
theorem gX6_run_X6_deliver : GoodIn wsX6_run (wsV RX6 102 RX6 yX6_deliver wsX6_deliver) := goodIn_app (goodIn_of _ (by decide +kernel)) ggX6_run_X6_deliver
theorem dX6_run_0 : decode cX6_run 0 = .ok (.iload_n 1, 1) := by decide +kernel
theorem dX6_run_1 : decode cX6_run 1 = .ok (.iconst 0, 1) := by decide +kernel
theorem dX6_run_2 : decode cX6_run 2 = .ok (.sipush 1000, 3) := by decide +kernel
theorem dX6_run_5 : decode cX6_run 5 = .ok (.invokestatic 61, 3) := by decide +kernel
theorem dX6_run_8 : decode cX6_run 8 = .ok (.iconst 0, 1) := by decide +kernel
theorem dX6_run_9 : decode cX6_run 9 = .ok (.istore_n 2, 1) := by decide +kernel
theorem dX6_run_10 : decode cX6_run 10 = .ok (.iload_n 2, 1) := by decide +kernel
theorem dX6_run_11 : decode cX6_run 11 = .ok (.iload_n 1, 1) := by decide +kernel
theorem dX6_run_12 : decode cX6_run 12 = .ok (.if_icmp .ge 25, 3) := by decide +kernel
theorem dX6_run_15 : decode cX6_run 15 = .ok (.aload_n 0, 1) := by decide +kernel
theorem dX6_run_16 : decode cX6_run 16 = .ok (.getfield 49, 3) := by decide +kernel
theorem dX6_run_19 : decode cX6_run 19 = .ok (.getfield 99, 3) := by decide +kernel
theorem dX6_run_22 : decode cX6_run 22 = .ok (.ifCond .le 15, 3) := by decide +kernel
theorem dX6_run_25 : decode cX6_run 25 = .ok (.aload_n 0, 1) := by decide +kernel
theorem dX6_run_26 : decode cX6_run 26 = .ok (.iconst 0, 1) := by decide +kernel
theorem dX6_run_27 : decode cX6_run 27 = .ok (.invokevirtual 102, 3) := by decide +kernel
theorem dX6_run_30 : decode cX6_run 30 = .ok (.pop, 1) := by decide +kernel
theorem dX6_run_31 : decode cX6_run 31 = .ok (.iinc 2 1, 3) := by decide +kernel
theorem dX6_run_34 : decode cX6_run 34 = .ok (.goto (-24), 3) := by decide +kernel
theorem dX6_run_37 : decode cX6_run 37 = .ok (.iload_n 2, 1) := by decide +kernel
theorem dX6_run_38 : decode cX6_run 38 = .ok (.ireturn, 1) := by decide +kernel
set_option maxRecDepth 20000 in
theorem ggX6_lose_X6_needIndex : GoodIn wsX6_lose wsX6_needIndex := goodIn_ca (goodIn_r _ [5, 6, 7] (by decide +kernel) (by decide +kernel)) (goodIn_sub (fun _ h => List.mem_cons_of_mem _ (List.mem_append_right _ h)) (by decide +kernel))
set_option maxRecDepth 20000 in
theorem gX6_lose_X6_needIndex : GoodIn wsX6_lose (va_wsS RX6 57 yX6_needIndex wsX6_needIndex) := goodIn_app (goodIn_of _ (by decide +kernel)) ggX6_lose_X6_needIndex
set_option maxRecDepth 20000 in
theorem ggX6_lose_X4_drawOut : GoodIn wsX6_lose wsX4_drawOut := goodIn_r _ [11, 12, 13, 21, 22] (by decide +kernel) (by decide +kernel)
set_option maxRecDepth 20000 in
theorem gX6_lose_X4_drawOut_n105 : GoodIn wsX6_lose (wsX4_drawOut) := ggX6_lose_X4_drawOut
theorem dX6_lose_0 : decode cX6_lose 0 = .ok (.iload_n 1, 1) := by decide +kernel
theorem dX6_lose_1 : decode cX6_lose 1 = .ok (.aload_n 0, 1) := by decide +kernel
theorem dX6_lose_2 : decode cX6_lose 2 = .ok (.getfield 49, 3) := by decide +kernel
theorem dX6_lose_5 : decode cX6_lose 5 = .ok (.getfield 99, 3) := by decide +kernel
theorem dX6_lose_8 : decode cX6_lose 8 = .ok (.invokestatic 57, 3) := by decide +kernel
theorem dX6_lose_11 : decode cX6_lose 11 = .ok (.aload_n 0, 1) := by decide +kernel
theorem dX6_lose_12 : decode cX6_lose 12 = .ok (.getfield 49, 3) := by decide +kernel
theorem dX6_lose_15 : decode cX6_lose 15 = .ok (.iload_n 1, 1) := by decide +kernel
theorem dX6_lose_16 : decode cX6_lose 16 = .ok (.invokevirtual 105, 3) := by decide +kernel
theorem dX6_lose_19 : decode cX6_lose 19 = .ok (.getfield 109, 3) := by decide +kernel
theorem dX6_lose_22 : decode cX6_lose 22 = .ok (.ireturn, 1) := by decide +kernel
set_option maxRecDepth 20000 in
theorem ggX6_twice_X6_needIndex : GoodIn wsX6_twice wsX6_needIndex := goodIn_ca (goodIn_r _ [5, 6, 7] (by decide +kernel) (by decide +kernel)) (goodIn_sub (fun _ h => List.mem_cons_of_mem _ (List.mem_append_right _ h)) (by decide +kernel))
set_option maxRecDepth 20000 in
theorem gX6_twice_X6_needIndex : GoodIn wsX6_twice (va_wsS RX6 57 yX6_needIndex wsX6_needIndex) := goodIn_app (goodIn_of _ (by decide +kernel)) ggX6_twice_X6_needIndex
set_option maxRecDepth 20000 in
theorem ggX6_twice_X4_send : GoodIn wsX6_twice wsX4_send := goodIn_r _ [11, 12, 13, 21, 22, 23, 24, 25, 26, 27, 28, 29] (by decide +kernel) (by decide +kernel)
set_option maxRecDepth 20000 in
theorem gX6_twice_X4_send_n136 : GoodIn wsX6_twice (wsX4_send) := ggX6_twice_X4_send
theorem dX6_twice_0 : decode cX6_twice 0 = .ok (.iload_n 1, 1) := by decide +kernel
theorem dX6_twice_1 : decode cX6_twice 1 = .ok (.aload_n 0, 1) := by decide +kernel
theorem dX6_twice_2 : decode cX6_twice 2 = .ok (.getfield 49, 3) := by decide +kernel
theorem dX6_twice_5 : decode cX6_twice 5 = .ok (.getfield 99, 3) := by decide +kernel
theorem dX6_twice_8 : decode cX6_twice 8 = .ok (.invokestatic 57, 3) := by decide +kernel
theorem dX6_twice_11 : decode cX6_twice 11 = .ok (.aload_n 0, 1) := by decide +kernel
theorem dX6_twice_12 : decode cX6_twice 12 = .ok (.getfield 49, 3) := by decide +kernel
theorem dX6_twice_15 : decode cX6_twice 15 = .ok (.getfield 99, 3) := by decide +kernel
theorem dX6_twice_18 : decode cX6_twice 18 = .ok (.sipush 300, 3) := by decide +kernel
theorem dX6_twice_21 : decode cX6_twice 21 = .ok (.if_icmp .lt 5, 3) := by decide +kernel
theorem dX6_twice_24 : decode cX6_twice 24 = .ok (.iconst (-1), 1) := by decide +kernel
theorem dX6_twice_25 : decode cX6_twice 25 = .ok (.ireturn, 1) := by decide +kernel
theorem dX6_twice_26 : decode cX6_twice 26 = .ok (.aload_n 0, 1) := by decide +kernel
theorem dX6_twice_27 : decode cX6_twice 27 = .ok (.getfield 49, 3) := by decide +kernel
theorem dX6_twice_30 : decode cX6_twice 30 = .ok (.getfield 114, 3) := by decide +kernel
theorem dX6_twice_33 : decode cX6_twice 33 = .ok (.iload_n 1, 1) := by decide +kernel
theorem dX6_twice_34 : decode cX6_twice 34 = .ok (.aaload, 1) := by decide +kernel
theorem dX6_twice_35 : decode cX6_twice 35 = .ok (.astore_n 2, 1) := by decide +kernel
theorem dX6_twice_36 : decode cX6_twice 36 = .ok (.aload_n 0, 1) := by decide +kernel
theorem dX6_twice_37 : decode cX6_twice 37 = .ok (.getfield 49, 3) := by decide +kernel
theorem dX6_twice_40 : decode cX6_twice 40 = .ok (.aload_n 2, 1) := by decide +kernel
theorem dX6_twice_41 : decode cX6_twice 41 = .ok (.getfield 109, 3) := by decide +kernel
theorem dX6_twice_44 : decode cX6_twice 44 = .ok (.aload_n 2, 1) := by decide +kernel
theorem dX6_twice_45 : decode cX6_twice 45 = .ok (.getfield 118, 3) := by decide +kernel
theorem dX6_twice_48 : decode cX6_twice 48 = .ok (.aload_n 2, 1) := by decide +kernel
theorem dX6_twice_49 : decode cX6_twice 49 = .ok (.getfield 121, 3) := by decide +kernel
theorem dX6_twice_52 : decode cX6_twice 52 = .ok (.aload_n 2, 1) := by decide +kernel
theorem dX6_twice_53 : decode cX6_twice 53 = .ok (.getfield 124, 3) := by decide +kernel
theorem dX6_twice_56 : decode cX6_twice 56 = .ok (.aload_n 2, 1) := by decide +kernel
theorem dX6_twice_57 : decode cX6_twice 57 = .ok (.getfield 127, 3) := by decide +kernel
theorem dX6_twice_60 : decode cX6_twice 60 = .ok (.aload_n 2, 1) := by decide +kernel
theorem dX6_twice_61 : decode cX6_twice 61 = .ok (.getfield 130, 3) := by decide +kernel
theorem dX6_twice_64 : decode cX6_twice 64 = .ok (.aload_n 2, 1) := by decide +kernel
theorem dX6_twice_65 : decode cX6_twice 65 = .ok (.getfield 133, 3) := by decide +kernel
theorem dX6_twice_68 : decode cX6_twice 68 = .ok (.invokevirtual 136, 3) := by decide +kernel
theorem dX6_twice_71 : decode cX6_twice 71 = .ok (.aload_n 0, 1) := by decide +kernel
theorem dX6_twice_72 : decode cX6_twice 72 = .ok (.getfield 49, 3) := by decide +kernel
theorem dX6_twice_75 : decode cX6_twice 75 = .ok (.getfield 99, 3) := by decide +kernel
theorem dX6_twice_78 : decode cX6_twice 78 = .ok (.ireturn, 1) := by decide +kernel
set_option maxRecDepth 20000 in
theorem ggX6_down_X6_needIndex : GoodIn wsX6_down wsX6_needIndex := goodIn_ca (goodIn_r _ [5, 6, 7] (by decide +kernel) (by decide +kernel)) (goodIn_sub (fun _ h => List.mem_cons_of_mem _ (List.mem_append_right _ h)) (by decide +kernel))
set_option maxRecDepth 20000 in
theorem gX6_down_X6_needIndex : GoodIn wsX6_down (va_wsS RX6 57 yX6_needIndex wsX6_needIndex) := goodIn_app (goodIn_of _ (by decide +kernel)) ggX6_down_X6_needIndex
theorem dX6_down_0 : decode cX6_down 0 = .ok (.iload_n 1, 1) := by decide +kernel
theorem dX6_down_1 : decode cX6_down 1 = .ok (.bipush 9, 2) := by decide +kernel
theorem dX6_down_3 : decode cX6_down 3 = .ok (.invokestatic 57, 3) := by decide +kernel
theorem dX6_down_6 : decode cX6_down 6 = .ok (.aload_n 0, 1) := by decide +kernel
theorem dX6_down_7 : decode cX6_down 7 = .ok (.getfield 27, 3) := by decide +kernel
theorem dX6_down_10 : decode cX6_down 10 = .ok (.iload_n 1, 1) := by decide +kernel
theorem dX6_down_11 : decode cX6_down 11 = .ok (.baload, 1) := by decide +kernel
theorem dX6_down_12 : decode cX6_down 12 = .ok (.istore_n 3, 1) := by decide +kernel
theorem dX6_down_13 : decode cX6_down 13 = .ok (.aload_n 0, 1) := by decide +kernel
theorem dX6_down_14 : decode cX6_down 14 = .ok (.getfield 27, 3) := by decide +kernel
theorem dX6_down_17 : decode cX6_down 17 = .ok (.iload_n 1, 1) := by decide +kernel
theorem dX6_down_18 : decode cX6_down 18 = .ok (.iload_n 2, 1) := by decide +kernel
theorem dX6_down_19 : decode cX6_down 19 = .ok (.bastore, 1) := by decide +kernel
theorem dX6_down_20 : decode cX6_down 20 = .ok (.iload_n 3, 1) := by decide +kernel
theorem dX6_down_21 : decode cX6_down 21 = .ok (.ireturn, 1) := by decide +kernel
set_option maxRecDepth 20000 in
theorem ggX6_copy_X6_needIndex : GoodIn wsX6_copy wsX6_needIndex := goodIn_ca (goodIn_r _ [4, 5, 6] (by decide +kernel) (by decide +kernel)) (goodIn_sub (fun _ h => List.mem_cons_of_mem _ (List.mem_append_right _ h)) (by decide +kernel))
set_option maxRecDepth 20000 in
theorem gX6_copy_X6_needIndex : GoodIn wsX6_copy (va_wsS RX6 57 yX6_needIndex wsX6_needIndex) := goodIn_app (goodIn_of _ (by decide +kernel)) ggX6_copy_X6_needIndex
set_option maxRecDepth 20000 in
theorem ggX6_copy_X6_registerOf : GoodIn wsX6_copy wsX6_registerOf := goodIn_r _ [10, 11, 23, 24, 25, 26, 27, 28, 29] (by decide +kernel) (by decide +kernel)
set_option maxRecDepth 20000 in
theorem gX6_copy_X6_registerOf : GoodIn wsX6_copy (wsV RX6 140 RX6 yX6_registerOf wsX6_registerOf) := goodIn_app (goodIn_of _ (by decide +kernel)) ggX6_copy_X6_registerOf
set_option maxRecDepth 20000 in
theorem ggX6_copy_X2_catchUp : GoodIn wsX6_copy wsX2_catchUp := goodIn_r _ [15, 16, 17, 18, 19, 20, 21, 22, 30, 31, 32] (by decide +kernel) (by decide +kernel)
set_option maxRecDepth 20000 in
theorem gX6_copy_X2_catchUp_n144 : GoodIn wsX6_copy (wsX2_catchUp) := ggX6_copy_X2_catchUp
theorem dX6_copy_0 : decode cX6_copy 0 = .ok (.iload_n 1, 1) := by decide +kernel
theorem dX6_copy_1 : decode cX6_copy 1 = .ok (.bipush 9, 2) := by decide +kernel
theorem dX6_copy_3 : decode cX6_copy 3 = .ok (.invokestatic 57, 3) := by decide +kernel
theorem dX6_copy_6 : decode cX6_copy 6 = .ok (.iload_n 2, 1) := by decide +kernel
theorem dX6_copy_7 : decode cX6_copy 7 = .ok (.bipush 9, 2) := by decide +kernel
theorem dX6_copy_9 : decode cX6_copy 9 = .ok (.invokestatic 57, 3) := by decide +kernel
theorem dX6_copy_12 : decode cX6_copy 12 = .ok (.iconst 0, 1) := by decide +kernel
theorem dX6_copy_13 : decode cX6_copy 13 = .ok (.istore_n 3, 1) := by decide +kernel
theorem dX6_copy_14 : decode cX6_copy 14 = .ok (.iconst 0, 1) := by decide +kernel
theorem dX6_copy_15 : decode cX6_copy 15 = .ok (.istore 4, 2) := by decide +kernel
theorem dX6_copy_17 : decode cX6_copy 17 = .ok (.iload 4, 2) := by decide +kernel
theorem dX6_copy_19 : decode cX6_copy 19 = .ok (.iconst 4, 1) := by decide +kernel
theorem dX6_copy_20 : decode cX6_copy 20 = .ok (.if_icmp .ge 32, 3) := by decide +kernel
theorem dX6_copy_23 : decode cX6_copy 23 = .ok (.aload_n 0, 1) := by decide +kernel
theorem dX6_copy_24 : decode cX6_copy 24 = .ok (.iload_n 1, 1) := by decide +kernel
theorem dX6_copy_25 : decode cX6_copy 25 = .ok (.iload 4, 2) := by decide +kernel
theorem dX6_copy_27 : decode cX6_copy 27 = .ok (.invokevirtual 140, 3) := by decide +kernel
theorem dX6_copy_30 : decode cX6_copy 30 = .ok (.aload_n 0, 1) := by decide +kernel
theorem dX6_copy_31 : decode cX6_copy 31 = .ok (.iload_n 2, 1) := by decide +kernel
theorem dX6_copy_32 : decode cX6_copy 32 = .ok (.iload 4, 2) := by decide +kernel
theorem dX6_copy_34 : decode cX6_copy 34 = .ok (.invokevirtual 140, 3) := by decide +kernel
theorem dX6_copy_37 : decode cX6_copy 37 = .ok (.invokevirtual 144, 3) := by decide +kernel
theorem dX6_copy_40 : decode cX6_copy 40 = .ok (.ifCond .eq 6, 3) := by decide +kernel
theorem dX6_copy_43 : decode cX6_copy 43 = .ok (.iinc 3 1, 3) := by decide +kernel
theorem dX6_copy_46 : decode cX6_copy 46 = .ok (.iinc 4 1, 3) := by decide +kernel
theorem dX6_copy_49 : decode cX6_copy 49 = .ok (.goto (-32), 3) := by decide +kernel
theorem dX6_copy_52 : decode cX6_copy 52 = .ok (.iload_n 3, 1) := by decide +kernel
theorem dX6_copy_53 : decode cX6_copy 53 = .ok (.ireturn, 1) := by decide +kernel
theorem dX6_messages_0 : decode cX6_messages 0 = .ok (.aload_n 0, 1) := by decide +kernel
theorem dX6_messages_1 : decode cX6_messages 1 = .ok (.getfield 49, 3) := by decide +kernel
theorem dX6_messages_4 : decode cX6_messages 4 = .ok (.getfield 99, 3) := by decide +kernel
theorem dX6_messages_7 : decode cX6_messages 7 = .ok (.ireturn, 1) := by decide +kernel
set_option maxRecDepth 20000 in
theorem ggX6_message_X6_needIndex : GoodIn wsX6_message wsX6_needIndex := goodIn_ca (goodIn_r _ [7, 1, 2] (by decide +kernel) (by decide +kernel)) (goodIn_sub (fun _ h => List.mem_cons_of_mem _ (List.mem_append_right _ h)) (by decide +kernel))
set_option maxRecDepth 20000 in
theorem gX6_message_X6_needIndex : GoodIn wsX6_message (va_wsS RX6 57 yX6_needIndex wsX6_needIndex) := goodIn_app (goodIn_of _ (by decide +kernel)) ggX6_message_X6_needIndex
set_option maxRecDepth 20000 in
theorem ggX6_message_X5_versionOrNone : GoodIn wsX6_message wsX5_versionOrNone := goodIn_r _ [11, 12, 13, 30, 31, 32] (by decide +kernel) (by decide +kernel)
set_option maxRecDepth 20000 in
theorem gX6_message_X5_versionOrNone_n148 : GoodIn wsX6_message (wsX5_versionOrNone) := ggX6_message_X5_versionOrNone
theorem dX6_message_0 : decode cX6_message 0 = .ok (.iload_n 1, 1) := by decide +kernel
theorem dX6_message_1 : decode cX6_message 1 = .ok (.aload_n 0, 1) := by decide +kernel
theorem dX6_message_2 : decode cX6_message 2 = .ok (.getfield 49, 3) := by decide +kernel
theorem dX6_message_5 : decode cX6_message 5 = .ok (.getfield 99, 3) := by decide +kernel
theorem dX6_message_8 : decode cX6_message 8 = .ok (.invokestatic 57, 3) := by decide +kernel
theorem dX6_message_11 : decode cX6_message 11 = .ok (.aload_n 0, 1) := by decide +kernel
theorem dX6_message_12 : decode cX6_message 12 = .ok (.getfield 49, 3) := by decide +kernel
theorem dX6_message_15 : decode cX6_message 15 = .ok (.getfield 114, 3) := by decide +kernel
theorem dX6_message_18 : decode cX6_message 18 = .ok (.iload_n 1, 1) := by decide +kernel
theorem dX6_message_19 : decode cX6_message 19 = .ok (.aaload, 1) := by decide +kernel
theorem dX6_message_20 : decode cX6_message 20 = .ok (.astore_n 3, 1) := by decide +kernel
theorem dX6_message_21 : decode cX6_message 21 = .ok (.iload_n 2, 1) := by decide +kernel
theorem dX6_message_22 : decode cX6_message 22 = .ok (.tableswitch 71 0 5 #[38, 43, 48, 53, 58, 63], 38) := by decide +kernel
theorem dX6_message_60 : decode cX6_message 60 = .ok (.aload_n 3, 1) := by decide +kernel
theorem dX6_message_61 : decode cX6_message 61 = .ok (.getfield 109, 3) := by decide +kernel
theorem dX6_message_64 : decode cX6_message 64 = .ok (.ireturn, 1) := by decide +kernel
theorem dX6_message_65 : decode cX6_message 65 = .ok (.aload_n 3, 1) := by decide +kernel
theorem dX6_message_66 : decode cX6_message 66 = .ok (.getfield 118, 3) := by decide +kernel
theorem dX6_message_69 : decode cX6_message 69 = .ok (.ireturn, 1) := by decide +kernel
theorem dX6_message_70 : decode cX6_message 70 = .ok (.aload_n 3, 1) := by decide +kernel
theorem dX6_message_71 : decode cX6_message 71 = .ok (.getfield 121, 3) := by decide +kernel
theorem dX6_message_74 : decode cX6_message 74 = .ok (.ireturn, 1) := by decide +kernel
theorem dX6_message_75 : decode cX6_message 75 = .ok (.aload_n 3, 1) := by decide +kernel
theorem dX6_message_76 : decode cX6_message 76 = .ok (.getfield 124, 3) := by decide +kernel
theorem dX6_message_79 : decode cX6_message 79 = .ok (.ireturn, 1) := by decide +kernel
theorem dX6_message_80 : decode cX6_message 80 = .ok (.aload_n 3, 1) := by decide +kernel
theorem dX6_message_81 : decode cX6_message 81 = .ok (.getfield 130, 3) := by decide +kernel
theorem dX6_message_84 : decode cX6_message 84 = .ok (.ireturn, 1) := by decide +kernel
theorem dX6_message_85 : decode cX6_message 85 = .ok (.aload_n 3, 1) := by decide +kernel
theorem dX6_message_86 : decode cX6_message 86 = .ok (.getfield 133, 3) := by decide +kernel
theorem dX6_message_89 : decode cX6_message 89 = .ok (.invokevirtual 148, 3) := by decide +kernel
theorem dX6_message_92 : decode cX6_message 92 = .ok (.ireturn, 1) := by decide +kernel
theorem dX6_message_93 : decode cX6_message 93 = .ok (.new 152, 3) := by decide +kernel
theorem dX6_message_96 : decode cX6_message 96 = .ok (.dup, 1) := by decide +kernel
theorem dX6_message_97 : decode cX6_message 97 = .ok (.ldc 154, 2) := by decide +kernel
theorem dX6_message_99 : decode cX6_message 99 = .ok (.invokespecial 156, 3) := by decide +kernel
theorem dX6_message_102 : decode cX6_message 102 = .ok (.athrow, 1) := by decide +kernel
set_option maxRecDepth 20000 in
theorem ggX6_keeper_X6_needIndex : GoodIn wsX6_keeper wsX6_needIndex := goodIn_ca (goodIn_r _ [6, 1, 2] (by decide +kernel) (by decide +kernel)) (goodIn_sub (fun _ h => List.mem_cons_of_mem _ (List.mem_append_right _ h)) (by decide +kernel))
set_option maxRecDepth 20000 in
theorem gX6_keeper_X6_needIndex : GoodIn wsX6_keeper (va_wsS RX6 57 yX6_needIndex wsX6_needIndex) := goodIn_app (goodIn_of _ (by decide +kernel)) ggX6_keeper_X6_needIndex
set_option maxRecDepth 20000 in
theorem ggX6_keeper_X6_registerOf : GoodIn wsX6_keeper wsX6_registerOf := goodIn_r _ [10, 11, 21, 22, 23, 24, 25, 26, 27] (by decide +kernel) (by decide +kernel)
set_option maxRecDepth 20000 in
theorem gX6_keeper_X6_registerOf : GoodIn wsX6_keeper (wsV RX6 140 RX6 yX6_registerOf wsX6_registerOf) := goodIn_app (goodIn_of _ (by decide +kernel)) ggX6_keeper_X6_registerOf
set_option maxRecDepth 20000 in
theorem ggX6_keeper_X5_versionOrNone : GoodIn wsX6_keeper wsX5_versionOrNone := goodIn_r _ [15, 16, 17, 28, 29, 30] (by decide +kernel) (by decide +kernel)
set_option maxRecDepth 20000 in
theorem gX6_keeper_X5_versionOrNone_n148 : GoodIn wsX6_keeper (wsX5_versionOrNone) := ggX6_keeper_X5_versionOrNone
theorem dX6_keeper_0 : decode cX6_keeper 0 = .ok (.iload_n 1, 1) := by decide +kernel
theorem dX6_keeper_1 : decode cX6_keeper 1 = .ok (.bipush 9, 2) := by decide +kernel
theorem dX6_keeper_3 : decode cX6_keeper 3 = .ok (.invokestatic 57, 3) := by decide +kernel
theorem dX6_keeper_6 : decode cX6_keeper 6 = .ok (.iload_n 2, 1) := by decide +kernel
theorem dX6_keeper_7 : decode cX6_keeper 7 = .ok (.iconst 4, 1) := by decide +kernel
theorem dX6_keeper_8 : decode cX6_keeper 8 = .ok (.invokestatic 57, 3) := by decide +kernel
theorem dX6_keeper_11 : decode cX6_keeper 11 = .ok (.aload_n 0, 1) := by decide +kernel
theorem dX6_keeper_12 : decode cX6_keeper 12 = .ok (.iload_n 1, 1) := by decide +kernel
theorem dX6_keeper_13 : decode cX6_keeper 13 = .ok (.iload_n 2, 1) := by decide +kernel
theorem dX6_keeper_14 : decode cX6_keeper 14 = .ok (.invokevirtual 140, 3) := by decide +kernel
theorem dX6_keeper_17 : decode cX6_keeper 17 = .ok (.astore 4, 2) := by decide +kernel
theorem dX6_keeper_19 : decode cX6_keeper 19 = .ok (.iload_n 3, 1) := by decide +kernel
theorem dX6_keeper_20 : decode cX6_keeper 20 = .ok (.tableswitch 49 0 2 #[28, 34, 40], 28) := by decide +kernel
theorem dX6_keeper_48 : decode cX6_keeper 48 = .ok (.aload 4, 2) := by decide +kernel
theorem dX6_keeper_50 : decode cX6_keeper 50 = .ok (.getfield 159, 3) := by decide +kernel
theorem dX6_keeper_53 : decode cX6_keeper 53 = .ok (.ireturn, 1) := by decide +kernel
theorem dX6_keeper_54 : decode cX6_keeper 54 = .ok (.aload 4, 2) := by decide +kernel
theorem dX6_keeper_56 : decode cX6_keeper 56 = .ok (.getfield 162, 3) := by decide +kernel
theorem dX6_keeper_59 : decode cX6_keeper 59 = .ok (.ireturn, 1) := by decide +kernel
theorem dX6_keeper_60 : decode cX6_keeper 60 = .ok (.aload 4, 2) := by decide +kernel
theorem dX6_keeper_62 : decode cX6_keeper 62 = .ok (.getfield 163, 3) := by decide +kernel
theorem dX6_keeper_65 : decode cX6_keeper 65 = .ok (.invokevirtual 148, 3) := by decide +kernel
theorem dX6_keeper_68 : decode cX6_keeper 68 = .ok (.ireturn, 1) := by decide +kernel
theorem dX6_keeper_69 : decode cX6_keeper 69 = .ok (.new 152, 3) := by decide +kernel
theorem dX6_keeper_72 : decode cX6_keeper 72 = .ok (.dup, 1) := by decide +kernel
theorem dX6_keeper_73 : decode cX6_keeper 73 = .ok (.ldc 164, 2) := by decide +kernel
theorem dX6_keeper_75 : decode cX6_keeper 75 = .ok (.invokespecial 156, 3) := by decide +kernel
theorem dX6_keeper_78 : decode cX6_keeper 78 = .ok (.athrow, 1) := by decide +kernel
set_option maxRecDepth 20000 in
theorem ggX6_kept_X6_needIndex : GoodIn wsX6_kept wsX6_needIndex := goodIn_ca (goodIn_r _ [4, 5, 6] (by decide +kernel) (by decide +kernel)) (goodIn_sub (fun _ h => List.mem_cons_of_mem _ (List.mem_append_right _ h)) (by decide +kernel))
set_option maxRecDepth 20000 in
theorem gX6_kept_X6_needIndex : GoodIn wsX6_kept (va_wsS RX6 57 yX6_needIndex wsX6_needIndex) := goodIn_app (goodIn_of _ (by decide +kernel)) ggX6_kept_X6_needIndex
set_option maxRecDepth 20000 in
theorem ggX6_kept_X6_registerOf : GoodIn wsX6_kept wsX6_registerOf := goodIn_r _ [10, 11, 18, 19, 20, 21, 22, 23, 24] (by decide +kernel) (by decide +kernel)
set_option maxRecDepth 20000 in
theorem gX6_kept_X6_registerOf : GoodIn wsX6_kept (wsV RX6 140 RX6 yX6_registerOf wsX6_registerOf) := goodIn_app (goodIn_of _ (by decide +kernel)) ggX6_kept_X6_registerOf
theorem dX6_kept_0 : decode cX6_kept 0 = .ok (.iload_n 1, 1) := by decide +kernel
theorem dX6_kept_1 : decode cX6_kept 1 = .ok (.bipush 9, 2) := by decide +kernel
theorem dX6_kept_3 : decode cX6_kept 3 = .ok (.invokestatic 57, 3) := by decide +kernel
theorem dX6_kept_6 : decode cX6_kept 6 = .ok (.iload_n 2, 1) := by decide +kernel
theorem dX6_kept_7 : decode cX6_kept 7 = .ok (.iconst 4, 1) := by decide +kernel
theorem dX6_kept_8 : decode cX6_kept 8 = .ok (.invokestatic 57, 3) := by decide +kernel
theorem dX6_kept_11 : decode cX6_kept 11 = .ok (.aload_n 0, 1) := by decide +kernel
theorem dX6_kept_12 : decode cX6_kept 12 = .ok (.iload_n 1, 1) := by decide +kernel
theorem dX6_kept_13 : decode cX6_kept 13 = .ok (.iload_n 2, 1) := by decide +kernel
theorem dX6_kept_14 : decode cX6_kept 14 = .ok (.invokevirtual 140, 3) := by decide +kernel
theorem dX6_kept_17 : decode cX6_kept 17 = .ok (.getfield 163, 3) := by decide +kernel
theorem dX6_kept_20 : decode cX6_kept 20 = .ok (.getfield 166, 3) := by decide +kernel
theorem dX6_kept_23 : decode cX6_kept 23 = .ok (.lreturn, 1) := by decide +kernel
set_option maxRecDepth 20000 in
theorem ggX6_asker_X6_needIndex : GoodIn wsX6_asker wsX6_needIndex := goodIn_ca (goodIn_r _ [7, 1, 2] (by decide +kernel) (by decide +kernel)) (goodIn_sub (fun _ h => List.mem_cons_of_mem _ (List.mem_append_right _ h)) (by decide +kernel))
set_option maxRecDepth 20000 in
theorem gX6_asker_X6_needIndex : GoodIn wsX6_asker (va_wsS RX6 57 yX6_needIndex wsX6_needIndex) := goodIn_app (goodIn_of _ (by decide +kernel)) ggX6_asker_X6_needIndex
set_option maxRecDepth 20000 in
theorem ggX6_asker_X3_answers : GoodIn wsX6_asker wsX3_answers := goodIn_r _ [11, 12, 13, 14, 15, 16, 17, 18, 19, 32, 33, 34, 35, 36, 37, 38, 39, 40, 41, 42, 43, 44, 45, 46] (by decide +kernel) (by decide +kernel)
set_option maxRecDepth 20000 in
theorem gX6_asker_X3_answers_n174 : GoodIn wsX6_asker (wsX3_answers) := ggX6_asker_X3_answers
theorem dX6_asker_0 : decode cX6_asker 0 = .ok (.iload_n 1, 1) := by decide +kernel
theorem dX6_asker_1 : decode cX6_asker 1 = .ok (.iconst 4, 1) := by decide +kernel
theorem dX6_asker_2 : decode cX6_asker 2 = .ok (.invokestatic 57, 3) := by decide +kernel
theorem dX6_asker_5 : decode cX6_asker 5 = .ok (.aload_n 0, 1) := by decide +kernel
theorem dX6_asker_6 : decode cX6_asker 6 = .ok (.getfield 33, 3) := by decide +kernel
theorem dX6_asker_9 : decode cX6_asker 9 = .ok (.iload_n 1, 1) := by decide +kernel
theorem dX6_asker_10 : decode cX6_asker 10 = .ok (.aaload, 1) := by decide +kernel
theorem dX6_asker_11 : decode cX6_asker 11 = .ok (.getfield 65, 3) := by decide +kernel
theorem dX6_asker_14 : decode cX6_asker 14 = .ok (.astore_n 3, 1) := by decide +kernel
theorem dX6_asker_15 : decode cX6_asker 15 = .ok (.iload_n 2, 1) := by decide +kernel
theorem dX6_asker_16 : decode cX6_asker 16 = .ok (.tableswitch 85 0 3 #[32, 42, 55, 72], 32) := by decide +kernel
theorem dX6_asker_48 : decode cX6_asker 48 = .ok (.aload_n 0, 1) := by decide +kernel
theorem dX6_asker_49 : decode cX6_asker 49 = .ok (.getfield 33, 3) := by decide +kernel
theorem dX6_asker_52 : decode cX6_asker 52 = .ok (.iload_n 1, 1) := by decide +kernel
theorem dX6_asker_53 : decode cX6_asker 53 = .ok (.aaload, 1) := by decide +kernel
theorem dX6_asker_54 : decode cX6_asker 54 = .ok (.getfield 69, 3) := by decide +kernel
theorem dX6_asker_57 : decode cX6_asker 57 = .ok (.ireturn, 1) := by decide +kernel
theorem dX6_asker_58 : decode cX6_asker 58 = .ok (.aload_n 3, 1) := by decide +kernel
theorem dX6_asker_59 : decode cX6_asker 59 = .ok (.ifnonnull 7, 3) := by decide +kernel
theorem dX6_asker_62 : decode cX6_asker 62 = .ok (.iconst (-1), 1) := by decide +kernel
theorem dX6_asker_63 : decode cX6_asker 63 = .ok (.goto 7, 3) := by decide +kernel
theorem dX6_asker_66 : decode cX6_asker 66 = .ok (.aload_n 3, 1) := by decide +kernel
theorem dX6_asker_67 : decode cX6_asker 67 = .ok (.getfield 83, 3) := by decide +kernel
theorem dX6_asker_70 : decode cX6_asker 70 = .ok (.ireturn, 1) := by decide +kernel
theorem dX6_asker_71 : decode cX6_asker 71 = .ok (.aload_n 3, 1) := by decide +kernel
theorem dX6_asker_72 : decode cX6_asker 72 = .ok (.ifnull 14, 3) := by decide +kernel
theorem dX6_asker_75 : decode cX6_asker 75 = .ok (.aload_n 3, 1) := by decide +kernel
theorem dX6_asker_76 : decode cX6_asker 76 = .ok (.getfield 170, 3) := by decide +kernel
theorem dX6_asker_79 : decode cX6_asker 79 = .ok (.ifCond .eq 7, 3) := by decide +kernel
theorem dX6_asker_82 : decode cX6_asker 82 = .ok (.iconst 1, 1) := by decide +kernel
theorem dX6_asker_83 : decode cX6_asker 83 = .ok (.goto 4, 3) := by decide +kernel
theorem dX6_asker_86 : decode cX6_asker 86 = .ok (.iconst 0, 1) := by decide +kernel
theorem dX6_asker_87 : decode cX6_asker 87 = .ok (.ireturn, 1) := by decide +kernel
theorem dX6_asker_88 : decode cX6_asker 88 = .ok (.aload_n 3, 1) := by decide +kernel
theorem dX6_asker_89 : decode cX6_asker 89 = .ok (.ifnonnull 7, 3) := by decide +kernel
theorem dX6_asker_92 : decode cX6_asker 92 = .ok (.iconst 0, 1) := by decide +kernel
theorem dX6_asker_93 : decode cX6_asker 93 = .ok (.goto 7, 3) := by decide +kernel
theorem dX6_asker_96 : decode cX6_asker 96 = .ok (.aload_n 3, 1) := by decide +kernel
theorem dX6_asker_97 : decode cX6_asker 97 = .ok (.invokevirtual 174, 3) := by decide +kernel
theorem dX6_asker_100 : decode cX6_asker 100 = .ok (.ireturn, 1) := by decide +kernel
theorem dX6_asker_101 : decode cX6_asker 101 = .ok (.new 152, 3) := by decide +kernel
theorem dX6_asker_104 : decode cX6_asker 104 = .ok (.dup, 1) := by decide +kernel
theorem dX6_asker_105 : decode cX6_asker 105 = .ok (.ldc 177, 2) := by decide +kernel
theorem dX6_asker_107 : decode cX6_asker 107 = .ok (.invokespecial 156, 3) := by decide +kernel
theorem dX6_asker_110 : decode cX6_asker 110 = .ok (.athrow, 1) := by decide +kernel
set_option maxRecDepth 20000 in
theorem ggX6_request_X6_requestAt : GoodIn wsX6_request wsX6_requestAt := goodIn_ca (goodIn_r _ [7, 1, 2, 8, 9, 10, 11, 6, 12, 34, 35, 36, 37, 38, 39, 40] (by decide +kernel) (by decide +kernel)) (goodIn_sub (fun _ h => List.mem_cons_of_mem _ (List.mem_append_right _ h)) (by decide +kernel))
set_option maxRecDepth 20000 in
theorem gX6_request_X6_requestAt : GoodIn wsX6_request (wsV RX6 179 RX6 yX6_requestAt wsX6_requestAt) := goodIn_app (goodIn_of _ (by decide +kernel)) ggX6_request_X6_requestAt
set_option maxRecDepth 20000 in
theorem ggX6_request_X5_versionOrNone : GoodIn wsX6_request wsX5_versionOrNone := goodIn_r _ [16, 17, 18, 41, 42, 43] (by decide +kernel) (by decide +kernel)
set_option maxRecDepth 20000 in
theorem gX6_request_X5_versionOrNone_n148 : GoodIn wsX6_request (wsX5_versionOrNone) := ggX6_request_X5_versionOrNone
theorem dX6_request_0 : decode cX6_request 0 = .ok (.aload_n 0, 1) := by decide +kernel
theorem dX6_request_1 : decode cX6_request 1 = .ok (.iload_n 1, 1) := by decide +kernel
theorem dX6_request_2 : decode cX6_request 2 = .ok (.invokevirtual 179, 3) := by decide +kernel
theorem dX6_request_5 : decode cX6_request 5 = .ok (.astore_n 3, 1) := by decide +kernel
theorem dX6_request_6 : decode cX6_request 6 = .ok (.iload_n 2, 1) := by decide +kernel
theorem dX6_request_7 : decode cX6_request 7 = .ok (.tableswitch 80 0 3 #[29, 34, 55, 75], 29) := by decide +kernel
theorem dX6_request_36 : decode cX6_request 36 = .ok (.aload_n 3, 1) := by decide +kernel
theorem dX6_request_37 : decode cX6_request 37 = .ok (.getfield 183, 3) := by decide +kernel
theorem dX6_request_40 : decode cX6_request 40 = .ok (.ireturn, 1) := by decide +kernel
theorem dX6_request_41 : decode cX6_request 41 = .ok (.aload_n 3, 1) := by decide +kernel
theorem dX6_request_42 : decode cX6_request 42 = .ok (.getfield 183, 3) := by decide +kernel
theorem dX6_request_45 : decode cX6_request 45 = .ok (.iconst 1, 1) := by decide +kernel
theorem dX6_request_46 : decode cX6_request 46 = .ok (.if_icmp .ne 14, 3) := by decide +kernel
theorem dX6_request_49 : decode cX6_request 49 = .ok (.aload_n 3, 1) := by decide +kernel
theorem dX6_request_50 : decode cX6_request 50 = .ok (.getfield 186, 3) := by decide +kernel
theorem dX6_request_53 : decode cX6_request 53 = .ok (.ifCond .eq 7, 3) := by decide +kernel
theorem dX6_request_56 : decode cX6_request 56 = .ok (.iconst 1, 1) := by decide +kernel
theorem dX6_request_57 : decode cX6_request 57 = .ok (.goto 4, 3) := by decide +kernel
theorem dX6_request_60 : decode cX6_request 60 = .ok (.iconst 0, 1) := by decide +kernel
theorem dX6_request_61 : decode cX6_request 61 = .ok (.ireturn, 1) := by decide +kernel
theorem dX6_request_62 : decode cX6_request 62 = .ok (.aload_n 3, 1) := by decide +kernel
theorem dX6_request_63 : decode cX6_request 63 = .ok (.getfield 183, 3) := by decide +kernel
theorem dX6_request_66 : decode cX6_request 66 = .ok (.iconst 1, 1) := by decide +kernel
theorem dX6_request_67 : decode cX6_request 67 = .ok (.if_icmp .ne 13, 3) := by decide +kernel
theorem dX6_request_70 : decode cX6_request 70 = .ok (.aload_n 3, 1) := by decide +kernel
theorem dX6_request_71 : decode cX6_request 71 = .ok (.getfield 189, 3) := by decide +kernel
theorem dX6_request_74 : decode cX6_request 74 = .ok (.invokevirtual 148, 3) := by decide +kernel
theorem dX6_request_77 : decode cX6_request 77 = .ok (.goto 4, 3) := by decide +kernel
theorem dX6_request_80 : decode cX6_request 80 = .ok (.iconst (-1), 1) := by decide +kernel
theorem dX6_request_81 : decode cX6_request 81 = .ok (.ireturn, 1) := by decide +kernel
theorem dX6_request_82 : decode cX6_request 82 = .ok (.aload_n 3, 1) := by decide +kernel
theorem dX6_request_83 : decode cX6_request 83 = .ok (.getfield 190, 3) := by decide +kernel
theorem dX6_request_86 : decode cX6_request 86 = .ok (.ireturn, 1) := by decide +kernel
theorem dX6_request_87 : decode cX6_request 87 = .ok (.new 152, 3) := by decide +kernel
theorem dX6_request_90 : decode cX6_request 90 = .ok (.dup, 1) := by decide +kernel
theorem dX6_request_91 : decode cX6_request 91 = .ok (.ldc 191, 2) := by decide +kernel
theorem dX6_request_93 : decode cX6_request 93 = .ok (.invokespecial 156, 3) := by decide +kernel
theorem dX6_request_96 : decode cX6_request 96 = .ok (.athrow, 1) := by decide +kernel
set_option maxRecDepth 20000 in
theorem ggX6_result_X6_requestAt : GoodIn wsX6_result wsX6_requestAt := goodIn_ca (goodIn_r _ [5, 6, 7, 8, 9, 10, 11, 4, 12, 31, 32, 33, 34, 35, 36, 37] (by decide +kernel) (by decide +kernel)) (goodIn_sub (fun _ h => List.mem_cons_of_mem _ (List.mem_append_right _ h)) (by decide +kernel))
set_option maxRecDepth 20000 in
theorem gX6_result_X6_requestAt : GoodIn wsX6_result (wsV RX6 179 RX6 yX6_requestAt wsX6_requestAt) := goodIn_app (goodIn_of _ (by decide +kernel)) ggX6_result_X6_requestAt
theorem dX6_result_0 : decode cX6_result 0 = .ok (.aload_n 0, 1) := by decide +kernel
theorem dX6_result_1 : decode cX6_result 1 = .ok (.iload_n 1, 1) := by decide +kernel
theorem dX6_result_2 : decode cX6_result 2 = .ok (.invokevirtual 179, 3) := by decide +kernel
theorem dX6_result_5 : decode cX6_result 5 = .ok (.astore_n 2, 1) := by decide +kernel
theorem dX6_result_6 : decode cX6_result 6 = .ok (.aload_n 2, 1) := by decide +kernel
theorem dX6_result_7 : decode cX6_result 7 = .ok (.getfield 183, 3) := by decide +kernel
theorem dX6_result_10 : decode cX6_result 10 = .ok (.iconst 1, 1) := by decide +kernel
theorem dX6_result_11 : decode cX6_result 11 = .ok (.if_icmp .ne 13, 3) := by decide +kernel
theorem dX6_result_14 : decode cX6_result 14 = .ok (.aload_n 2, 1) := by decide +kernel
theorem dX6_result_15 : decode cX6_result 15 = .ok (.getfield 189, 3) := by decide +kernel
theorem dX6_result_18 : decode cX6_result 18 = .ok (.getfield 166, 3) := by decide +kernel
theorem dX6_result_21 : decode cX6_result 21 = .ok (.goto 4, 3) := by decide +kernel
theorem dX6_result_24 : decode cX6_result 24 = .ok (.lconst 0, 1) := by decide +kernel
theorem dX6_result_25 : decode cX6_result 25 = .ok (.lreturn, 1) := by decide +kernel
theorem dX6_needIndex_0 : decode cX6_needIndex 0 = .ok (.iload_n 0, 1) := by decide +kernel
theorem dX6_needIndex_1 : decode cX6_needIndex 1 = .ok (.ifCond .lt 8, 3) := by decide +kernel
theorem dX6_needIndex_4 : decode cX6_needIndex 4 = .ok (.iload_n 0, 1) := by decide +kernel
theorem dX6_needIndex_5 : decode cX6_needIndex 5 = .ok (.iload_n 1, 1) := by decide +kernel
theorem dX6_needIndex_6 : decode cX6_needIndex 6 = .ok (.if_icmp .lt 13, 3) := by decide +kernel
theorem dX6_needIndex_9 : decode cX6_needIndex 9 = .ok (.new 152, 3) := by decide +kernel
theorem dX6_needIndex_12 : decode cX6_needIndex 12 = .ok (.dup, 1) := by decide +kernel
theorem dX6_needIndex_13 : decode cX6_needIndex 13 = .ok (.ldc 193, 2) := by decide +kernel
theorem dX6_needIndex_15 : decode cX6_needIndex 15 = .ok (.invokespecial 156, 3) := by decide +kernel
theorem dX6_needIndex_18 : decode cX6_needIndex 18 = .ok (.athrow, 1) := by decide +kernel
theorem dX6_needIndex_19 : decode cX6_needIndex 19 = .ok (.return_, 1) := by decide +kernel
theorem dX6_needRange_0 : decode cX6_needRange 0 = .ok (.iload_n 0, 1) := by decide +kernel
theorem dX6_needRange_1 : decode cX6_needRange 1 = .ok (.iload_n 1, 1) := by decide +kernel
theorem dX6_needRange_2 : decode cX6_needRange 2 = .ok (.if_icmp .lt 8, 3) := by decide +kernel
theorem dX6_needRange_5 : decode cX6_needRange 5 = .ok (.iload_n 0, 1) := by decide +kernel
theorem dX6_needRange_6 : decode cX6_needRange 6 = .ok (.iload_n 2, 1) := by decide +kernel
theorem dX6_needRange_7 : decode cX6_needRange 7 = .ok (.if_icmp .le 13, 3) := by decide +kernel
theorem dX6_needRange_10 : decode cX6_needRange 10 = .ok (.new 195, 3) := by decide +kernel
theorem dX6_needRange_13 : decode cX6_needRange 13 = .ok (.dup, 1) := by decide +kernel
theorem dX6_needRange_14 : decode cX6_needRange 14 = .ok (.ldc 197, 2) := by decide +kernel
theorem dX6_needRange_16 : decode cX6_needRange 16 = .ok (.invokespecial 199, 3) := by decide +kernel
theorem dX6_needRange_19 : decode cX6_needRange 19 = .ok (.athrow, 1) := by decide +kernel
theorem dX6_needRange_20 : decode cX6_needRange 20 = .ok (.return_, 1) := by decide +kernel
set_option maxRecDepth 20000 in
theorem ggX6_requestAt_X6_needIndex : GoodIn wsX6_requestAt wsX6_needIndex := goodIn_ca (goodIn_r _ [8, 1, 2] (by decide +kernel) (by decide +kernel)) (goodIn_sub (fun _ h => List.mem_cons_of_mem _ (List.mem_append_right _ h)) (by decide +kernel))
set_option maxRecDepth 20000 in
theorem gX6_requestAt_X6_needIndex : GoodIn wsX6_requestAt (va_wsS RX6 57 yX6_needIndex wsX6_needIndex) := goodIn_app (goodIn_of _ (by decide +kernel)) ggX6_requestAt_X6_needIndex
theorem dX6_requestAt_0 : decode cX6_requestAt 0 = .ok (.iload_n 1, 1) := by decide +kernel
theorem dX6_requestAt_1 : decode cX6_requestAt 1 = .ok (.aload_n 0, 1) := by decide +kernel
theorem dX6_requestAt_2 : decode cX6_requestAt 2 = .ok (.getfield 53, 3) := by decide +kernel
theorem dX6_requestAt_5 : decode cX6_requestAt 5 = .ok (.invokestatic 57, 3) := by decide +kernel
theorem dX6_requestAt_8 : decode cX6_requestAt 8 = .ok (.aload_n 0, 1) := by decide +kernel
theorem dX6_requestAt_9 : decode cX6_requestAt 9 = .ok (.getfield 42, 3) := by decide +kernel
theorem dX6_requestAt_12 : decode cX6_requestAt 12 = .ok (.iload_n 1, 1) := by decide +kernel
theorem dX6_requestAt_13 : decode cX6_requestAt 13 = .ok (.aaload, 1) := by decide +kernel
theorem dX6_requestAt_14 : decode cX6_requestAt 14 = .ok (.astore_n 2, 1) := by decide +kernel
theorem dX6_requestAt_15 : decode cX6_requestAt 15 = .ok (.aload_n 2, 1) := by decide +kernel
theorem dX6_requestAt_16 : decode cX6_requestAt 16 = .ok (.ifnonnull 13, 3) := by decide +kernel
theorem dX6_requestAt_19 : decode cX6_requestAt 19 = .ok (.new 152, 3) := by decide +kernel
theorem dX6_requestAt_22 : decode cX6_requestAt 22 = .ok (.dup, 1) := by decide +kernel
theorem dX6_requestAt_23 : decode cX6_requestAt 23 = .ok (.ldc 193, 2) := by decide +kernel
theorem dX6_requestAt_25 : decode cX6_requestAt 25 = .ok (.invokespecial 156, 3) := by decide +kernel
theorem dX6_requestAt_28 : decode cX6_requestAt 28 = .ok (.athrow, 1) := by decide +kernel
theorem dX6_requestAt_29 : decode cX6_requestAt 29 = .ok (.aload_n 2, 1) := by decide +kernel
theorem dX6_requestAt_30 : decode cX6_requestAt 30 = .ok (.areturn, 1) := by decide +kernel
theorem dX6_registerOf_0 : decode cX6_registerOf 0 = .ok (.aload_n 0, 1) := by decide +kernel
theorem dX6_registerOf_1 : decode cX6_registerOf 1 = .ok (.getfield 20, 3) := by decide +kernel
theorem dX6_registerOf_4 : decode cX6_registerOf 4 = .ok (.iload_n 1, 1) := by decide +kernel
theorem dX6_registerOf_5 : decode cX6_registerOf 5 = .ok (.iconst 4, 1) := by decide +kernel
theorem dX6_registerOf_6 : decode cX6_registerOf 6 = .ok (.imul, 1) := by decide +kernel
theorem dX6_registerOf_7 : decode cX6_registerOf 7 = .ok (.iload_n 2, 1) := by decide +kernel
theorem dX6_registerOf_8 : decode cX6_registerOf 8 = .ok (.iadd, 1) := by decide +kernel
theorem dX6_registerOf_9 : decode cX6_registerOf 9 = .ok (.aaload, 1) := by decide +kernel
theorem dX6_registerOf_10 : decode cX6_registerOf 10 = .ok (.areturn, 1) := by decide +kernel
set_option maxRecDepth 20000 in
theorem ggX6_deliver_X4_drawOut : GoodIn wsX6_deliver wsX4_drawOut := goodIn_r _ [5, 6, 7, 137, 138] (by decide +kernel) (by decide +kernel)
set_option maxRecDepth 20000 in
theorem gX6_deliver_X4_drawOut_n105 : GoodIn wsX6_deliver (wsX4_drawOut) := ggX6_deliver_X4_drawOut
set_option maxRecDepth 20000 in
theorem ggX6_deliver_X6_takePrepare : GoodIn wsX6_deliver wsX6_takePrepare := goodIn_r _ [12, 13, 14, 15, 16, 17, 11, 18, 19, 20, 21, 22, 23, 24, 25, 26, 27, 28, 29, 30, 31, 32, 33, 1, 34, 3, 35, 36, 7, 6, 123, 124, 125, 126, 127, 128, 129, 130, 131, 132, 133, 134, 135, 136, 139, 140, 141, 137, 138] (by decide +kernel) (by decide +kernel)
set_option maxRecDepth 20000 in
theorem gX6_deliver_X6_takePrepare : GoodIn wsX6_deliver (wsV RX6 200 RX6 yX6_takePrepare wsX6_takePrepare) := goodIn_app (goodIn_of _ (by decide +kernel)) ggX6_deliver_X6_takePrepare
set_option maxRecDepth 20000 in
theorem ggX6_deliver_X6_takePromised : GoodIn wsX6_deliver wsX6_takePromised := goodIn_r _ [40, 41, 42, 43, 11, 44, 45, 46, 47, 48, 49, 50, 51, 52, 53, 54, 55, 56, 57, 58, 59, 60, 61, 62, 63, 64, 65, 66, 67, 68, 69, 70, 71, 72, 73, 74, 75, 76, 77, 78, 79, 80, 81, 82, 83, 84, 85, 86, 87, 88, 89, 90, 91, 92, 93, 94, 95, 96, 97, 98, 99, 100, 101, 102, 1, 34, 3, 35, 36, 7, 6, 130, 131, 132, 133, 134, 135, 136, 142, 143, 144, 145, 146, 147, 148, 149, 150, 151, 152, 153, 154, 155, 156, 123, 124, 125, 126, 127, 128, 129, 157, 158, 159, 160, 161, 162, 163, 164, 137, 138] (by decide +kernel) (by decide +kernel)
set_option maxRecDepth 20000 in
theorem gX6_deliver_X6_takePromised : GoodIn wsX6_deliver (wsV RX6 204 RX6 yX6_takePromised wsX6_takePromised) := goodIn_app (goodIn_of _ (by decide +kernel)) ggX6_deliver_X6_takePromised
set_option maxRecDepth 20000 in
theorem ggX6_deliver_X6_takeAccept : GoodIn wsX6_deliver wsX6_takeAccept := goodIn_r _ [106, 13, 14, 15, 16, 17, 11, 18, 19, 20, 21, 22, 23, 24, 25, 26, 27, 28, 29, 107, 108, 109, 110, 30, 31, 32, 33, 1, 34, 3, 35, 36, 7, 6, 123, 124, 125, 126, 127, 128, 129, 130, 131, 132, 133, 134, 135, 136, 139, 140, 141, 137, 138] (by decide +kernel) (by decide +kernel)
set_option maxRecDepth 20000 in
theorem gX6_deliver_X6_takeAccept : GoodIn wsX6_deliver (wsV RX6 207 RX6 yX6_takeAccept wsX6_takeAccept) := goodIn_app (goodIn_of _ (by decide +kernel)) ggX6_deliver_X6_takeAccept
set_option maxRecDepth 20000 in
theorem ggX6_deliver_X6_takeTaken : GoodIn wsX6_deliver wsX6_takeTaken := goodIn_r _ [114, 45, 41, 42, 43, 11, 44, 46, 47, 48, 49, 50, 56, 57, 58, 59, 60, 61, 62, 63, 64, 65, 66, 67, 68, 115, 116, 117, 130, 131, 132, 133, 134, 135, 136, 142, 143, 144, 145, 146, 147, 148, 149, 150, 151, 152, 153, 154, 155, 156, 123, 124, 125, 126, 127, 128, 129, 157, 158, 159, 160, 161] (by decide +kernel) (by decide +kernel)
set_option maxRecDepth 20000 in
theorem gX6_deliver_X6_takeTaken : GoodIn wsX6_deliver (wsV RX6 210 RX6 yX6_takeTaken wsX6_takeTaken) := goodIn_app (goodIn_of _ (by decide +kernel)) ggX6_deliver_X6_takeTaken
set_option maxRecDepth 20000 in
theorem ggX6_deliver_X6_takeRefused : GoodIn wsX6_deliver wsX6_takeRefused := goodIn_r _ [121, 45, 122, 27, 28, 29, 115, 116, 11, 117, 123, 124, 125, 126, 127, 128, 129, 130, 131, 132, 133, 134, 135, 136, 157, 158, 159, 160, 161, 142, 143, 144, 145, 146, 147, 148, 149, 150, 151, 152, 153, 154, 155, 156] (by decide +kernel) (by decide +kernel)
set_option maxRecDepth 20000 in
theorem gX6_deliver_X6_takeRefused : GoodIn wsX6_deliver (wsV RX6 213 RX6 yX6_takeRefused wsX6_takeRefused) := goodIn_app (goodIn_of _ (by decide +kernel)) ggX6_deliver_X6_takeRefused
theorem dX6_deliver_0 : decode cX6_deliver 0 = .ok (.aload_n 0, 1) := by decide +kernel
theorem dX6_deliver_1 : decode cX6_deliver 1 = .ok (.getfield 49, 3) := by decide +kernel
theorem dX6_deliver_4 : decode cX6_deliver 4 = .ok (.iload_n 1, 1) := by decide +kernel
theorem dX6_deliver_5 : decode cX6_deliver 5 = .ok (.invokevirtual 105, 3) := by decide +kernel
theorem dX6_deliver_8 : decode cX6_deliver 8 = .ok (.astore_n 2, 1) := by decide +kernel
theorem dX6_deliver_9 : decode cX6_deliver 9 = .ok (.aload_n 2, 1) := by decide +kernel
theorem dX6_deliver_10 : decode cX6_deliver 10 = .ok (.getfield 109, 3) := by decide +kernel
theorem dX6_deliver_13 : decode cX6_deliver 13 = .ok (.tableswitch 63 0 3 #[31, 39, 47, 55], 31) := by decide +kernel
theorem dX6_deliver_44 : decode cX6_deliver 44 = .ok (.aload_n 0, 1) := by decide +kernel
theorem dX6_deliver_45 : decode cX6_deliver 45 = .ok (.aload_n 2, 1) := by decide +kernel
theorem dX6_deliver_46 : decode cX6_deliver 46 = .ok (.invokevirtual 200, 3) := by decide +kernel
theorem dX6_deliver_49 : decode cX6_deliver 49 = .ok (.goto 32, 3) := by decide +kernel
theorem dX6_deliver_52 : decode cX6_deliver 52 = .ok (.aload_n 0, 1) := by decide +kernel
theorem dX6_deliver_53 : decode cX6_deliver 53 = .ok (.aload_n 2, 1) := by decide +kernel
theorem dX6_deliver_54 : decode cX6_deliver 54 = .ok (.invokevirtual 204, 3) := by decide +kernel
theorem dX6_deliver_57 : decode cX6_deliver 57 = .ok (.goto 24, 3) := by decide +kernel
theorem dX6_deliver_60 : decode cX6_deliver 60 = .ok (.aload_n 0, 1) := by decide +kernel
theorem dX6_deliver_61 : decode cX6_deliver 61 = .ok (.aload_n 2, 1) := by decide +kernel
theorem dX6_deliver_62 : decode cX6_deliver 62 = .ok (.invokevirtual 207, 3) := by decide +kernel
theorem dX6_deliver_65 : decode cX6_deliver 65 = .ok (.goto 16, 3) := by decide +kernel
theorem dX6_deliver_68 : decode cX6_deliver 68 = .ok (.aload_n 0, 1) := by decide +kernel
theorem dX6_deliver_69 : decode cX6_deliver 69 = .ok (.aload_n 2, 1) := by decide +kernel
theorem dX6_deliver_70 : decode cX6_deliver 70 = .ok (.invokevirtual 210, 3) := by decide +kernel
theorem dX6_deliver_73 : decode cX6_deliver 73 = .ok (.goto 8, 3) := by decide +kernel
theorem dX6_deliver_76 : decode cX6_deliver 76 = .ok (.aload_n 0, 1) := by decide +kernel
theorem dX6_deliver_77 : decode cX6_deliver 77 = .ok (.aload_n 2, 1) := by decide +kernel
theorem dX6_deliver_78 : decode cX6_deliver 78 = .ok (.invokevirtual 213, 3) := by decide +kernel
theorem dX6_deliver_81 : decode cX6_deliver 81 = .ok (.aload_n 2, 1) := by decide +kernel
theorem dX6_deliver_82 : decode cX6_deliver 82 = .ok (.getfield 109, 3) := by decide +kernel
theorem dX6_deliver_85 : decode cX6_deliver 85 = .ok (.ireturn, 1) := by decide +kernel
set_option maxRecDepth 20000 in
theorem ggX6_takePrepare_X6_registerOf : GoodIn wsX6_takePrepare wsX6_registerOf := goodIn_r _ [7, 8, 30, 31, 32, 33, 34, 35, 36] (by decide +kernel) (by decide +kernel)
set_option maxRecDepth 20000 in
theorem gX6_takePrepare_X6_registerOf : GoodIn wsX6_takePrepare (wsV RX6 140 RX6 yX6_registerOf wsX6_registerOf) := goodIn_app (goodIn_of _ (by decide +kernel)) ggX6_takePrepare_X6_registerOf
set_option maxRecDepth 20000 in
theorem ggX6_takePrepare_X2_greaterBallot : GoodIn wsX6_takePrepare wsX2_greaterBallot := goodIn_r _ [12, 13, 14, 15, 16, 17, 18, 44, 45, 46] (by decide +kernel) (by decide +kernel)
set_option maxRecDepth 20000 in
theorem gX6_takePrepare_X2_greaterBallot_n216 : GoodIn wsX6_takePrepare (wsX2_greaterBallot) := ggX6_takePrepare_X2_greaterBallot
set_option maxRecDepth 20000 in
theorem ggX6_takePrepare_X6_sendBack : GoodIn wsX6_takePrepare wsX6_sendBack := goodIn_r _ [22, 23, 24, 25, 26, 27, 28, 29, 30, 31, 32, 33, 34, 35, 36, 37, 38, 39, 40, 41, 42, 43, 47, 48] (by decide +kernel) (by decide +kernel)
set_option maxRecDepth 20000 in
theorem gX6_takePrepare_X6_sendBack : GoodIn wsX6_takePrepare (wsV RX6 219 RX6 yX6_sendBack wsX6_sendBack) := goodIn_app (goodIn_of _ (by decide +kernel)) ggX6_takePrepare_X6_sendBack
theorem dX6_takePrepare_0 : decode cX6_takePrepare 0 = .ok (.aload_n 0, 1) := by decide +kernel
theorem dX6_takePrepare_1 : decode cX6_takePrepare 1 = .ok (.getfield 27, 3) := by decide +kernel
theorem dX6_takePrepare_4 : decode cX6_takePrepare 4 = .ok (.aload_n 1, 1) := by decide +kernel
theorem dX6_takePrepare_5 : decode cX6_takePrepare 5 = .ok (.getfield 121, 3) := by decide +kernel
theorem dX6_takePrepare_8 : decode cX6_takePrepare 8 = .ok (.baload, 1) := by decide +kernel
theorem dX6_takePrepare_9 : decode cX6_takePrepare 9 = .ok (.ifCond .eq 4, 3) := by decide +kernel
theorem dX6_takePrepare_12 : decode cX6_takePrepare 12 = .ok (.return_, 1) := by decide +kernel
theorem dX6_takePrepare_13 : decode cX6_takePrepare 13 = .ok (.aload_n 0, 1) := by decide +kernel
theorem dX6_takePrepare_14 : decode cX6_takePrepare 14 = .ok (.aload_n 1, 1) := by decide +kernel
theorem dX6_takePrepare_15 : decode cX6_takePrepare 15 = .ok (.getfield 121, 3) := by decide +kernel
theorem dX6_takePrepare_18 : decode cX6_takePrepare 18 = .ok (.aload_n 1, 1) := by decide +kernel
theorem dX6_takePrepare_19 : decode cX6_takePrepare 19 = .ok (.getfield 127, 3) := by decide +kernel
theorem dX6_takePrepare_22 : decode cX6_takePrepare 22 = .ok (.invokevirtual 140, 3) := by decide +kernel
theorem dX6_takePrepare_25 : decode cX6_takePrepare 25 = .ok (.astore_n 2, 1) := by decide +kernel
theorem dX6_takePrepare_26 : decode cX6_takePrepare 26 = .ok (.aload_n 1, 1) := by decide +kernel
theorem dX6_takePrepare_27 : decode cX6_takePrepare 27 = .ok (.getfield 130, 3) := by decide +kernel
theorem dX6_takePrepare_30 : decode cX6_takePrepare 30 = .ok (.aload_n 2, 1) := by decide +kernel
theorem dX6_takePrepare_31 : decode cX6_takePrepare 31 = .ok (.invokevirtual 216, 3) := by decide +kernel
theorem dX6_takePrepare_34 : decode cX6_takePrepare 34 = .ok (.if_icmp .le 28, 3) := by decide +kernel
theorem dX6_takePrepare_37 : decode cX6_takePrepare 37 = .ok (.aload_n 2, 1) := by decide +kernel
theorem dX6_takePrepare_38 : decode cX6_takePrepare 38 = .ok (.aload_n 1, 1) := by decide +kernel
theorem dX6_takePrepare_39 : decode cX6_takePrepare 39 = .ok (.getfield 130, 3) := by decide +kernel
theorem dX6_takePrepare_42 : decode cX6_takePrepare 42 = .ok (.putfield 159, 3) := by decide +kernel
theorem dX6_takePrepare_45 : decode cX6_takePrepare 45 = .ok (.aload_n 0, 1) := by decide +kernel
theorem dX6_takePrepare_46 : decode cX6_takePrepare 46 = .ok (.iconst 1, 1) := by decide +kernel
theorem dX6_takePrepare_47 : decode cX6_takePrepare 47 = .ok (.aload_n 1, 1) := by decide +kernel
theorem dX6_takePrepare_48 : decode cX6_takePrepare 48 = .ok (.aload_n 2, 1) := by decide +kernel
theorem dX6_takePrepare_49 : decode cX6_takePrepare 49 = .ok (.getfield 162, 3) := by decide +kernel
theorem dX6_takePrepare_52 : decode cX6_takePrepare 52 = .ok (.aload_n 2, 1) := by decide +kernel
theorem dX6_takePrepare_53 : decode cX6_takePrepare 53 = .ok (.getfield 163, 3) := by decide +kernel
theorem dX6_takePrepare_56 : decode cX6_takePrepare 56 = .ok (.invokevirtual 219, 3) := by decide +kernel
theorem dX6_takePrepare_59 : decode cX6_takePrepare 59 = .ok (.goto 17, 3) := by decide +kernel
theorem dX6_takePrepare_62 : decode cX6_takePrepare 62 = .ok (.aload_n 0, 1) := by decide +kernel
theorem dX6_takePrepare_63 : decode cX6_takePrepare 63 = .ok (.iconst 4, 1) := by decide +kernel
theorem dX6_takePrepare_64 : decode cX6_takePrepare 64 = .ok (.aload_n 1, 1) := by decide +kernel
theorem dX6_takePrepare_65 : decode cX6_takePrepare 65 = .ok (.aload_n 2, 1) := by decide +kernel
theorem dX6_takePrepare_66 : decode cX6_takePrepare 66 = .ok (.invokevirtual 216, 3) := by decide +kernel
theorem dX6_takePrepare_69 : decode cX6_takePrepare 69 = .ok (.aload_n 0, 1) := by decide +kernel
theorem dX6_takePrepare_70 : decode cX6_takePrepare 70 = .ok (.getfield 12, 3) := by decide +kernel
theorem dX6_takePrepare_73 : decode cX6_takePrepare 73 = .ok (.invokevirtual 219, 3) := by decide +kernel
theorem dX6_takePrepare_76 : decode cX6_takePrepare 76 = .ok (.return_, 1) := by decide +kernel
set_option maxRecDepth 20000 in
theorem ggX6_takeAccept_X6_registerOf : GoodIn wsX6_takeAccept wsX6_registerOf := goodIn_r _ [7, 8, 34, 35, 36, 37, 38, 39, 40] (by decide +kernel) (by decide +kernel)
set_option maxRecDepth 20000 in
theorem gX6_takeAccept_X6_registerOf : GoodIn wsX6_takeAccept (wsV RX6 140 RX6 yX6_registerOf wsX6_registerOf) := goodIn_app (goodIn_of _ (by decide +kernel)) ggX6_takeAccept_X6_registerOf
set_option maxRecDepth 20000 in
theorem ggX6_takeAccept_X2_greaterBallot : GoodIn wsX6_takeAccept wsX2_greaterBallot := goodIn_r _ [12, 13, 14, 15, 16, 17, 18, 48, 49, 50] (by decide +kernel) (by decide +kernel)
set_option maxRecDepth 20000 in
theorem gX6_takeAccept_X2_greaterBallot_n216 : GoodIn wsX6_takeAccept (wsX2_greaterBallot) := ggX6_takeAccept_X2_greaterBallot
set_option maxRecDepth 20000 in
theorem ggX6_takeAccept_X2_accept : GoodIn wsX6_takeAccept wsX2_accept := goodIn_r _ [21, 14, 22, 13, 48, 49, 50] (by decide +kernel) (by decide +kernel)
set_option maxRecDepth 20000 in
theorem gX6_takeAccept_X2_accept_n223 : GoodIn wsX6_takeAccept (wsX2_accept) := ggX6_takeAccept_X2_accept
set_option maxRecDepth 20000 in
theorem ggX6_takeAccept_X6_sendBack : GoodIn wsX6_takeAccept wsX6_sendBack := goodIn_r _ [26, 27, 28, 29, 30, 31, 32, 33, 34, 35, 36, 37, 38, 39, 40, 41, 42, 43, 44, 45, 46, 47, 51, 52] (by decide +kernel) (by decide +kernel)
set_option maxRecDepth 20000 in
theorem gX6_takeAccept_X6_sendBack : GoodIn wsX6_takeAccept (wsV RX6 219 RX6 yX6_sendBack wsX6_sendBack) := goodIn_app (goodIn_of _ (by decide +kernel)) ggX6_takeAccept_X6_sendBack
theorem dX6_takeAccept_0 : decode cX6_takeAccept 0 = .ok (.aload_n 0, 1) := by decide +kernel
theorem dX6_takeAccept_1 : decode cX6_takeAccept 1 = .ok (.getfield 27, 3) := by decide +kernel
theorem dX6_takeAccept_4 : decode cX6_takeAccept 4 = .ok (.aload_n 1, 1) := by decide +kernel
theorem dX6_takeAccept_5 : decode cX6_takeAccept 5 = .ok (.getfield 121, 3) := by decide +kernel
theorem dX6_takeAccept_8 : decode cX6_takeAccept 8 = .ok (.baload, 1) := by decide +kernel
theorem dX6_takeAccept_9 : decode cX6_takeAccept 9 = .ok (.ifCond .eq 4, 3) := by decide +kernel
theorem dX6_takeAccept_12 : decode cX6_takeAccept 12 = .ok (.return_, 1) := by decide +kernel
theorem dX6_takeAccept_13 : decode cX6_takeAccept 13 = .ok (.aload_n 0, 1) := by decide +kernel
theorem dX6_takeAccept_14 : decode cX6_takeAccept 14 = .ok (.aload_n 1, 1) := by decide +kernel
theorem dX6_takeAccept_15 : decode cX6_takeAccept 15 = .ok (.getfield 121, 3) := by decide +kernel
theorem dX6_takeAccept_18 : decode cX6_takeAccept 18 = .ok (.aload_n 1, 1) := by decide +kernel
theorem dX6_takeAccept_19 : decode cX6_takeAccept 19 = .ok (.getfield 127, 3) := by decide +kernel
theorem dX6_takeAccept_22 : decode cX6_takeAccept 22 = .ok (.invokevirtual 140, 3) := by decide +kernel
theorem dX6_takeAccept_25 : decode cX6_takeAccept 25 = .ok (.astore_n 2, 1) := by decide +kernel
theorem dX6_takeAccept_26 : decode cX6_takeAccept 26 = .ok (.aload_n 1, 1) := by decide +kernel
theorem dX6_takeAccept_27 : decode cX6_takeAccept 27 = .ok (.getfield 130, 3) := by decide +kernel
theorem dX6_takeAccept_30 : decode cX6_takeAccept 30 = .ok (.aload_n 2, 1) := by decide +kernel
theorem dX6_takeAccept_31 : decode cX6_takeAccept 31 = .ok (.invokevirtual 216, 3) := by decide +kernel
theorem dX6_takeAccept_34 : decode cX6_takeAccept 34 = .ok (.if_icmp .lt 32, 3) := by decide +kernel
theorem dX6_takeAccept_37 : decode cX6_takeAccept 37 = .ok (.aload_n 2, 1) := by decide +kernel
theorem dX6_takeAccept_38 : decode cX6_takeAccept 38 = .ok (.aload_n 1, 1) := by decide +kernel
theorem dX6_takeAccept_39 : decode cX6_takeAccept 39 = .ok (.getfield 130, 3) := by decide +kernel
theorem dX6_takeAccept_42 : decode cX6_takeAccept 42 = .ok (.aload_n 1, 1) := by decide +kernel
theorem dX6_takeAccept_43 : decode cX6_takeAccept 43 = .ok (.getfield 133, 3) := by decide +kernel
theorem dX6_takeAccept_46 : decode cX6_takeAccept 46 = .ok (.invokevirtual 223, 3) := by decide +kernel
theorem dX6_takeAccept_49 : decode cX6_takeAccept 49 = .ok (.aload_n 0, 1) := by decide +kernel
theorem dX6_takeAccept_50 : decode cX6_takeAccept 50 = .ok (.iconst 3, 1) := by decide +kernel
theorem dX6_takeAccept_51 : decode cX6_takeAccept 51 = .ok (.aload_n 1, 1) := by decide +kernel
theorem dX6_takeAccept_52 : decode cX6_takeAccept 52 = .ok (.aload_n 1, 1) := by decide +kernel
theorem dX6_takeAccept_53 : decode cX6_takeAccept 53 = .ok (.getfield 130, 3) := by decide +kernel
theorem dX6_takeAccept_56 : decode cX6_takeAccept 56 = .ok (.aload_n 0, 1) := by decide +kernel
theorem dX6_takeAccept_57 : decode cX6_takeAccept 57 = .ok (.getfield 12, 3) := by decide +kernel
theorem dX6_takeAccept_60 : decode cX6_takeAccept 60 = .ok (.invokevirtual 219, 3) := by decide +kernel
theorem dX6_takeAccept_63 : decode cX6_takeAccept 63 = .ok (.goto 17, 3) := by decide +kernel
theorem dX6_takeAccept_66 : decode cX6_takeAccept 66 = .ok (.aload_n 0, 1) := by decide +kernel
theorem dX6_takeAccept_67 : decode cX6_takeAccept 67 = .ok (.iconst 4, 1) := by decide +kernel
theorem dX6_takeAccept_68 : decode cX6_takeAccept 68 = .ok (.aload_n 1, 1) := by decide +kernel
theorem dX6_takeAccept_69 : decode cX6_takeAccept 69 = .ok (.aload_n 2, 1) := by decide +kernel
theorem dX6_takeAccept_70 : decode cX6_takeAccept 70 = .ok (.invokevirtual 216, 3) := by decide +kernel
theorem dX6_takeAccept_73 : decode cX6_takeAccept 73 = .ok (.aload_n 0, 1) := by decide +kernel
theorem dX6_takeAccept_74 : decode cX6_takeAccept 74 = .ok (.getfield 12, 3) := by decide +kernel
theorem dX6_takeAccept_77 : decode cX6_takeAccept 77 = .ok (.invokevirtual 219, 3) := by decide +kernel
theorem dX6_takeAccept_80 : decode cX6_takeAccept 80 = .ok (.return_, 1) := by decide +kernel
set_option maxRecDepth 20000 in
theorem ggX6_takePromised_X6_awaiting : GoodIn wsX6_takePromised wsX6_awaiting := goodIn_r _ [5, 6, 7, 8, 9, 10, 11, 93, 94, 95, 96, 97, 98, 99, 71, 72, 73, 74, 75, 76, 77, 100, 101, 102, 103, 104, 78, 79, 80, 81, 82, 83, 84, 85, 86, 87, 88, 89, 90, 91, 92] (by decide +kernel) (by decide +kernel)
set_option maxRecDepth 20000 in
theorem gX6_takePromised_X6_awaiting : GoodIn wsX6_takePromised (wsV RX6 227 RX6 yX6_awaiting wsX6_awaiting) := goodIn_app (goodIn_of _ (by decide +kernel)) ggX6_takePromised_X6_awaiting
set_option maxRecDepth 20000 in
theorem ggX6_takePromised_X3_hearState : GoodIn wsX6_takePromised wsX3_hearState := goodIn_r _ [14, 15, 16, 78, 79, 80, 81, 82, 83, 84, 85, 86, 87, 88, 89, 90, 91, 92] (by decide +kernel) (by decide +kernel)
set_option maxRecDepth 20000 in
theorem gX6_takePromised_X3_hearState_n231 : GoodIn wsX6_takePromised (wsX3_hearState) := ggX6_takePromised_X3_hearState
set_option maxRecDepth 20000 in
theorem ggX6_takePromised_X3_countAnswer : GoodIn wsX6_takePromised wsX3_countAnswer := goodIn_r _ [19, 11, 78, 79, 80, 81, 82, 83, 84, 85, 86, 87, 88, 89, 90, 91, 92] (by decide +kernel) (by decide +kernel)
set_option maxRecDepth 20000 in
theorem gX6_takePromised_X3_countAnswer_n234 : GoodIn wsX6_takePromised (wsX3_countAnswer) := ggX6_takePromised_X3_countAnswer
set_option maxRecDepth 20000 in
theorem ggX6_takePromised_X3_answers : GoodIn wsX6_takePromised wsX3_answers := goodIn_r _ [22, 11, 23, 24, 25, 26, 27, 28, 29, 78, 79, 80, 81, 82, 83, 84, 85, 86, 87, 88, 89, 90, 91, 92] (by decide +kernel) (by decide +kernel)
set_option maxRecDepth 20000 in
theorem gX6_takePromised_X3_answers_n174 : GoodIn wsX6_takePromised (wsX3_answers) := ggX6_takePromised_X3_answers
set_option maxRecDepth 20000 in
theorem ggX6_takePromised_X3_beginAccepting : GoodIn wsX6_takePromised wsX3_beginAccepting := goodIn_r _ [32, 16, 33, 34, 35, 36, 11, 37, 38, 39, 40, 41, 42, 43, 44, 45, 46, 47, 48, 49, 50, 51, 52, 53, 54, 55, 56, 57, 58, 59, 78, 79, 80, 81, 82, 83, 84, 85, 86, 87, 88, 89, 90, 91, 92, 105, 106, 107] (by decide +kernel) (by decide +kernel)
set_option maxRecDepth 20000 in
theorem gX6_takePromised_X3_beginAccepting_n240 : GoodIn wsX6_takePromised (wsX3_beginAccepting) := ggX6_takePromised_X3_beginAccepting
set_option maxRecDepth 20000 in
theorem ggX6_takePromised_X6_sendToSet : GoodIn wsX6_takePromised wsX6_sendToSet := goodIn_r _ [63, 64, 65, 66, 67, 68, 69, 70, 93, 94, 95, 96, 97, 98, 99, 78, 79, 80, 81, 82, 83, 84, 85, 86, 87, 88, 89, 90, 91, 92, 108, 109, 71, 72, 73, 74, 75, 76, 77] (by decide +kernel) (by decide +kernel)
set_option maxRecDepth 20000 in
theorem gX6_takePromised_X6_sendToSet : GoodIn wsX6_takePromised (wsV RX6 79 RX6 yX6_sendToSet wsX6_sendToSet) := goodIn_app (goodIn_of _ (by decide +kernel)) ggX6_takePromised_X6_sendToSet
theorem dX6_takePromised_0 : decode cX6_takePromised 0 = .ok (.aload_n 0, 1) := by decide +kernel
theorem dX6_takePromised_1 : decode cX6_takePromised 1 = .ok (.aload_n 1, 1) := by decide +kernel
theorem dX6_takePromised_2 : decode cX6_takePromised 2 = .ok (.iconst 0, 1) := by decide +kernel
theorem dX6_takePromised_3 : decode cX6_takePromised 3 = .ok (.invokevirtual 227, 3) := by decide +kernel
theorem dX6_takePromised_6 : decode cX6_takePromised 6 = .ok (.astore_n 2, 1) := by decide +kernel
theorem dX6_takePromised_7 : decode cX6_takePromised 7 = .ok (.aload_n 2, 1) := by decide +kernel
theorem dX6_takePromised_8 : decode cX6_takePromised 8 = .ok (.ifnonnull 4, 3) := by decide +kernel
theorem dX6_takePromised_11 : decode cX6_takePromised 11 = .ok (.return_, 1) := by decide +kernel
theorem dX6_takePromised_12 : decode cX6_takePromised 12 = .ok (.aload_n 2, 1) := by decide +kernel
theorem dX6_takePromised_13 : decode cX6_takePromised 13 = .ok (.aload_n 1, 1) := by decide +kernel
theorem dX6_takePromised_14 : decode cX6_takePromised 14 = .ok (.getfield 130, 3) := by decide +kernel
theorem dX6_takePromised_17 : decode cX6_takePromised 17 = .ok (.aload_n 1, 1) := by decide +kernel
theorem dX6_takePromised_18 : decode cX6_takePromised 18 = .ok (.getfield 133, 3) := by decide +kernel
theorem dX6_takePromised_21 : decode cX6_takePromised 21 = .ok (.invokevirtual 231, 3) := by decide +kernel
theorem dX6_takePromised_24 : decode cX6_takePromised 24 = .ok (.aload_n 2, 1) := by decide +kernel
theorem dX6_takePromised_25 : decode cX6_takePromised 25 = .ok (.aload_n 1, 1) := by decide +kernel
theorem dX6_takePromised_26 : decode cX6_takePromised 26 = .ok (.getfield 121, 3) := by decide +kernel
theorem dX6_takePromised_29 : decode cX6_takePromised 29 = .ok (.invokevirtual 234, 3) := by decide +kernel
theorem dX6_takePromised_32 : decode cX6_takePromised 32 = .ok (.aload_n 2, 1) := by decide +kernel
theorem dX6_takePromised_33 : decode cX6_takePromised 33 = .ok (.invokevirtual 174, 3) := by decide +kernel
theorem dX6_takePromised_36 : decode cX6_takePromised 36 = .ok (.aload_n 2, 1) := by decide +kernel
theorem dX6_takePromised_37 : decode cX6_takePromised 37 = .ok (.getfield 237, 3) := by decide +kernel
theorem dX6_takePromised_40 : decode cX6_takePromised 40 = .ok (.if_icmp .lt 21, 3) := by decide +kernel
theorem dX6_takePromised_43 : decode cX6_takePromised 43 = .ok (.aload_n 2, 1) := by decide +kernel
theorem dX6_takePromised_44 : decode cX6_takePromised 44 = .ok (.invokevirtual 240, 3) := by decide +kernel
theorem dX6_takePromised_47 : decode cX6_takePromised 47 = .ok (.aload_n 0, 1) := by decide +kernel
theorem dX6_takePromised_48 : decode cX6_takePromised 48 = .ok (.iconst 2, 1) := by decide +kernel
theorem dX6_takePromised_49 : decode cX6_takePromised 49 = .ok (.aload_n 2, 1) := by decide +kernel
theorem dX6_takePromised_50 : decode cX6_takePromised 50 = .ok (.aload_n 2, 1) := by decide +kernel
theorem dX6_takePromised_51 : decode cX6_takePromised 51 = .ok (.getfield 243, 3) := by decide +kernel
theorem dX6_takePromised_54 : decode cX6_takePromised 54 = .ok (.aload_n 2, 1) := by decide +kernel
theorem dX6_takePromised_55 : decode cX6_takePromised 55 = .ok (.getfield 189, 3) := by decide +kernel
theorem dX6_takePromised_58 : decode cX6_takePromised 58 = .ok (.invokevirtual 79, 3) := by decide +kernel
theorem dX6_takePromised_61 : decode cX6_takePromised 61 = .ok (.return_, 1) := by decide +kernel
set_option maxRecDepth 20000 in
theorem ggX6_takeTaken_X6_awaiting : GoodIn wsX6_takeTaken wsX6_awaiting := goodIn_r _ [6, 1, 7, 8, 9, 10, 11, 50, 51, 52, 53, 54, 55, 56, 28, 29, 30, 31, 32, 33, 34, 57, 58, 59, 60, 61, 35, 36, 37, 38, 39, 40, 41, 42, 43, 44, 45, 46, 47, 48, 49] (by decide +kernel) (by decide +kernel)
set_option maxRecDepth 20000 in
theorem gX6_takeTaken_X6_awaiting : GoodIn wsX6_takeTaken (wsV RX6 227 RX6 yX6_awaiting wsX6_awaiting) := goodIn_app (goodIn_of _ (by decide +kernel)) ggX6_takeTaken_X6_awaiting
set_option maxRecDepth 20000 in
theorem ggX6_takeTaken_X3_countAnswer : GoodIn wsX6_takeTaken wsX3_countAnswer := goodIn_r _ [14, 11, 35, 36, 37, 38, 39, 40, 41, 42, 43, 44, 45, 46, 47, 48, 49] (by decide +kernel) (by decide +kernel)
set_option maxRecDepth 20000 in
theorem gX6_takeTaken_X3_countAnswer_n234 : GoodIn wsX6_takeTaken (wsX3_countAnswer) := ggX6_takeTaken_X3_countAnswer
set_option maxRecDepth 20000 in
theorem ggX6_takeTaken_X3_answers : GoodIn wsX6_takeTaken wsX3_answers := goodIn_r _ [17, 11, 18, 19, 20, 21, 22, 23, 24, 35, 36, 37, 38, 39, 40, 41, 42, 43, 44, 45, 46, 47, 48, 49] (by decide +kernel) (by decide +kernel)
set_option maxRecDepth 20000 in
theorem gX6_takeTaken_X3_answers_n174 : GoodIn wsX6_takeTaken (wsX3_answers) := ggX6_takeTaken_X3_answers
set_option maxRecDepth 20000 in
theorem ggX6_takeTaken_X6_endCurrent : GoodIn wsX6_takeTaken wsX6_endCurrent := goodIn_r _ [27, 57, 58, 59, 60, 61, 35, 36, 37, 38, 39, 40, 41, 42, 43, 44, 45, 46, 47, 48, 49] (by decide +kernel) (by decide +kernel)
set_option maxRecDepth 20000 in
theorem gX6_takeTaken_X6_endCurrent : GoodIn wsX6_takeTaken (va_wsS RX6 86 yX6_endCurrent wsX6_endCurrent) := goodIn_app (goodIn_of _ (by decide +kernel)) ggX6_takeTaken_X6_endCurrent
theorem dX6_takeTaken_0 : decode cX6_takeTaken 0 = .ok (.aload_n 0, 1) := by decide +kernel
theorem dX6_takeTaken_1 : decode cX6_takeTaken 1 = .ok (.aload_n 1, 1) := by decide +kernel
theorem dX6_takeTaken_2 : decode cX6_takeTaken 2 = .ok (.iconst 1, 1) := by decide +kernel
theorem dX6_takeTaken_3 : decode cX6_takeTaken 3 = .ok (.invokevirtual 227, 3) := by decide +kernel
theorem dX6_takeTaken_6 : decode cX6_takeTaken 6 = .ok (.astore_n 2, 1) := by decide +kernel
theorem dX6_takeTaken_7 : decode cX6_takeTaken 7 = .ok (.aload_n 2, 1) := by decide +kernel
theorem dX6_takeTaken_8 : decode cX6_takeTaken 8 = .ok (.ifnonnull 4, 3) := by decide +kernel
theorem dX6_takeTaken_11 : decode cX6_takeTaken 11 = .ok (.return_, 1) := by decide +kernel
theorem dX6_takeTaken_12 : decode cX6_takeTaken 12 = .ok (.aload_n 2, 1) := by decide +kernel
theorem dX6_takeTaken_13 : decode cX6_takeTaken 13 = .ok (.aload_n 1, 1) := by decide +kernel
theorem dX6_takeTaken_14 : decode cX6_takeTaken 14 = .ok (.getfield 121, 3) := by decide +kernel
theorem dX6_takeTaken_17 : decode cX6_takeTaken 17 = .ok (.invokevirtual 234, 3) := by decide +kernel
theorem dX6_takeTaken_20 : decode cX6_takeTaken 20 = .ok (.aload_n 2, 1) := by decide +kernel
theorem dX6_takeTaken_21 : decode cX6_takeTaken 21 = .ok (.invokevirtual 174, 3) := by decide +kernel
theorem dX6_takeTaken_24 : decode cX6_takeTaken 24 = .ok (.aload_n 2, 1) := by decide +kernel
theorem dX6_takeTaken_25 : decode cX6_takeTaken 25 = .ok (.getfield 246, 3) := by decide +kernel
theorem dX6_takeTaken_28 : decode cX6_takeTaken 28 = .ok (.if_icmp .lt 17, 3) := by decide +kernel
theorem dX6_takeTaken_31 : decode cX6_takeTaken 31 = .ok (.aload_n 0, 1) := by decide +kernel
theorem dX6_takeTaken_32 : decode cX6_takeTaken 32 = .ok (.getfield 33, 3) := by decide +kernel
theorem dX6_takeTaken_35 : decode cX6_takeTaken 35 = .ok (.aload_n 1, 1) := by decide +kernel
theorem dX6_takeTaken_36 : decode cX6_takeTaken 36 = .ok (.getfield 118, 3) := by decide +kernel
theorem dX6_takeTaken_39 : decode cX6_takeTaken 39 = .ok (.aaload, 1) := by decide +kernel
theorem dX6_takeTaken_40 : decode cX6_takeTaken 40 = .ok (.iconst 1, 1) := by decide +kernel
theorem dX6_takeTaken_41 : decode cX6_takeTaken 41 = .ok (.invokestatic 86, 3) := by decide +kernel
theorem dX6_takeTaken_44 : decode cX6_takeTaken 44 = .ok (.pop, 1) := by decide +kernel
theorem dX6_takeTaken_45 : decode cX6_takeTaken 45 = .ok (.return_, 1) := by decide +kernel
set_option maxRecDepth 20000 in
theorem ggX6_takeRefused_X6_endCurrent : GoodIn wsX6_takeRefused wsX6_endCurrent := goodIn_r _ [9, 24, 25, 26, 27, 28, 29, 30, 31, 32, 33, 34, 35, 36, 37, 38, 39, 40, 41, 42, 43] (by decide +kernel) (by decide +kernel)
set_option maxRecDepth 20000 in
theorem gX6_takeRefused_X6_endCurrent : GoodIn wsX6_takeRefused (va_wsS RX6 86 yX6_endCurrent wsX6_endCurrent) := goodIn_app (goodIn_of _ (by decide +kernel)) ggX6_takeRefused_X6_endCurrent
theorem dX6_takeRefused_0 : decode cX6_takeRefused 0 = .ok (.aload_n 0, 1) := by decide +kernel
theorem dX6_takeRefused_1 : decode cX6_takeRefused 1 = .ok (.getfield 33, 3) := by decide +kernel
theorem dX6_takeRefused_4 : decode cX6_takeRefused 4 = .ok (.aload_n 1, 1) := by decide +kernel
theorem dX6_takeRefused_5 : decode cX6_takeRefused 5 = .ok (.getfield 118, 3) := by decide +kernel
theorem dX6_takeRefused_8 : decode cX6_takeRefused 8 = .ok (.aaload, 1) := by decide +kernel
theorem dX6_takeRefused_9 : decode cX6_takeRefused 9 = .ok (.astore_n 2, 1) := by decide +kernel
theorem dX6_takeRefused_10 : decode cX6_takeRefused 10 = .ok (.aload_n 2, 1) := by decide +kernel
theorem dX6_takeRefused_11 : decode cX6_takeRefused 11 = .ok (.aload_n 2, 1) := by decide +kernel
theorem dX6_takeRefused_12 : decode cX6_takeRefused 12 = .ok (.getfield 69, 3) := by decide +kernel
theorem dX6_takeRefused_15 : decode cX6_takeRefused 15 = .ok (.aload_n 1, 1) := by decide +kernel
theorem dX6_takeRefused_16 : decode cX6_takeRefused 16 = .ok (.getfield 130, 3) := by decide +kernel
theorem dX6_takeRefused_19 : decode cX6_takeRefused 19 = .ok (.iconst 4, 1) := by decide +kernel
theorem dX6_takeRefused_20 : decode cX6_takeRefused 20 = .ok (.idiv, 1) := by decide +kernel
theorem dX6_takeRefused_21 : decode cX6_takeRefused 21 = .ok (.invokestatic 249, 3) := by decide +kernel
theorem dX6_takeRefused_24 : decode cX6_takeRefused 24 = .ok (.putfield 69, 3) := by decide +kernel
theorem dX6_takeRefused_27 : decode cX6_takeRefused 27 = .ok (.aload_n 2, 1) := by decide +kernel
theorem dX6_takeRefused_28 : decode cX6_takeRefused 28 = .ok (.getfield 65, 3) := by decide +kernel
theorem dX6_takeRefused_31 : decode cX6_takeRefused 31 = .ok (.ifnull 23, 3) := by decide +kernel
theorem dX6_takeRefused_34 : decode cX6_takeRefused 34 = .ok (.aload_n 2, 1) := by decide +kernel
theorem dX6_takeRefused_35 : decode cX6_takeRefused 35 = .ok (.getfield 65, 3) := by decide +kernel
theorem dX6_takeRefused_38 : decode cX6_takeRefused 38 = .ok (.getfield 83, 3) := by decide +kernel
theorem dX6_takeRefused_41 : decode cX6_takeRefused 41 = .ok (.aload_n 1, 1) := by decide +kernel
theorem dX6_takeRefused_42 : decode cX6_takeRefused 42 = .ok (.getfield 124, 3) := by decide +kernel
theorem dX6_takeRefused_45 : decode cX6_takeRefused 45 = .ok (.if_icmp .ne 9, 3) := by decide +kernel
theorem dX6_takeRefused_48 : decode cX6_takeRefused 48 = .ok (.aload_n 2, 1) := by decide +kernel
theorem dX6_takeRefused_49 : decode cX6_takeRefused 49 = .ok (.iconst 2, 1) := by decide +kernel
theorem dX6_takeRefused_50 : decode cX6_takeRefused 50 = .ok (.invokestatic 86, 3) := by decide +kernel
theorem dX6_takeRefused_53 : decode cX6_takeRefused 53 = .ok (.pop, 1) := by decide +kernel
theorem dX6_takeRefused_54 : decode cX6_takeRefused 54 = .ok (.return_, 1) := by decide +kernel
set_option maxRecDepth 20000 in
theorem ggX6_awaiting_X3_hasAnswer : GoodIn wsX6_awaiting wsX3_hasAnswer := goodIn_r _ [5, 6, 26, 27, 28, 29, 30, 31, 32, 33, 34, 35, 36, 37, 38, 39, 40] (by decide +kernel) (by decide +kernel)
set_option maxRecDepth 20000 in
theorem gX6_awaiting_X3_hasAnswer_n255 : GoodIn wsX6_awaiting (wsX3_hasAnswer) := ggX6_awaiting_X3_hasAnswer
theorem dX6_awaiting_0 : decode cX6_awaiting 0 = .ok (.aload_n 0, 1) := by decide +kernel
theorem dX6_awaiting_1 : decode cX6_awaiting 1 = .ok (.getfield 33, 3) := by decide +kernel
theorem dX6_awaiting_4 : decode cX6_awaiting 4 = .ok (.aload_n 1, 1) := by decide +kernel
theorem dX6_awaiting_5 : decode cX6_awaiting 5 = .ok (.getfield 118, 3) := by decide +kernel
theorem dX6_awaiting_8 : decode cX6_awaiting 8 = .ok (.aaload, 1) := by decide +kernel
theorem dX6_awaiting_9 : decode cX6_awaiting 9 = .ok (.getfield 65, 3) := by decide +kernel
theorem dX6_awaiting_12 : decode cX6_awaiting 12 = .ok (.astore_n 3, 1) := by decide +kernel
theorem dX6_awaiting_13 : decode cX6_awaiting 13 = .ok (.aload_n 3, 1) := by decide +kernel
theorem dX6_awaiting_14 : decode cX6_awaiting 14 = .ok (.ifnull 14, 3) := by decide +kernel
theorem dX6_awaiting_17 : decode cX6_awaiting 17 = .ok (.aload_n 3, 1) := by decide +kernel
theorem dX6_awaiting_18 : decode cX6_awaiting 18 = .ok (.getfield 83, 3) := by decide +kernel
theorem dX6_awaiting_21 : decode cX6_awaiting 21 = .ok (.aload_n 1, 1) := by decide +kernel
theorem dX6_awaiting_22 : decode cX6_awaiting 22 = .ok (.getfield 124, 3) := by decide +kernel
theorem dX6_awaiting_25 : decode cX6_awaiting 25 = .ok (.if_icmp .eq 5, 3) := by decide +kernel
theorem dX6_awaiting_28 : decode cX6_awaiting 28 = .ok (.aconst_null, 1) := by decide +kernel
theorem dX6_awaiting_29 : decode cX6_awaiting 29 = .ok (.areturn, 1) := by decide +kernel
theorem dX6_awaiting_30 : decode cX6_awaiting 30 = .ok (.aload_n 3, 1) := by decide +kernel
theorem dX6_awaiting_31 : decode cX6_awaiting 31 = .ok (.getfield 170, 3) := by decide +kernel
theorem dX6_awaiting_34 : decode cX6_awaiting 34 = .ok (.iload_n 2, 1) := by decide +kernel
theorem dX6_awaiting_35 : decode cX6_awaiting 35 = .ok (.if_icmp .ne 14, 3) := by decide +kernel
theorem dX6_awaiting_38 : decode cX6_awaiting 38 = .ok (.aload_n 3, 1) := by decide +kernel
theorem dX6_awaiting_39 : decode cX6_awaiting 39 = .ok (.aload_n 1, 1) := by decide +kernel
theorem dX6_awaiting_40 : decode cX6_awaiting 40 = .ok (.getfield 121, 3) := by decide +kernel
theorem dX6_awaiting_43 : decode cX6_awaiting 43 = .ok (.invokevirtual 255, 3) := by decide +kernel
theorem dX6_awaiting_46 : decode cX6_awaiting 46 = .ok (.ifCond .eq 5, 3) := by decide +kernel
theorem dX6_awaiting_49 : decode cX6_awaiting 49 = .ok (.aconst_null, 1) := by decide +kernel
theorem dX6_awaiting_50 : decode cX6_awaiting 50 = .ok (.areturn, 1) := by decide +kernel
theorem dX6_awaiting_51 : decode cX6_awaiting 51 = .ok (.aload_n 3, 1) := by decide +kernel
theorem dX6_awaiting_52 : decode cX6_awaiting 52 = .ok (.areturn, 1) := by decide +kernel
theorem dX6_endCurrent_0 : decode cX6_endCurrent 0 = .ok (.aload_n 0, 1) := by decide +kernel
theorem dX6_endCurrent_1 : decode cX6_endCurrent 1 = .ok (.getfield 65, 3) := by decide +kernel
theorem dX6_endCurrent_4 : decode cX6_endCurrent 4 = .ok (.astore_n 2, 1) := by decide +kernel
theorem dX6_endCurrent_5 : decode cX6_endCurrent 5 = .ok (.aload_n 2, 1) := by decide +kernel
theorem dX6_endCurrent_6 : decode cX6_endCurrent 6 = .ok (.ifnonnull 5, 3) := by decide +kernel
theorem dX6_endCurrent_9 : decode cX6_endCurrent 9 = .ok (.iconst (-1), 1) := by decide +kernel
theorem dX6_endCurrent_10 : decode cX6_endCurrent 10 = .ok (.ireturn, 1) := by decide +kernel
theorem dX6_endCurrent_11 : decode cX6_endCurrent 11 = .ok (.aload_n 2, 1) := by decide +kernel
theorem dX6_endCurrent_12 : decode cX6_endCurrent 12 = .ok (.iload_n 1, 1) := by decide +kernel
theorem dX6_endCurrent_13 : decode cX6_endCurrent 13 = .ok (.putfield 183, 3) := by decide +kernel
theorem dX6_endCurrent_16 : decode cX6_endCurrent 16 = .ok (.aload_n 0, 1) := by decide +kernel
theorem dX6_endCurrent_17 : decode cX6_endCurrent 17 = .ok (.aconst_null, 1) := by decide +kernel
theorem dX6_endCurrent_18 : decode cX6_endCurrent 18 = .ok (.putfield 65, 3) := by decide +kernel
theorem dX6_endCurrent_21 : decode cX6_endCurrent 21 = .ok (.aload_n 2, 1) := by decide +kernel
theorem dX6_endCurrent_22 : decode cX6_endCurrent 22 = .ok (.getfield 83, 3) := by decide +kernel
theorem dX6_endCurrent_25 : decode cX6_endCurrent 25 = .ok (.ireturn, 1) := by decide +kernel
set_option maxRecDepth 20000 in
theorem ggX6_sendToSet_X4_send : GoodIn wsX6_sendToSet wsX4_send := goodIn_r _ [5, 6, 7, 30, 31, 32, 33, 34, 35, 36, 37, 38] (by decide +kernel) (by decide +kernel)
set_option maxRecDepth 20000 in
theorem gX6_sendToSet_X4_send_n136 : GoodIn wsX6_sendToSet (wsX4_send) := ggX6_sendToSet_X4_send
theorem dX6_sendToSet_0 : decode cX6_sendToSet 0 = .ok (.iconst 0, 1) := by decide +kernel
theorem dX6_sendToSet_1 : decode cX6_sendToSet 1 = .ok (.istore 5, 2) := by decide +kernel
theorem dX6_sendToSet_3 : decode cX6_sendToSet 3 = .ok (.iload 5, 2) := by decide +kernel
theorem dX6_sendToSet_5 : decode cX6_sendToSet 5 = .ok (.bipush 9, 2) := by decide +kernel
theorem dX6_sendToSet_7 : decode cX6_sendToSet 7 = .ok (.if_icmp .ge 46, 3) := by decide +kernel
theorem dX6_sendToSet_10 : decode cX6_sendToSet 10 = .ok (.iload_n 3, 1) := by decide +kernel
theorem dX6_sendToSet_11 : decode cX6_sendToSet 11 = .ok (.iconst 1, 1) := by decide +kernel
theorem dX6_sendToSet_12 : decode cX6_sendToSet 12 = .ok (.iload 5, 2) := by decide +kernel
theorem dX6_sendToSet_14 : decode cX6_sendToSet 14 = .ok (.ishl, 1) := by decide +kernel
theorem dX6_sendToSet_15 : decode cX6_sendToSet 15 = .ok (.iand, 1) := by decide +kernel
theorem dX6_sendToSet_16 : decode cX6_sendToSet 16 = .ok (.ifCond .eq 31, 3) := by decide +kernel
theorem dX6_sendToSet_19 : decode cX6_sendToSet 19 = .ok (.aload_n 0, 1) := by decide +kernel
theorem dX6_sendToSet_20 : decode cX6_sendToSet 20 = .ok (.getfield 49, 3) := by decide +kernel
theorem dX6_sendToSet_23 : decode cX6_sendToSet 23 = .ok (.iload_n 1, 1) := by decide +kernel
theorem dX6_sendToSet_24 : decode cX6_sendToSet 24 = .ok (.aload_n 2, 1) := by decide +kernel
theorem dX6_sendToSet_25 : decode cX6_sendToSet 25 = .ok (.getfield 259, 3) := by decide +kernel
theorem dX6_sendToSet_28 : decode cX6_sendToSet 28 = .ok (.iload 5, 2) := by decide +kernel
theorem dX6_sendToSet_30 : decode cX6_sendToSet 30 = .ok (.aload_n 2, 1) := by decide +kernel
theorem dX6_sendToSet_31 : decode cX6_sendToSet 31 = .ok (.getfield 83, 3) := by decide +kernel
theorem dX6_sendToSet_34 : decode cX6_sendToSet 34 = .ok (.aload_n 2, 1) := by decide +kernel
theorem dX6_sendToSet_35 : decode cX6_sendToSet 35 = .ok (.getfield 260, 3) := by decide +kernel
theorem dX6_sendToSet_38 : decode cX6_sendToSet 38 = .ok (.aload_n 2, 1) := by decide +kernel
theorem dX6_sendToSet_39 : decode cX6_sendToSet 39 = .ok (.getfield 190, 3) := by decide +kernel
theorem dX6_sendToSet_42 : decode cX6_sendToSet 42 = .ok (.aload 4, 2) := by decide +kernel
theorem dX6_sendToSet_44 : decode cX6_sendToSet 44 = .ok (.invokevirtual 136, 3) := by decide +kernel
theorem dX6_sendToSet_47 : decode cX6_sendToSet 47 = .ok (.iinc 5 1, 3) := by decide +kernel
theorem dX6_sendToSet_50 : decode cX6_sendToSet 50 = .ok (.goto (-47), 3) := by decide +kernel
theorem dX6_sendToSet_53 : decode cX6_sendToSet 53 = .ok (.return_, 1) := by decide +kernel
set_option maxRecDepth 20000 in
theorem ggX6_sendBack_X4_send : GoodIn wsX6_sendBack wsX4_send := goodIn_r _ [5, 6, 7, 22, 23, 15, 16, 17, 18, 19, 20, 21] (by decide +kernel) (by decide +kernel)
set_option maxRecDepth 20000 in
theorem gX6_sendBack_X4_send_n136 : GoodIn wsX6_sendBack (wsX4_send) := ggX6_sendBack_X4_send
theorem dX6_sendBack_0 : decode cX6_sendBack 0 = .ok (.aload_n 0, 1) := by decide +kernel
theorem dX6_sendBack_1 : decode cX6_sendBack 1 = .ok (.getfield 49, 3) := by decide +kernel
theorem dX6_sendBack_4 : decode cX6_sendBack 4 = .ok (.iload_n 1, 1) := by decide +kernel
theorem dX6_sendBack_5 : decode cX6_sendBack 5 = .ok (.aload_n 2, 1) := by decide +kernel
theorem dX6_sendBack_6 : decode cX6_sendBack 6 = .ok (.getfield 118, 3) := by decide +kernel
theorem dX6_sendBack_9 : decode cX6_sendBack 9 = .ok (.aload_n 2, 1) := by decide +kernel
theorem dX6_sendBack_10 : decode cX6_sendBack 10 = .ok (.getfield 121, 3) := by decide +kernel
theorem dX6_sendBack_13 : decode cX6_sendBack 13 = .ok (.aload_n 2, 1) := by decide +kernel
theorem dX6_sendBack_14 : decode cX6_sendBack 14 = .ok (.getfield 124, 3) := by decide +kernel
theorem dX6_sendBack_17 : decode cX6_sendBack 17 = .ok (.aload_n 2, 1) := by decide +kernel
theorem dX6_sendBack_18 : decode cX6_sendBack 18 = .ok (.getfield 127, 3) := by decide +kernel
theorem dX6_sendBack_21 : decode cX6_sendBack 21 = .ok (.iload_n 3, 1) := by decide +kernel
theorem dX6_sendBack_22 : decode cX6_sendBack 22 = .ok (.aload 4, 2) := by decide +kernel
theorem dX6_sendBack_24 : decode cX6_sendBack 24 = .ok (.invokevirtual 136, 3) := by decide +kernel
theorem dX6_sendBack_27 : decode cX6_sendBack 27 = .ok (.return_, 1) := by decide +kernel
theorem dX7_init_0 : decode cX7_init 0 = .ok (.aload_n 0, 1) := by decide +kernel
theorem dX7_init_1 : decode cX7_init 1 = .ok (.invokespecial 1, 3) := by decide +kernel
theorem dX7_init_4 : decode cX7_init 4 = .ok (.aload_n 0, 1) := by decide +kernel
theorem dX7_init_5 : decode cX7_init 5 = .ok (.sipush 301, 3) := by decide +kernel
theorem dX7_init_8 : decode cX7_init 8 = .ok (.newarray .int, 2) := by decide +kernel
theorem dX7_init_10 : decode cX7_init 10 = .ok (.putfield 7, 3) := by decide +kernel
theorem dX7_init_13 : decode cX7_init 13 = .ok (.aload_n 0, 1) := by decide +kernel
theorem dX7_init_14 : decode cX7_init 14 = .ok (.sipush 301, 3) := by decide +kernel
theorem dX7_init_17 : decode cX7_init 17 = .ok (.newarray .int, 2) := by decide +kernel
theorem dX7_init_19 : decode cX7_init 19 = .ok (.putfield 13, 3) := by decide +kernel
theorem dX7_init_22 : decode cX7_init 22 = .ok (.aload_n 0, 1) := by decide +kernel
theorem dX7_init_23 : decode cX7_init 23 = .ok (.sipush 301, 3) := by decide +kernel
theorem dX7_init_26 : decode cX7_init 26 = .ok (.newarray .int, 2) := by decide +kernel
theorem dX7_init_28 : decode cX7_init 28 = .ok (.putfield 16, 3) := by decide +kernel
theorem dX7_init_31 : decode cX7_init 31 = .ok (.aload_n 0, 1) := by decide +kernel
theorem dX7_init_32 : decode cX7_init 32 = .ok (.sipush 301, 3) := by decide +kernel
theorem dX7_init_35 : decode cX7_init 35 = .ok (.newarray .int, 2) := by decide +kernel
theorem dX7_init_37 : decode cX7_init 37 = .ok (.putfield 19, 3) := by decide +kernel
theorem dX7_init_40 : decode cX7_init 40 = .ok (.aload_n 0, 1) := by decide +kernel
theorem dX7_init_41 : decode cX7_init 41 = .ok (.sipush 301, 3) := by decide +kernel
theorem dX7_init_44 : decode cX7_init 44 = .ok (.newarray .int, 2) := by decide +kernel
theorem dX7_init_46 : decode cX7_init 46 = .ok (.putfield 22, 3) := by decide +kernel
theorem dX7_init_49 : decode cX7_init 49 = .ok (.aload_n 0, 1) := by decide +kernel
theorem dX7_init_50 : decode cX7_init 50 = .ok (.sipush 301, 3) := by decide +kernel
theorem dX7_init_53 : decode cX7_init 53 = .ok (.newarray .boolean, 2) := by decide +kernel
theorem dX7_init_55 : decode cX7_init 55 = .ok (.putfield 25, 3) := by decide +kernel
theorem dX7_init_58 : decode cX7_init 58 = .ok (.aload_n 0, 1) := by decide +kernel
theorem dX7_init_59 : decode cX7_init 59 = .ok (.sipush 301, 3) := by decide +kernel
theorem dX7_init_62 : decode cX7_init 62 = .ok (.newarray .int, 2) := by decide +kernel
theorem dX7_init_64 : decode cX7_init 64 = .ok (.putfield 29, 3) := by decide +kernel
theorem dX7_init_67 : decode cX7_init 67 = .ok (.aload_n 0, 1) := by decide +kernel
theorem dX7_init_68 : decode cX7_init 68 = .ok (.sipush 301, 3) := by decide +kernel
theorem dX7_init_71 : decode cX7_init 71 = .ok (.newarray .long, 2) := by decide +kernel
theorem dX7_init_73 : decode cX7_init 73 = .ok (.putfield 32, 3) := by decide +kernel
theorem dX7_init_76 : decode cX7_init 76 = .ok (.aload_n 0, 1) := by decide +kernel
theorem dX7_init_77 : decode cX7_init 77 = .ok (.bipush 9, 2) := by decide +kernel
theorem dX7_init_79 : decode cX7_init 79 = .ok (.newarray .boolean, 2) := by decide +kernel
theorem dX7_init_81 : decode cX7_init 81 = .ok (.putfield 36, 3) := by decide +kernel
theorem dX7_init_84 : decode cX7_init 84 = .ok (.aload_n 0, 1) := by decide +kernel
theorem dX7_init_85 : decode cX7_init 85 = .ok (.bipush 36, 2) := by decide +kernel
theorem dX7_init_87 : decode cX7_init 87 = .ok (.newarray .int, 2) := by decide +kernel
theorem dX7_init_89 : decode cX7_init 89 = .ok (.putfield 39, 3) := by decide +kernel
theorem dX7_init_92 : decode cX7_init 92 = .ok (.aload_n 0, 1) := by decide +kernel
theorem dX7_init_93 : decode cX7_init 93 = .ok (.bipush 36, 2) := by decide +kernel
theorem dX7_init_95 : decode cX7_init 95 = .ok (.newarray .int, 2) := by decide +kernel
theorem dX7_init_97 : decode cX7_init 97 = .ok (.putfield 42, 3) := by decide +kernel
theorem dX7_init_100 : decode cX7_init 100 = .ok (.aload_n 0, 1) := by decide +kernel
theorem dX7_init_101 : decode cX7_init 101 = .ok (.bipush 36, 2) := by decide +kernel
theorem dX7_init_103 : decode cX7_init 103 = .ok (.newarray .boolean, 2) := by decide +kernel
theorem dX7_init_105 : decode cX7_init 105 = .ok (.putfield 45, 3) := by decide +kernel
theorem dX7_init_108 : decode cX7_init 108 = .ok (.aload_n 0, 1) := by decide +kernel
theorem dX7_init_109 : decode cX7_init 109 = .ok (.bipush 36, 2) := by decide +kernel
theorem dX7_init_111 : decode cX7_init 111 = .ok (.newarray .int, 2) := by decide +kernel
theorem dX7_init_113 : decode cX7_init 113 = .ok (.putfield 48, 3) := by decide +kernel
theorem dX7_init_116 : decode cX7_init 116 = .ok (.aload_n 0, 1) := by decide +kernel
theorem dX7_init_117 : decode cX7_init 117 = .ok (.bipush 36, 2) := by decide +kernel
theorem dX7_init_119 : decode cX7_init 119 = .ok (.newarray .long, 2) := by decide +kernel
theorem dX7_init_121 : decode cX7_init 121 = .ok (.putfield 51, 3) := by decide +kernel
theorem dX7_init_124 : decode cX7_init 124 = .ok (.aload_n 0, 1) := by decide +kernel
theorem dX7_init_125 : decode cX7_init 125 = .ok (.iconst 4, 1) := by decide +kernel
theorem dX7_init_126 : decode cX7_init 126 = .ok (.newarray .int, 2) := by decide +kernel
theorem dX7_init_128 : decode cX7_init 128 = .ok (.putfield 54, 3) := by decide +kernel
theorem dX7_init_131 : decode cX7_init 131 = .ok (.aload_n 0, 1) := by decide +kernel
theorem dX7_init_132 : decode cX7_init 132 = .ok (.bipush 8, 2) := by decide +kernel
theorem dX7_init_134 : decode cX7_init 134 = .ok (.newarray .int, 2) := by decide +kernel
theorem dX7_init_136 : decode cX7_init 136 = .ok (.putfield 57, 3) := by decide +kernel
theorem dX7_init_139 : decode cX7_init 139 = .ok (.aload_n 0, 1) := by decide +kernel
theorem dX7_init_140 : decode cX7_init 140 = .ok (.bipush 8, 2) := by decide +kernel
theorem dX7_init_142 : decode cX7_init 142 = .ok (.newarray .int, 2) := by decide +kernel
theorem dX7_init_144 : decode cX7_init 144 = .ok (.putfield 60, 3) := by decide +kernel
theorem dX7_init_147 : decode cX7_init 147 = .ok (.aload_n 0, 1) := by decide +kernel
theorem dX7_init_148 : decode cX7_init 148 = .ok (.bipush 8, 2) := by decide +kernel
theorem dX7_init_150 : decode cX7_init 150 = .ok (.newarray .int, 2) := by decide +kernel
theorem dX7_init_152 : decode cX7_init 152 = .ok (.putfield 63, 3) := by decide +kernel
theorem dX7_init_155 : decode cX7_init 155 = .ok (.aload_n 0, 1) := by decide +kernel
theorem dX7_init_156 : decode cX7_init 156 = .ok (.bipush 8, 2) := by decide +kernel
theorem dX7_init_158 : decode cX7_init 158 = .ok (.newarray .int, 2) := by decide +kernel
theorem dX7_init_160 : decode cX7_init 160 = .ok (.putfield 66, 3) := by decide +kernel
theorem dX7_init_163 : decode cX7_init 163 = .ok (.aload_n 0, 1) := by decide +kernel
theorem dX7_init_164 : decode cX7_init 164 = .ok (.iconst 4, 1) := by decide +kernel
theorem dX7_init_165 : decode cX7_init 165 = .ok (.newarray .int, 2) := by decide +kernel
theorem dX7_init_167 : decode cX7_init 167 = .ok (.putfield 69, 3) := by decide +kernel
theorem dX7_init_170 : decode cX7_init 170 = .ok (.aload_n 0, 1) := by decide +kernel
theorem dX7_init_171 : decode cX7_init 171 = .ok (.iconst 4, 1) := by decide +kernel
theorem dX7_init_172 : decode cX7_init 172 = .ok (.newarray .boolean, 2) := by decide +kernel
theorem dX7_init_174 : decode cX7_init 174 = .ok (.putfield 72, 3) := by decide +kernel
theorem dX7_init_177 : decode cX7_init 177 = .ok (.aload_n 0, 1) := by decide +kernel
theorem dX7_init_178 : decode cX7_init 178 = .ok (.iconst 4, 1) := by decide +kernel
theorem dX7_init_179 : decode cX7_init 179 = .ok (.newarray .int, 2) := by decide +kernel
theorem dX7_init_181 : decode cX7_init 181 = .ok (.putfield 75, 3) := by decide +kernel
theorem dX7_init_184 : decode cX7_init 184 = .ok (.aload_n 0, 1) := by decide +kernel
theorem dX7_init_185 : decode cX7_init 185 = .ok (.iconst 4, 1) := by decide +kernel
theorem dX7_init_186 : decode cX7_init 186 = .ok (.newarray .int, 2) := by decide +kernel
theorem dX7_init_188 : decode cX7_init 188 = .ok (.putfield 78, 3) := by decide +kernel
theorem dX7_init_191 : decode cX7_init 191 = .ok (.aload_n 0, 1) := by decide +kernel
theorem dX7_init_192 : decode cX7_init 192 = .ok (.iconst 4, 1) := by decide +kernel
theorem dX7_init_193 : decode cX7_init 193 = .ok (.newarray .boolean, 2) := by decide +kernel
theorem dX7_init_195 : decode cX7_init 195 = .ok (.putfield 81, 3) := by decide +kernel
theorem dX7_init_198 : decode cX7_init 198 = .ok (.aload_n 0, 1) := by decide +kernel
theorem dX7_init_199 : decode cX7_init 199 = .ok (.iconst 4, 1) := by decide +kernel
theorem dX7_init_200 : decode cX7_init 200 = .ok (.newarray .int, 2) := by decide +kernel
theorem dX7_init_202 : decode cX7_init 202 = .ok (.putfield 84, 3) := by decide +kernel
theorem dX7_init_205 : decode cX7_init 205 = .ok (.aload_n 0, 1) := by decide +kernel
theorem dX7_init_206 : decode cX7_init 206 = .ok (.iconst 4, 1) := by decide +kernel
theorem dX7_init_207 : decode cX7_init 207 = .ok (.newarray .long, 2) := by decide +kernel
theorem dX7_init_209 : decode cX7_init 209 = .ok (.putfield 87, 3) := by decide +kernel
theorem dX7_init_212 : decode cX7_init 212 = .ok (.aload_n 0, 1) := by decide +kernel
theorem dX7_init_213 : decode cX7_init 213 = .ok (.iconst 4, 1) := by decide +kernel
theorem dX7_init_214 : decode cX7_init 214 = .ok (.newarray .boolean, 2) := by decide +kernel
theorem dX7_init_216 : decode cX7_init 216 = .ok (.putfield 90, 3) := by decide +kernel
theorem dX7_init_219 : decode cX7_init 219 = .ok (.aload_n 0, 1) := by decide +kernel
theorem dX7_init_220 : decode cX7_init 220 = .ok (.sipush 200, 3) := by decide +kernel
theorem dX7_init_223 : decode cX7_init 223 = .ok (.newarray .int, 2) := by decide +kernel
theorem dX7_init_225 : decode cX7_init 225 = .ok (.putfield 93, 3) := by decide +kernel
theorem dX7_init_228 : decode cX7_init 228 = .ok (.aload_n 0, 1) := by decide +kernel
theorem dX7_init_229 : decode cX7_init 229 = .ok (.sipush 200, 3) := by decide +kernel
theorem dX7_init_232 : decode cX7_init 232 = .ok (.newarray .int, 2) := by decide +kernel
theorem dX7_init_234 : decode cX7_init 234 = .ok (.putfield 96, 3) := by decide +kernel
theorem dX7_init_237 : decode cX7_init 237 = .ok (.aload_n 0, 1) := by decide +kernel
theorem dX7_init_238 : decode cX7_init 238 = .ok (.sipush 200, 3) := by decide +kernel
theorem dX7_init_241 : decode cX7_init 241 = .ok (.newarray .long, 2) := by decide +kernel
theorem dX7_init_243 : decode cX7_init 243 = .ok (.putfield 99, 3) := by decide +kernel
theorem dX7_init_246 : decode cX7_init 246 = .ok (.aload_n 0, 1) := by decide +kernel
theorem dX7_init_247 : decode cX7_init 247 = .ok (.sipush 200, 3) := by decide +kernel
theorem dX7_init_250 : decode cX7_init 250 = .ok (.newarray .int, 2) := by decide +kernel
theorem dX7_init_252 : decode cX7_init 252 = .ok (.putfield 102, 3) := by decide +kernel
theorem dX7_init_255 : decode cX7_init 255 = .ok (.aload_n 0, 1) := by decide +kernel
theorem dX7_init_256 : decode cX7_init 256 = .ok (.sipush 200, 3) := by decide +kernel
theorem dX7_init_259 : decode cX7_init 259 = .ok (.newarray .int, 2) := by decide +kernel
theorem dX7_init_261 : decode cX7_init 261 = .ok (.putfield 105, 3) := by decide +kernel
theorem dX7_init_264 : decode cX7_init 264 = .ok (.aload_n 0, 1) := by decide +kernel
theorem dX7_init_265 : decode cX7_init 265 = .ok (.sipush 200, 3) := by decide +kernel
theorem dX7_init_268 : decode cX7_init 268 = .ok (.newarray .boolean, 2) := by decide +kernel
theorem dX7_init_270 : decode cX7_init 270 = .ok (.putfield 108, 3) := by decide +kernel
theorem dX7_init_273 : decode cX7_init 273 = .ok (.aload_n 0, 1) := by decide +kernel
theorem dX7_init_274 : decode cX7_init 274 = .ok (.sipush 200, 3) := by decide +kernel
theorem dX7_init_277 : decode cX7_init 277 = .ok (.newarray .boolean, 2) := by decide +kernel
theorem dX7_init_279 : decode cX7_init 279 = .ok (.putfield 111, 3) := by decide +kernel
theorem dX7_init_282 : decode cX7_init 282 = .ok (.aload_n 0, 1) := by decide +kernel
theorem dX7_init_283 : decode cX7_init 283 = .ok (.sipush 200, 3) := by decide +kernel
theorem dX7_init_286 : decode cX7_init 286 = .ok (.newarray .int, 2) := by decide +kernel
theorem dX7_init_288 : decode cX7_init 288 = .ok (.putfield 114, 3) := by decide +kernel
theorem dX7_init_291 : decode cX7_init 291 = .ok (.aload_n 0, 1) := by decide +kernel
theorem dX7_init_292 : decode cX7_init 292 = .ok (.sipush 200, 3) := by decide +kernel
theorem dX7_init_295 : decode cX7_init 295 = .ok (.newarray .long, 2) := by decide +kernel
theorem dX7_init_297 : decode cX7_init 297 = .ok (.putfield 117, 3) := by decide +kernel
theorem dX7_init_300 : decode cX7_init 300 = .ok (.iconst 0, 1) := by decide +kernel
theorem dX7_init_301 : decode cX7_init 301 = .ok (.istore_n 1, 1) := by decide +kernel
theorem dX7_init_302 : decode cX7_init 302 = .ok (.iload_n 1, 1) := by decide +kernel
theorem dX7_init_303 : decode cX7_init 303 = .ok (.bipush 8, 2) := by decide +kernel
theorem dX7_init_305 : decode cX7_init 305 = .ok (.if_icmp .ge 24, 3) := by decide +kernel
theorem dX7_init_308 : decode cX7_init 308 = .ok (.aload_n 0, 1) := by decide +kernel
theorem dX7_init_309 : decode cX7_init 309 = .ok (.getfield 57, 3) := by decide +kernel
theorem dX7_init_312 : decode cX7_init 312 = .ok (.iload_n 1, 1) := by decide +kernel
theorem dX7_init_313 : decode cX7_init 313 = .ok (.bipush 7, 2) := by decide +kernel
theorem dX7_init_315 : decode cX7_init 315 = .ok (.iastore, 1) := by decide +kernel
theorem dX7_init_316 : decode cX7_init 316 = .ok (.aload_n 0, 1) := by decide +kernel
theorem dX7_init_317 : decode cX7_init 317 = .ok (.getfield 60, 3) := by decide +kernel
theorem dX7_init_320 : decode cX7_init 320 = .ok (.iload_n 1, 1) := by decide +kernel
theorem dX7_init_321 : decode cX7_init 321 = .ok (.iconst 2, 1) := by decide +kernel
theorem dX7_init_322 : decode cX7_init 322 = .ok (.iastore, 1) := by decide +kernel
theorem dX7_init_323 : decode cX7_init 323 = .ok (.iinc 1 1, 3) := by decide +kernel
theorem dX7_init_326 : decode cX7_init 326 = .ok (.goto (-24), 3) := by decide +kernel
theorem dX7_init_329 : decode cX7_init 329 = .ok (.iconst 0, 1) := by decide +kernel
theorem dX7_init_330 : decode cX7_init 330 = .ok (.istore_n 1, 1) := by decide +kernel
theorem dX7_init_331 : decode cX7_init 331 = .ok (.iload_n 1, 1) := by decide +kernel
theorem dX7_init_332 : decode cX7_init 332 = .ok (.iconst 4, 1) := by decide +kernel
theorem dX7_init_333 : decode cX7_init 333 = .ok (.if_icmp .ge 16, 3) := by decide +kernel
theorem dX7_init_336 : decode cX7_init 336 = .ok (.aload_n 0, 1) := by decide +kernel
theorem dX7_init_337 : decode cX7_init 337 = .ok (.getfield 69, 3) := by decide +kernel
theorem dX7_init_340 : decode cX7_init 340 = .ok (.iload_n 1, 1) := by decide +kernel
theorem dX7_init_341 : decode cX7_init 341 = .ok (.iconst (-1), 1) := by decide +kernel
theorem dX7_init_342 : decode cX7_init 342 = .ok (.iastore, 1) := by decide +kernel
theorem dX7_init_343 : decode cX7_init 343 = .ok (.iinc 1 1, 3) := by decide +kernel
theorem dX7_init_346 : decode cX7_init 346 = .ok (.goto (-15), 3) := by decide +kernel
theorem dX7_init_349 : decode cX7_init 349 = .ok (.return_, 1) := by decide +kernel
theorem dX7_thrown_0 : decode cX7_thrown 0 = .ok (.aload_n 0, 1) := by decide +kernel
theorem dX7_thrown_1 : decode cX7_thrown 1 = .ok (.getfield 120, 3) := by decide +kernel
theorem dX7_thrown_4 : decode cX7_thrown 4 = .ok (.ireturn, 1) := by decide +kernel
theorem dX7_send_0 : decode cX7_send 0 = .ok (.aload_n 0, 1) := by decide +kernel
theorem dX7_send_1 : decode cX7_send 1 = .ok (.getfield 124, 3) := by decide +kernel
theorem dX7_send_4 : decode cX7_send 4 = .ok (.sipush 300, 3) := by decide +kernel
theorem dX7_send_7 : decode cX7_send 7 = .ok (.if_icmp .ge 98, 3) := by decide +kernel
theorem dX7_send_10 : decode cX7_send 10 = .ok (.aload_n 0, 1) := by decide +kernel
theorem dX7_send_11 : decode cX7_send 11 = .ok (.getfield 7, 3) := by decide +kernel
theorem dX7_send_14 : decode cX7_send 14 = .ok (.aload_n 0, 1) := by decide +kernel
theorem dX7_send_15 : decode cX7_send 15 = .ok (.getfield 124, 3) := by decide +kernel
theorem dX7_send_18 : decode cX7_send 18 = .ok (.iload_n 1, 1) := by decide +kernel
theorem dX7_send_19 : decode cX7_send 19 = .ok (.iastore, 1) := by decide +kernel
theorem dX7_send_20 : decode cX7_send 20 = .ok (.aload_n 0, 1) := by decide +kernel
theorem dX7_send_21 : decode cX7_send 21 = .ok (.getfield 13, 3) := by decide +kernel
theorem dX7_send_24 : decode cX7_send 24 = .ok (.aload_n 0, 1) := by decide +kernel
theorem dX7_send_25 : decode cX7_send 25 = .ok (.getfield 124, 3) := by decide +kernel
theorem dX7_send_28 : decode cX7_send 28 = .ok (.iload_n 2, 1) := by decide +kernel
theorem dX7_send_29 : decode cX7_send 29 = .ok (.iastore, 1) := by decide +kernel
theorem dX7_send_30 : decode cX7_send 30 = .ok (.aload_n 0, 1) := by decide +kernel
theorem dX7_send_31 : decode cX7_send 31 = .ok (.getfield 16, 3) := by decide +kernel
theorem dX7_send_34 : decode cX7_send 34 = .ok (.aload_n 0, 1) := by decide +kernel
theorem dX7_send_35 : decode cX7_send 35 = .ok (.getfield 124, 3) := by decide +kernel
theorem dX7_send_38 : decode cX7_send 38 = .ok (.iload_n 3, 1) := by decide +kernel
theorem dX7_send_39 : decode cX7_send 39 = .ok (.iastore, 1) := by decide +kernel
theorem dX7_send_40 : decode cX7_send 40 = .ok (.aload_n 0, 1) := by decide +kernel
theorem dX7_send_41 : decode cX7_send 41 = .ok (.getfield 19, 3) := by decide +kernel
theorem dX7_send_44 : decode cX7_send 44 = .ok (.aload_n 0, 1) := by decide +kernel
theorem dX7_send_45 : decode cX7_send 45 = .ok (.getfield 124, 3) := by decide +kernel
theorem dX7_send_48 : decode cX7_send 48 = .ok (.iload 4, 2) := by decide +kernel
theorem dX7_send_50 : decode cX7_send 50 = .ok (.iastore, 1) := by decide +kernel
theorem dX7_send_51 : decode cX7_send 51 = .ok (.aload_n 0, 1) := by decide +kernel
theorem dX7_send_52 : decode cX7_send 52 = .ok (.getfield 22, 3) := by decide +kernel
theorem dX7_send_55 : decode cX7_send 55 = .ok (.aload_n 0, 1) := by decide +kernel
theorem dX7_send_56 : decode cX7_send 56 = .ok (.getfield 124, 3) := by decide +kernel
theorem dX7_send_59 : decode cX7_send 59 = .ok (.iload 5, 2) := by decide +kernel
theorem dX7_send_61 : decode cX7_send 61 = .ok (.iastore, 1) := by decide +kernel
theorem dX7_send_62 : decode cX7_send 62 = .ok (.aload_n 0, 1) := by decide +kernel
theorem dX7_send_63 : decode cX7_send 63 = .ok (.getfield 25, 3) := by decide +kernel
theorem dX7_send_66 : decode cX7_send 66 = .ok (.aload_n 0, 1) := by decide +kernel
theorem dX7_send_67 : decode cX7_send 67 = .ok (.getfield 124, 3) := by decide +kernel
theorem dX7_send_70 : decode cX7_send 70 = .ok (.iload 6, 2) := by decide +kernel
theorem dX7_send_72 : decode cX7_send 72 = .ok (.bastore, 1) := by decide +kernel
theorem dX7_send_73 : decode cX7_send 73 = .ok (.aload_n 0, 1) := by decide +kernel
theorem dX7_send_74 : decode cX7_send 74 = .ok (.getfield 29, 3) := by decide +kernel
theorem dX7_send_77 : decode cX7_send 77 = .ok (.aload_n 0, 1) := by decide +kernel
theorem dX7_send_78 : decode cX7_send 78 = .ok (.getfield 124, 3) := by decide +kernel
theorem dX7_send_81 : decode cX7_send 81 = .ok (.iload 7, 2) := by decide +kernel
theorem dX7_send_83 : decode cX7_send 83 = .ok (.iastore, 1) := by decide +kernel
theorem dX7_send_84 : decode cX7_send 84 = .ok (.aload_n 0, 1) := by decide +kernel
theorem dX7_send_85 : decode cX7_send 85 = .ok (.getfield 32, 3) := by decide +kernel
theorem dX7_send_88 : decode cX7_send 88 = .ok (.aload_n 0, 1) := by decide +kernel
theorem dX7_send_89 : decode cX7_send 89 = .ok (.getfield 124, 3) := by decide +kernel
theorem dX7_send_92 : decode cX7_send 92 = .ok (.lload 8, 2) := by decide +kernel
theorem dX7_send_94 : decode cX7_send 94 = .ok (.lastore, 1) := by decide +kernel
theorem dX7_send_95 : decode cX7_send 95 = .ok (.aload_n 0, 1) := by decide +kernel
theorem dX7_send_96 : decode cX7_send 96 = .ok (.dup, 1) := by decide +kernel
theorem dX7_send_97 : decode cX7_send 97 = .ok (.getfield 124, 3) := by decide +kernel
theorem dX7_send_100 : decode cX7_send 100 = .ok (.iconst 1, 1) := by decide +kernel
theorem dX7_send_101 : decode cX7_send 101 = .ok (.iadd, 1) := by decide +kernel
theorem dX7_send_102 : decode cX7_send 102 = .ok (.putfield 124, 3) := by decide +kernel
theorem dX7_send_105 : decode cX7_send 105 = .ok (.return_, 1) := by decide +kernel
theorem dX7_drop_0 : decode cX7_drop 0 = .ok (.aload_n 0, 1) := by decide +kernel
theorem dX7_drop_1 : decode cX7_drop 1 = .ok (.dup, 1) := by decide +kernel
theorem dX7_drop_2 : decode cX7_drop 2 = .ok (.getfield 124, 3) := by decide +kernel
theorem dX7_drop_5 : decode cX7_drop 5 = .ok (.iconst 1, 1) := by decide +kernel
theorem dX7_drop_6 : decode cX7_drop 6 = .ok (.isub, 1) := by decide +kernel
theorem dX7_drop_7 : decode cX7_drop 7 = .ok (.putfield 124, 3) := by decide +kernel
theorem dX7_drop_10 : decode cX7_drop 10 = .ok (.iload_n 1, 1) := by decide +kernel
theorem dX7_drop_11 : decode cX7_drop 11 = .ok (.istore_n 2, 1) := by decide +kernel
theorem dX7_drop_12 : decode cX7_drop 12 = .ok (.iload_n 2, 1) := by decide +kernel
theorem dX7_drop_13 : decode cX7_drop 13 = .ok (.aload_n 0, 1) := by decide +kernel
theorem dX7_drop_14 : decode cX7_drop 14 = .ok (.getfield 124, 3) := by decide +kernel
theorem dX7_drop_17 : decode cX7_drop 17 = .ok (.if_icmp .ge 121, 3) := by decide +kernel
theorem dX7_drop_20 : decode cX7_drop 20 = .ok (.aload_n 0, 1) := by decide +kernel
theorem dX7_drop_21 : decode cX7_drop 21 = .ok (.getfield 7, 3) := by decide +kernel
theorem dX7_drop_24 : decode cX7_drop 24 = .ok (.iload_n 2, 1) := by decide +kernel
theorem dX7_drop_25 : decode cX7_drop 25 = .ok (.aload_n 0, 1) := by decide +kernel
theorem dX7_drop_26 : decode cX7_drop 26 = .ok (.getfield 7, 3) := by decide +kernel
theorem dX7_drop_29 : decode cX7_drop 29 = .ok (.iload_n 2, 1) := by decide +kernel
theorem dX7_drop_30 : decode cX7_drop 30 = .ok (.iconst 1, 1) := by decide +kernel
theorem dX7_drop_31 : decode cX7_drop 31 = .ok (.iadd, 1) := by decide +kernel
theorem dX7_drop_32 : decode cX7_drop 32 = .ok (.iaload, 1) := by decide +kernel
theorem dX7_drop_33 : decode cX7_drop 33 = .ok (.iastore, 1) := by decide +kernel
theorem dX7_drop_34 : decode cX7_drop 34 = .ok (.aload_n 0, 1) := by decide +kernel
theorem dX7_drop_35 : decode cX7_drop 35 = .ok (.getfield 13, 3) := by decide +kernel
theorem dX7_drop_38 : decode cX7_drop 38 = .ok (.iload_n 2, 1) := by decide +kernel
theorem dX7_drop_39 : decode cX7_drop 39 = .ok (.aload_n 0, 1) := by decide +kernel
theorem dX7_drop_40 : decode cX7_drop 40 = .ok (.getfield 13, 3) := by decide +kernel
theorem dX7_drop_43 : decode cX7_drop 43 = .ok (.iload_n 2, 1) := by decide +kernel
theorem dX7_drop_44 : decode cX7_drop 44 = .ok (.iconst 1, 1) := by decide +kernel
theorem dX7_drop_45 : decode cX7_drop 45 = .ok (.iadd, 1) := by decide +kernel
theorem dX7_drop_46 : decode cX7_drop 46 = .ok (.iaload, 1) := by decide +kernel
theorem dX7_drop_47 : decode cX7_drop 47 = .ok (.iastore, 1) := by decide +kernel
theorem dX7_drop_48 : decode cX7_drop 48 = .ok (.aload_n 0, 1) := by decide +kernel
theorem dX7_drop_49 : decode cX7_drop 49 = .ok (.getfield 16, 3) := by decide +kernel
theorem dX7_drop_52 : decode cX7_drop 52 = .ok (.iload_n 2, 1) := by decide +kernel
theorem dX7_drop_53 : decode cX7_drop 53 = .ok (.aload_n 0, 1) := by decide +kernel
theorem dX7_drop_54 : decode cX7_drop 54 = .ok (.getfield 16, 3) := by decide +kernel
theorem dX7_drop_57 : decode cX7_drop 57 = .ok (.iload_n 2, 1) := by decide +kernel
theorem dX7_drop_58 : decode cX7_drop 58 = .ok (.iconst 1, 1) := by decide +kernel
theorem dX7_drop_59 : decode cX7_drop 59 = .ok (.iadd, 1) := by decide +kernel
theorem dX7_drop_60 : decode cX7_drop 60 = .ok (.iaload, 1) := by decide +kernel
theorem dX7_drop_61 : decode cX7_drop 61 = .ok (.iastore, 1) := by decide +kernel
theorem dX7_drop_62 : decode cX7_drop 62 = .ok (.aload_n 0, 1) := by decide +kernel
theorem dX7_drop_63 : decode cX7_drop 63 = .ok (.getfield 19, 3) := by decide +kernel
theorem dX7_drop_66 : decode cX7_drop 66 = .ok (.iload_n 2, 1) := by decide +kernel
theorem dX7_drop_67 : decode cX7_drop 67 = .ok (.aload_n 0, 1) := by decide +kernel
theorem dX7_drop_68 : decode cX7_drop 68 = .ok (.getfield 19, 3) := by decide +kernel
theorem dX7_drop_71 : decode cX7_drop 71 = .ok (.iload_n 2, 1) := by decide +kernel
theorem dX7_drop_72 : decode cX7_drop 72 = .ok (.iconst 1, 1) := by decide +kernel
theorem dX7_drop_73 : decode cX7_drop 73 = .ok (.iadd, 1) := by decide +kernel
theorem dX7_drop_74 : decode cX7_drop 74 = .ok (.iaload, 1) := by decide +kernel
theorem dX7_drop_75 : decode cX7_drop 75 = .ok (.iastore, 1) := by decide +kernel
theorem dX7_drop_76 : decode cX7_drop 76 = .ok (.aload_n 0, 1) := by decide +kernel
theorem dX7_drop_77 : decode cX7_drop 77 = .ok (.getfield 22, 3) := by decide +kernel
theorem dX7_drop_80 : decode cX7_drop 80 = .ok (.iload_n 2, 1) := by decide +kernel
theorem dX7_drop_81 : decode cX7_drop 81 = .ok (.aload_n 0, 1) := by decide +kernel
theorem dX7_drop_82 : decode cX7_drop 82 = .ok (.getfield 22, 3) := by decide +kernel
theorem dX7_drop_85 : decode cX7_drop 85 = .ok (.iload_n 2, 1) := by decide +kernel
theorem dX7_drop_86 : decode cX7_drop 86 = .ok (.iconst 1, 1) := by decide +kernel
theorem dX7_drop_87 : decode cX7_drop 87 = .ok (.iadd, 1) := by decide +kernel
theorem dX7_drop_88 : decode cX7_drop 88 = .ok (.iaload, 1) := by decide +kernel
theorem dX7_drop_89 : decode cX7_drop 89 = .ok (.iastore, 1) := by decide +kernel
theorem dX7_drop_90 : decode cX7_drop 90 = .ok (.aload_n 0, 1) := by decide +kernel
theorem dX7_drop_91 : decode cX7_drop 91 = .ok (.getfield 25, 3) := by decide +kernel
theorem dX7_drop_94 : decode cX7_drop 94 = .ok (.iload_n 2, 1) := by decide +kernel
theorem dX7_drop_95 : decode cX7_drop 95 = .ok (.aload_n 0, 1) := by decide +kernel
theorem dX7_drop_96 : decode cX7_drop 96 = .ok (.getfield 25, 3) := by decide +kernel
theorem dX7_drop_99 : decode cX7_drop 99 = .ok (.iload_n 2, 1) := by decide +kernel
theorem dX7_drop_100 : decode cX7_drop 100 = .ok (.iconst 1, 1) := by decide +kernel
theorem dX7_drop_101 : decode cX7_drop 101 = .ok (.iadd, 1) := by decide +kernel
theorem dX7_drop_102 : decode cX7_drop 102 = .ok (.baload, 1) := by decide +kernel
theorem dX7_drop_103 : decode cX7_drop 103 = .ok (.bastore, 1) := by decide +kernel
theorem dX7_drop_104 : decode cX7_drop 104 = .ok (.aload_n 0, 1) := by decide +kernel
theorem dX7_drop_105 : decode cX7_drop 105 = .ok (.getfield 29, 3) := by decide +kernel
theorem dX7_drop_108 : decode cX7_drop 108 = .ok (.iload_n 2, 1) := by decide +kernel
theorem dX7_drop_109 : decode cX7_drop 109 = .ok (.aload_n 0, 1) := by decide +kernel
theorem dX7_drop_110 : decode cX7_drop 110 = .ok (.getfield 29, 3) := by decide +kernel
theorem dX7_drop_113 : decode cX7_drop 113 = .ok (.iload_n 2, 1) := by decide +kernel
theorem dX7_drop_114 : decode cX7_drop 114 = .ok (.iconst 1, 1) := by decide +kernel
theorem dX7_drop_115 : decode cX7_drop 115 = .ok (.iadd, 1) := by decide +kernel
theorem dX7_drop_116 : decode cX7_drop 116 = .ok (.iaload, 1) := by decide +kernel
theorem dX7_drop_117 : decode cX7_drop 117 = .ok (.iastore, 1) := by decide +kernel
theorem dX7_drop_118 : decode cX7_drop 118 = .ok (.aload_n 0, 1) := by decide +kernel
theorem dX7_drop_119 : decode cX7_drop 119 = .ok (.getfield 32, 3) := by decide +kernel
theorem dX7_drop_122 : decode cX7_drop 122 = .ok (.iload_n 2, 1) := by decide +kernel
theorem dX7_drop_123 : decode cX7_drop 123 = .ok (.aload_n 0, 1) := by decide +kernel
theorem dX7_drop_124 : decode cX7_drop 124 = .ok (.getfield 32, 3) := by decide +kernel
theorem dX7_drop_127 : decode cX7_drop 127 = .ok (.iload_n 2, 1) := by decide +kernel
theorem dX7_drop_128 : decode cX7_drop 128 = .ok (.iconst 1, 1) := by decide +kernel
theorem dX7_drop_129 : decode cX7_drop 129 = .ok (.iadd, 1) := by decide +kernel
theorem dX7_drop_130 : decode cX7_drop 130 = .ok (.laload, 1) := by decide +kernel
theorem dX7_drop_131 : decode cX7_drop 131 = .ok (.lastore, 1) := by decide +kernel
theorem dX7_drop_132 : decode cX7_drop 132 = .ok (.iinc 2 1, 3) := by decide +kernel
theorem dX7_drop_135 : decode cX7_drop 135 = .ok (.goto (-123), 3) := by decide +kernel
theorem dX7_drop_138 : decode cX7_drop 138 = .ok (.return_, 1) := by decide +kernel
theorem dX7_noMessage_0 : decode cX7_noMessage 0 = .ok (.iload_n 1, 1) := by decide +kernel
theorem dX7_noMessage_1 : decode cX7_noMessage 1 = .ok (.ifCond .lt 11, 3) := by decide +kernel
theorem dX7_noMessage_4 : decode cX7_noMessage 4 = .ok (.iload_n 1, 1) := by decide +kernel
theorem dX7_noMessage_5 : decode cX7_noMessage 5 = .ok (.aload_n 0, 1) := by decide +kernel
theorem dX7_noMessage_6 : decode cX7_noMessage 6 = .ok (.getfield 124, 3) := by decide +kernel
theorem dX7_noMessage_9 : decode cX7_noMessage 9 = .ok (.if_icmp .lt 7, 3) := by decide +kernel
theorem dX7_noMessage_12 : decode cX7_noMessage 12 = .ok (.iconst 1, 1) := by decide +kernel
theorem dX7_noMessage_13 : decode cX7_noMessage 13 = .ok (.goto 4, 3) := by decide +kernel
theorem dX7_noMessage_16 : decode cX7_noMessage 16 = .ok (.iconst 0, 1) := by decide +kernel
theorem dX7_noMessage_17 : decode cX7_noMessage 17 = .ok (.ireturn, 1) := by decide +kernel
theorem dX7_bits_0 : decode cX7_bits 0 = .ok (.iconst 0, 1) := by decide +kernel
theorem dX7_bits_1 : decode cX7_bits 1 = .ok (.istore_n 1, 1) := by decide +kernel
theorem dX7_bits_2 : decode cX7_bits 2 = .ok (.iconst 0, 1) := by decide +kernel
theorem dX7_bits_3 : decode cX7_bits 3 = .ok (.istore_n 2, 1) := by decide +kernel
theorem dX7_bits_4 : decode cX7_bits 4 = .ok (.iload_n 2, 1) := by decide +kernel
theorem dX7_bits_5 : decode cX7_bits 5 = .ok (.bipush 9, 2) := by decide +kernel
theorem dX7_bits_7 : decode cX7_bits 7 = .ok (.if_icmp .ge 17, 3) := by decide +kernel
theorem dX7_bits_10 : decode cX7_bits 10 = .ok (.iload_n 1, 1) := by decide +kernel
theorem dX7_bits_11 : decode cX7_bits 11 = .ok (.iload_n 0, 1) := by decide +kernel
theorem dX7_bits_12 : decode cX7_bits 12 = .ok (.iload_n 2, 1) := by decide +kernel
theorem dX7_bits_13 : decode cX7_bits 13 = .ok (.ishr, 1) := by decide +kernel
theorem dX7_bits_14 : decode cX7_bits 14 = .ok (.iconst 1, 1) := by decide +kernel
theorem dX7_bits_15 : decode cX7_bits 15 = .ok (.iand, 1) := by decide +kernel
theorem dX7_bits_16 : decode cX7_bits 16 = .ok (.iadd, 1) := by decide +kernel
theorem dX7_bits_17 : decode cX7_bits 17 = .ok (.istore_n 1, 1) := by decide +kernel
theorem dX7_bits_18 : decode cX7_bits 18 = .ok (.iinc 2 1, 3) := by decide +kernel
theorem dX7_bits_21 : decode cX7_bits 21 = .ok (.goto (-17), 3) := by decide +kernel
theorem dX7_bits_24 : decode cX7_bits 24 = .ok (.iload_n 1, 1) := by decide +kernel
theorem dX7_bits_25 : decode cX7_bits 25 = .ok (.ireturn, 1) := by decide +kernel
theorem dX7_noAsker_0 : decode cX7_noAsker 0 = .ok (.iload_n 0, 1) := by decide +kernel
theorem dX7_noAsker_1 : decode cX7_noAsker 1 = .ok (.ifCond .lt 8, 3) := by decide +kernel
theorem dX7_noAsker_4 : decode cX7_noAsker 4 = .ok (.iload_n 0, 1) := by decide +kernel
theorem dX7_noAsker_5 : decode cX7_noAsker 5 = .ok (.iconst 4, 1) := by decide +kernel
theorem dX7_noAsker_6 : decode cX7_noAsker 6 = .ok (.if_icmp .lt 7, 3) := by decide +kernel
theorem dX7_noAsker_9 : decode cX7_noAsker 9 = .ok (.iconst 1, 1) := by decide +kernel
theorem dX7_noAsker_10 : decode cX7_noAsker 10 = .ok (.goto 4, 3) := by decide +kernel
theorem dX7_noAsker_13 : decode cX7_noAsker 13 = .ok (.iconst 0, 1) := by decide +kernel
theorem dX7_noAsker_14 : decode cX7_noAsker 14 = .ok (.ireturn, 1) := by decide +kernel
theorem dX7_noKeeper_0 : decode cX7_noKeeper 0 = .ok (.iload_n 0, 1) := by decide +kernel
theorem dX7_noKeeper_1 : decode cX7_noKeeper 1 = .ok (.ifCond .lt 9, 3) := by decide +kernel
theorem dX7_noKeeper_4 : decode cX7_noKeeper 4 = .ok (.iload_n 0, 1) := by decide +kernel
theorem dX7_noKeeper_5 : decode cX7_noKeeper 5 = .ok (.bipush 9, 2) := by decide +kernel
theorem dX7_noKeeper_7 : decode cX7_noKeeper 7 = .ok (.if_icmp .lt 7, 3) := by decide +kernel
theorem dX7_noKeeper_10 : decode cX7_noKeeper 10 = .ok (.iconst 1, 1) := by decide +kernel
theorem dX7_noKeeper_11 : decode cX7_noKeeper 11 = .ok (.goto 4, 3) := by decide +kernel
theorem dX7_noKeeper_14 : decode cX7_noKeeper 14 = .ok (.iconst 0, 1) := by decide +kernel
theorem dX7_noKeeper_15 : decode cX7_noKeeper 15 = .ok (.ireturn, 1) := by decide +kernel
theorem dX7_noKey_0 : decode cX7_noKey 0 = .ok (.iload_n 0, 1) := by decide +kernel
theorem dX7_noKey_1 : decode cX7_noKey 1 = .ok (.ifCond .lt 8, 3) := by decide +kernel
theorem dX7_noKey_4 : decode cX7_noKey 4 = .ok (.iload_n 0, 1) := by decide +kernel
theorem dX7_noKey_5 : decode cX7_noKey 5 = .ok (.iconst 4, 1) := by decide +kernel
theorem dX7_noKey_6 : decode cX7_noKey 6 = .ok (.if_icmp .lt 7, 3) := by decide +kernel
theorem dX7_noKey_9 : decode cX7_noKey 9 = .ok (.iconst 1, 1) := by decide +kernel
theorem dX7_noKey_10 : decode cX7_noKey 10 = .ok (.goto 4, 3) := by decide +kernel
theorem dX7_noKey_13 : decode cX7_noKey 13 = .ok (.iconst 0, 1) := by decide +kernel
theorem dX7_noKey_14 : decode cX7_noKey 14 = .ok (.ireturn, 1) := by decide +kernel
set_option maxRecDepth 20000 in
theorem ggX7_ask_X7_noAsker : GoodIn wsX7_ask wsX7_noAsker := goodIn_r _ [23] (by decide +kernel) (by decide +kernel)
set_option maxRecDepth 20000 in
theorem gX7_ask_X7_noAsker : GoodIn wsX7_ask (va_wsS RX7 127 yX7_noAsker wsX7_noAsker) := goodIn_app (goodIn_of _ (by decide +kernel)) ggX7_ask_X7_noAsker
set_option maxRecDepth 20000 in
theorem ggX7_ask_X7_noKey : GoodIn wsX7_ask wsX7_noKey := goodIn_r _ [26] (by decide +kernel) (by decide +kernel)
set_option maxRecDepth 20000 in
theorem gX7_ask_X7_noKey : GoodIn wsX7_ask (va_wsS RX7 131 yX7_noKey wsX7_noKey) := goodIn_app (goodIn_of _ (by decide +kernel)) ggX7_ask_X7_noKey
set_option maxRecDepth 20000 in
theorem ggX7_ask_X7_send : GoodIn wsX7_ask wsX7_send := goodIn_r _ [30, 31, 32, 33, 34, 35, 36, 37, 38, 39, 40, 41, 42, 43, 44, 45, 46, 47, 48, 49, 50, 51, 52, 53, 54, 55, 56, 57, 58, 59, 60, 61, 62, 63, 64, 65, 66, 67, 68, 69, 70, 71, 72, 73, 74, 75, 76, 77, 78] (by decide +kernel) (by decide +kernel)
set_option maxRecDepth 20000 in
theorem gX7_ask_X7_send : GoodIn wsX7_ask (wsV RX7 137 RX7 yX7_send wsX7_send) := goodIn_app (goodIn_of _ (by decide +kernel)) ggX7_ask_X7_send
theorem dX7_ask_0 : decode cX7_ask 0 = .ok (.aload_n 0, 1) := by decide +kernel
theorem dX7_ask_1 : decode cX7_ask 1 = .ok (.iload_n 1, 1) := by decide +kernel
theorem dX7_ask_2 : decode cX7_ask 2 = .ok (.invokestatic 127, 3) := by decide +kernel
theorem dX7_ask_5 : decode cX7_ask 5 = .ok (.ifCond .ne 10, 3) := by decide +kernel
theorem dX7_ask_8 : decode cX7_ask 8 = .ok (.iload_n 2, 1) := by decide +kernel
theorem dX7_ask_9 : decode cX7_ask 9 = .ok (.invokestatic 131, 3) := by decide +kernel
theorem dX7_ask_12 : decode cX7_ask 12 = .ok (.ifCond .eq 7, 3) := by decide +kernel
theorem dX7_ask_15 : decode cX7_ask 15 = .ok (.iconst 1, 1) := by decide +kernel
theorem dX7_ask_16 : decode cX7_ask 16 = .ok (.goto 18, 3) := by decide +kernel
theorem dX7_ask_19 : decode cX7_ask 19 = .ok (.iload_n 3, 1) := by decide +kernel
theorem dX7_ask_20 : decode cX7_ask 20 = .ok (.ifCond .lt 9, 3) := by decide +kernel
theorem dX7_ask_23 : decode cX7_ask 23 = .ok (.iload_n 3, 1) := by decide +kernel
theorem dX7_ask_24 : decode cX7_ask 24 = .ok (.bipush 6, 2) := by decide +kernel
theorem dX7_ask_26 : decode cX7_ask 26 = .ok (.if_icmp .le 7, 3) := by decide +kernel
theorem dX7_ask_29 : decode cX7_ask 29 = .ok (.iconst 2, 1) := by decide +kernel
theorem dX7_ask_30 : decode cX7_ask 30 = .ok (.goto 4, 3) := by decide +kernel
theorem dX7_ask_33 : decode cX7_ask 33 = .ok (.iconst 0, 1) := by decide +kernel
theorem dX7_ask_34 : decode cX7_ask 34 = .ok (.putfield 120, 3) := by decide +kernel
theorem dX7_ask_37 : decode cX7_ask 37 = .ok (.aload_n 0, 1) := by decide +kernel
theorem dX7_ask_38 : decode cX7_ask 38 = .ok (.getfield 120, 3) := by decide +kernel
theorem dX7_ask_41 : decode cX7_ask 41 = .ok (.ifCond .le 5, 3) := by decide +kernel
theorem dX7_ask_44 : decode cX7_ask 44 = .ok (.iconst 0, 1) := by decide +kernel
theorem dX7_ask_45 : decode cX7_ask 45 = .ok (.ireturn, 1) := by decide +kernel
theorem dX7_ask_46 : decode cX7_ask 46 = .ok (.aload_n 0, 1) := by decide +kernel
theorem dX7_ask_47 : decode cX7_ask 47 = .ok (.getfield 69, 3) := by decide +kernel
theorem dX7_ask_50 : decode cX7_ask 50 = .ok (.iload_n 1, 1) := by decide +kernel
theorem dX7_ask_51 : decode cX7_ask 51 = .ok (.iaload, 1) := by decide +kernel
theorem dX7_ask_52 : decode cX7_ask 52 = .ok (.ifCond .ge 13, 3) := by decide +kernel
theorem dX7_ask_55 : decode cX7_ask 55 = .ok (.aload_n 0, 1) := by decide +kernel
theorem dX7_ask_56 : decode cX7_ask 56 = .ok (.getfield 134, 3) := by decide +kernel
theorem dX7_ask_59 : decode cX7_ask 59 = .ok (.sipush 200, 3) := by decide +kernel
theorem dX7_ask_62 : decode cX7_ask 62 = .ok (.if_icmp .ne 5, 3) := by decide +kernel
theorem dX7_ask_65 : decode cX7_ask 65 = .ok (.iconst (-1), 1) := by decide +kernel
theorem dX7_ask_66 : decode cX7_ask 66 = .ok (.ireturn, 1) := by decide +kernel
theorem dX7_ask_67 : decode cX7_ask 67 = .ok (.aload_n 0, 1) := by decide +kernel
theorem dX7_ask_68 : decode cX7_ask 68 = .ok (.getfield 134, 3) := by decide +kernel
theorem dX7_ask_71 : decode cX7_ask 71 = .ok (.istore 6, 2) := by decide +kernel
theorem dX7_ask_73 : decode cX7_ask 73 = .ok (.aload_n 0, 1) := by decide +kernel
theorem dX7_ask_74 : decode cX7_ask 74 = .ok (.dup, 1) := by decide +kernel
theorem dX7_ask_75 : decode cX7_ask 75 = .ok (.getfield 134, 3) := by decide +kernel
theorem dX7_ask_78 : decode cX7_ask 78 = .ok (.iconst 1, 1) := by decide +kernel
theorem dX7_ask_79 : decode cX7_ask 79 = .ok (.iadd, 1) := by decide +kernel
theorem dX7_ask_80 : decode cX7_ask 80 = .ok (.putfield 134, 3) := by decide +kernel
theorem dX7_ask_83 : decode cX7_ask 83 = .ok (.aload_n 0, 1) := by decide +kernel
theorem dX7_ask_84 : decode cX7_ask 84 = .ok (.getfield 54, 3) := by decide +kernel
theorem dX7_ask_87 : decode cX7_ask 87 = .ok (.iload_n 1, 1) := by decide +kernel
theorem dX7_ask_88 : decode cX7_ask 88 = .ok (.dup2, 1) := by decide +kernel
theorem dX7_ask_89 : decode cX7_ask 89 = .ok (.iaload, 1) := by decide +kernel
theorem dX7_ask_90 : decode cX7_ask 90 = .ok (.iconst 1, 1) := by decide +kernel
theorem dX7_ask_91 : decode cX7_ask 91 = .ok (.iadd, 1) := by decide +kernel
theorem dX7_ask_92 : decode cX7_ask 92 = .ok (.iastore, 1) := by decide +kernel
theorem dX7_ask_93 : decode cX7_ask 93 = .ok (.aload_n 0, 1) := by decide +kernel
theorem dX7_ask_94 : decode cX7_ask 94 = .ok (.getfield 93, 3) := by decide +kernel
theorem dX7_ask_97 : decode cX7_ask 97 = .ok (.iload 6, 2) := by decide +kernel
theorem dX7_ask_99 : decode cX7_ask 99 = .ok (.iload_n 2, 1) := by decide +kernel
theorem dX7_ask_100 : decode cX7_ask 100 = .ok (.iastore, 1) := by decide +kernel
theorem dX7_ask_101 : decode cX7_ask 101 = .ok (.aload_n 0, 1) := by decide +kernel
theorem dX7_ask_102 : decode cX7_ask 102 = .ok (.getfield 96, 3) := by decide +kernel
theorem dX7_ask_105 : decode cX7_ask 105 = .ok (.iload 6, 2) := by decide +kernel
theorem dX7_ask_107 : decode cX7_ask 107 = .ok (.iload_n 3, 1) := by decide +kernel
theorem dX7_ask_108 : decode cX7_ask 108 = .ok (.iastore, 1) := by decide +kernel
theorem dX7_ask_109 : decode cX7_ask 109 = .ok (.aload_n 0, 1) := by decide +kernel
theorem dX7_ask_110 : decode cX7_ask 110 = .ok (.getfield 99, 3) := by decide +kernel
theorem dX7_ask_113 : decode cX7_ask 113 = .ok (.iload 6, 2) := by decide +kernel
theorem dX7_ask_115 : decode cX7_ask 115 = .ok (.lload 4, 2) := by decide +kernel
theorem dX7_ask_117 : decode cX7_ask 117 = .ok (.lastore, 1) := by decide +kernel
theorem dX7_ask_118 : decode cX7_ask 118 = .ok (.aload_n 0, 1) := by decide +kernel
theorem dX7_ask_119 : decode cX7_ask 119 = .ok (.getfield 102, 3) := by decide +kernel
theorem dX7_ask_122 : decode cX7_ask 122 = .ok (.iload 6, 2) := by decide +kernel
theorem dX7_ask_124 : decode cX7_ask 124 = .ok (.iconst 4, 1) := by decide +kernel
theorem dX7_ask_125 : decode cX7_ask 125 = .ok (.aload_n 0, 1) := by decide +kernel
theorem dX7_ask_126 : decode cX7_ask 126 = .ok (.getfield 54, 3) := by decide +kernel
theorem dX7_ask_129 : decode cX7_ask 129 = .ok (.iload_n 1, 1) := by decide +kernel
theorem dX7_ask_130 : decode cX7_ask 130 = .ok (.iaload, 1) := by decide +kernel
theorem dX7_ask_131 : decode cX7_ask 131 = .ok (.imul, 1) := by decide +kernel
theorem dX7_ask_132 : decode cX7_ask 132 = .ok (.iload_n 1, 1) := by decide +kernel
theorem dX7_ask_133 : decode cX7_ask 133 = .ok (.iadd, 1) := by decide +kernel
theorem dX7_ask_134 : decode cX7_ask 134 = .ok (.iastore, 1) := by decide +kernel
theorem dX7_ask_135 : decode cX7_ask 135 = .ok (.aload_n 0, 1) := by decide +kernel
theorem dX7_ask_136 : decode cX7_ask 136 = .ok (.getfield 105, 3) := by decide +kernel
theorem dX7_ask_139 : decode cX7_ask 139 = .ok (.iload 6, 2) := by decide +kernel
theorem dX7_ask_141 : decode cX7_ask 141 = .ok (.iconst 0, 1) := by decide +kernel
theorem dX7_ask_142 : decode cX7_ask 142 = .ok (.iastore, 1) := by decide +kernel
theorem dX7_ask_143 : decode cX7_ask 143 = .ok (.aload_n 0, 1) := by decide +kernel
theorem dX7_ask_144 : decode cX7_ask 144 = .ok (.getfield 69, 3) := by decide +kernel
theorem dX7_ask_147 : decode cX7_ask 147 = .ok (.iload_n 1, 1) := by decide +kernel
theorem dX7_ask_148 : decode cX7_ask 148 = .ok (.iload 6, 2) := by decide +kernel
theorem dX7_ask_150 : decode cX7_ask 150 = .ok (.iastore, 1) := by decide +kernel
theorem dX7_ask_151 : decode cX7_ask 151 = .ok (.aload_n 0, 1) := by decide +kernel
theorem dX7_ask_152 : decode cX7_ask 152 = .ok (.getfield 72, 3) := by decide +kernel
theorem dX7_ask_155 : decode cX7_ask 155 = .ok (.iload_n 1, 1) := by decide +kernel
theorem dX7_ask_156 : decode cX7_ask 156 = .ok (.iconst 0, 1) := by decide +kernel
theorem dX7_ask_157 : decode cX7_ask 157 = .ok (.bastore, 1) := by decide +kernel
theorem dX7_ask_158 : decode cX7_ask 158 = .ok (.aload_n 0, 1) := by decide +kernel
theorem dX7_ask_159 : decode cX7_ask 159 = .ok (.getfield 75, 3) := by decide +kernel
theorem dX7_ask_162 : decode cX7_ask 162 = .ok (.iload_n 1, 1) := by decide +kernel
theorem dX7_ask_163 : decode cX7_ask 163 = .ok (.iconst 0, 1) := by decide +kernel
theorem dX7_ask_164 : decode cX7_ask 164 = .ok (.iastore, 1) := by decide +kernel
theorem dX7_ask_165 : decode cX7_ask 165 = .ok (.aload_n 0, 1) := by decide +kernel
theorem dX7_ask_166 : decode cX7_ask 166 = .ok (.getfield 78, 3) := by decide +kernel
theorem dX7_ask_169 : decode cX7_ask 169 = .ok (.iload_n 1, 1) := by decide +kernel
theorem dX7_ask_170 : decode cX7_ask 170 = .ok (.iconst 0, 1) := by decide +kernel
theorem dX7_ask_171 : decode cX7_ask 171 = .ok (.iastore, 1) := by decide +kernel
theorem dX7_ask_172 : decode cX7_ask 172 = .ok (.aload_n 0, 1) := by decide +kernel
theorem dX7_ask_173 : decode cX7_ask 173 = .ok (.getfield 81, 3) := by decide +kernel
theorem dX7_ask_176 : decode cX7_ask 176 = .ok (.iload_n 1, 1) := by decide +kernel
theorem dX7_ask_177 : decode cX7_ask 177 = .ok (.iconst 0, 1) := by decide +kernel
theorem dX7_ask_178 : decode cX7_ask 178 = .ok (.bastore, 1) := by decide +kernel
theorem dX7_ask_179 : decode cX7_ask 179 = .ok (.aload_n 0, 1) := by decide +kernel
theorem dX7_ask_180 : decode cX7_ask 180 = .ok (.getfield 84, 3) := by decide +kernel
theorem dX7_ask_183 : decode cX7_ask 183 = .ok (.iload_n 1, 1) := by decide +kernel
theorem dX7_ask_184 : decode cX7_ask 184 = .ok (.iconst 0, 1) := by decide +kernel
theorem dX7_ask_185 : decode cX7_ask 185 = .ok (.iastore, 1) := by decide +kernel
theorem dX7_ask_186 : decode cX7_ask 186 = .ok (.aload_n 0, 1) := by decide +kernel
theorem dX7_ask_187 : decode cX7_ask 187 = .ok (.getfield 87, 3) := by decide +kernel
theorem dX7_ask_190 : decode cX7_ask 190 = .ok (.iload_n 1, 1) := by decide +kernel
theorem dX7_ask_191 : decode cX7_ask 191 = .ok (.lconst 0, 1) := by decide +kernel
theorem dX7_ask_192 : decode cX7_ask 192 = .ok (.lastore, 1) := by decide +kernel
theorem dX7_ask_193 : decode cX7_ask 193 = .ok (.iconst 2, 1) := by decide +kernel
theorem dX7_ask_194 : decode cX7_ask 194 = .ok (.iload_n 1, 1) := by decide +kernel
theorem dX7_ask_195 : decode cX7_ask 195 = .ok (.imul, 1) := by decide +kernel
theorem dX7_ask_196 : decode cX7_ask 196 = .ok (.istore 7, 2) := by decide +kernel
theorem dX7_ask_198 : decode cX7_ask 198 = .ok (.iload 7, 2) := by decide +kernel
theorem dX7_ask_200 : decode cX7_ask 200 = .ok (.iconst 2, 1) := by decide +kernel
theorem dX7_ask_201 : decode cX7_ask 201 = .ok (.iload_n 1, 1) := by decide +kernel
theorem dX7_ask_202 : decode cX7_ask 202 = .ok (.imul, 1) := by decide +kernel
theorem dX7_ask_203 : decode cX7_ask 203 = .ok (.iconst 2, 1) := by decide +kernel
theorem dX7_ask_204 : decode cX7_ask 204 = .ok (.iadd, 1) := by decide +kernel
theorem dX7_ask_205 : decode cX7_ask 205 = .ok (.if_icmp .ge 37, 3) := by decide +kernel
theorem dX7_ask_208 : decode cX7_ask 208 = .ok (.aload_n 0, 1) := by decide +kernel
theorem dX7_ask_209 : decode cX7_ask 209 = .ok (.getfield 63, 3) := by decide +kernel
theorem dX7_ask_212 : decode cX7_ask 212 = .ok (.iload 7, 2) := by decide +kernel
theorem dX7_ask_214 : decode cX7_ask 214 = .ok (.aload_n 0, 1) := by decide +kernel
theorem dX7_ask_215 : decode cX7_ask 215 = .ok (.getfield 57, 3) := by decide +kernel
theorem dX7_ask_218 : decode cX7_ask 218 = .ok (.iload 7, 2) := by decide +kernel
theorem dX7_ask_220 : decode cX7_ask 220 = .ok (.iaload, 1) := by decide +kernel
theorem dX7_ask_221 : decode cX7_ask 221 = .ok (.iastore, 1) := by decide +kernel
theorem dX7_ask_222 : decode cX7_ask 222 = .ok (.aload_n 0, 1) := by decide +kernel
theorem dX7_ask_223 : decode cX7_ask 223 = .ok (.getfield 66, 3) := by decide +kernel
theorem dX7_ask_226 : decode cX7_ask 226 = .ok (.iload 7, 2) := by decide +kernel
theorem dX7_ask_228 : decode cX7_ask 228 = .ok (.aload_n 0, 1) := by decide +kernel
theorem dX7_ask_229 : decode cX7_ask 229 = .ok (.getfield 60, 3) := by decide +kernel
theorem dX7_ask_232 : decode cX7_ask 232 = .ok (.iload 7, 2) := by decide +kernel
theorem dX7_ask_234 : decode cX7_ask 234 = .ok (.iaload, 1) := by decide +kernel
theorem dX7_ask_235 : decode cX7_ask 235 = .ok (.iastore, 1) := by decide +kernel
theorem dX7_ask_236 : decode cX7_ask 236 = .ok (.iinc 7 1, 3) := by decide +kernel
theorem dX7_ask_239 : decode cX7_ask 239 = .ok (.goto (-41), 3) := by decide +kernel
theorem dX7_ask_242 : decode cX7_ask 242 = .ok (.iconst 0, 1) := by decide +kernel
theorem dX7_ask_243 : decode cX7_ask 243 = .ok (.istore 7, 2) := by decide +kernel
theorem dX7_ask_245 : decode cX7_ask 245 = .ok (.iload 7, 2) := by decide +kernel
theorem dX7_ask_247 : decode cX7_ask 247 = .ok (.bipush 9, 2) := by decide +kernel
theorem dX7_ask_249 : decode cX7_ask 249 = .ok (.if_icmp .ge 46, 3) := by decide +kernel
theorem dX7_ask_252 : decode cX7_ask 252 = .ok (.aload_n 0, 1) := by decide +kernel
theorem dX7_ask_253 : decode cX7_ask 253 = .ok (.getfield 63, 3) := by decide +kernel
theorem dX7_ask_256 : decode cX7_ask 256 = .ok (.iconst 2, 1) := by decide +kernel
theorem dX7_ask_257 : decode cX7_ask 257 = .ok (.iload_n 1, 1) := by decide +kernel
theorem dX7_ask_258 : decode cX7_ask 258 = .ok (.imul, 1) := by decide +kernel
theorem dX7_ask_259 : decode cX7_ask 259 = .ok (.iaload, 1) := by decide +kernel
theorem dX7_ask_260 : decode cX7_ask 260 = .ok (.iload 7, 2) := by decide +kernel
theorem dX7_ask_262 : decode cX7_ask 262 = .ok (.ishr, 1) := by decide +kernel
theorem dX7_ask_263 : decode cX7_ask 263 = .ok (.iconst 1, 1) := by decide +kernel
theorem dX7_ask_264 : decode cX7_ask 264 = .ok (.iand, 1) := by decide +kernel
theorem dX7_ask_265 : decode cX7_ask 265 = .ok (.iconst 1, 1) := by decide +kernel
theorem dX7_ask_266 : decode cX7_ask 266 = .ok (.if_icmp .ne 23, 3) := by decide +kernel
theorem dX7_ask_269 : decode cX7_ask 269 = .ok (.aload_n 0, 1) := by decide +kernel
theorem dX7_ask_270 : decode cX7_ask 270 = .ok (.iconst 0, 1) := by decide +kernel
theorem dX7_ask_271 : decode cX7_ask 271 = .ok (.iload_n 1, 1) := by decide +kernel
theorem dX7_ask_272 : decode cX7_ask 272 = .ok (.iload 7, 2) := by decide +kernel
theorem dX7_ask_274 : decode cX7_ask 274 = .ok (.iload 6, 2) := by decide +kernel
theorem dX7_ask_276 : decode cX7_ask 276 = .ok (.aload_n 0, 1) := by decide +kernel
theorem dX7_ask_277 : decode cX7_ask 277 = .ok (.getfield 102, 3) := by decide +kernel
theorem dX7_ask_280 : decode cX7_ask 280 = .ok (.iload 6, 2) := by decide +kernel
theorem dX7_ask_282 : decode cX7_ask 282 = .ok (.iaload, 1) := by decide +kernel
theorem dX7_ask_283 : decode cX7_ask 283 = .ok (.iconst 0, 1) := by decide +kernel
theorem dX7_ask_284 : decode cX7_ask 284 = .ok (.iconst 0, 1) := by decide +kernel
theorem dX7_ask_285 : decode cX7_ask 285 = .ok (.lconst 0, 1) := by decide +kernel
theorem dX7_ask_286 : decode cX7_ask 286 = .ok (.invokevirtual 137, 3) := by decide +kernel
theorem dX7_ask_289 : decode cX7_ask 289 = .ok (.iinc 7 1, 3) := by decide +kernel
theorem dX7_ask_292 : decode cX7_ask 292 = .ok (.goto (-47), 3) := by decide +kernel
theorem dX7_ask_295 : decode cX7_ask 295 = .ok (.iload 6, 2) := by decide +kernel
theorem dX7_ask_297 : decode cX7_ask 297 = .ok (.ireturn, 1) := by decide +kernel
theorem dX7_lose0_0 : decode cX7_lose0 0 = .ok (.aload_n 0, 1) := by decide +kernel
theorem dX7_lose0_1 : decode cX7_lose0 1 = .ok (.getfield 105, 3) := by decide +kernel
theorem dX7_lose0_4 : decode cX7_lose0 4 = .ok (.aload_n 0, 1) := by decide +kernel
theorem dX7_lose0_5 : decode cX7_lose0 5 = .ok (.getfield 69, 3) := by decide +kernel
theorem dX7_lose0_8 : decode cX7_lose0 8 = .ok (.iload_n 1, 1) := by decide +kernel
theorem dX7_lose0_9 : decode cX7_lose0 9 = .ok (.iaload, 1) := by decide +kernel
theorem dX7_lose0_10 : decode cX7_lose0 10 = .ok (.iconst 2, 1) := by decide +kernel
theorem dX7_lose0_11 : decode cX7_lose0 11 = .ok (.iastore, 1) := by decide +kernel
theorem dX7_lose0_12 : decode cX7_lose0 12 = .ok (.aload_n 0, 1) := by decide +kernel
theorem dX7_lose0_13 : decode cX7_lose0 13 = .ok (.getfield 69, 3) := by decide +kernel
theorem dX7_lose0_16 : decode cX7_lose0 16 = .ok (.iload_n 1, 1) := by decide +kernel
theorem dX7_lose0_17 : decode cX7_lose0 17 = .ok (.iconst (-1), 1) := by decide +kernel
theorem dX7_lose0_18 : decode cX7_lose0 18 = .ok (.iastore, 1) := by decide +kernel
theorem dX7_lose0_19 : decode cX7_lose0 19 = .ok (.return_, 1) := by decide +kernel
set_option maxRecDepth 20000 in
theorem ggX7_give_X7_noAsker : GoodIn wsX7_give wsX7_noAsker := goodIn_r _ [6] (by decide +kernel) (by decide +kernel)
set_option maxRecDepth 20000 in
theorem gX7_give_X7_noAsker : GoodIn wsX7_give (va_wsS RX7 127 yX7_noAsker wsX7_noAsker) := goodIn_app (goodIn_of _ (by decide +kernel)) ggX7_give_X7_noAsker
set_option maxRecDepth 20000 in
theorem ggX7_give_X7_lose0 : GoodIn wsX7_give wsX7_lose0 := goodIn_r _ [10, 11, 2, 12, 13, 14, 15, 16, 17, 18, 19, 20, 21, 22, 23, 24, 25, 26, 27, 28, 29, 30, 31, 32, 33, 34, 35, 36, 37, 38, 39, 40, 41, 42, 43, 44, 45, 46, 47, 48, 49, 50] (by decide +kernel) (by decide +kernel)
set_option maxRecDepth 20000 in
theorem gX7_give_X7_lose0 : GoodIn wsX7_give (wsV RX7 141 RX7 yX7_lose0 wsX7_lose0) := goodIn_app (goodIn_of _ (by decide +kernel)) ggX7_give_X7_lose0
theorem dX7_give_0 : decode cX7_give 0 = .ok (.aload_n 0, 1) := by decide +kernel
theorem dX7_give_1 : decode cX7_give 1 = .ok (.iload_n 1, 1) := by decide +kernel
theorem dX7_give_2 : decode cX7_give 2 = .ok (.invokestatic 127, 3) := by decide +kernel
theorem dX7_give_5 : decode cX7_give 5 = .ok (.ifCond .eq 7, 3) := by decide +kernel
theorem dX7_give_8 : decode cX7_give 8 = .ok (.iconst 1, 1) := by decide +kernel
theorem dX7_give_9 : decode cX7_give 9 = .ok (.goto 4, 3) := by decide +kernel
theorem dX7_give_12 : decode cX7_give 12 = .ok (.iconst 0, 1) := by decide +kernel
theorem dX7_give_13 : decode cX7_give 13 = .ok (.putfield 120, 3) := by decide +kernel
theorem dX7_give_16 : decode cX7_give 16 = .ok (.aload_n 0, 1) := by decide +kernel
theorem dX7_give_17 : decode cX7_give 17 = .ok (.getfield 120, 3) := by decide +kernel
theorem dX7_give_20 : decode cX7_give 20 = .ok (.ifCond .le 5, 3) := by decide +kernel
theorem dX7_give_23 : decode cX7_give 23 = .ok (.iconst 0, 1) := by decide +kernel
theorem dX7_give_24 : decode cX7_give 24 = .ok (.ireturn, 1) := by decide +kernel
theorem dX7_give_25 : decode cX7_give 25 = .ok (.aload_n 0, 1) := by decide +kernel
theorem dX7_give_26 : decode cX7_give 26 = .ok (.getfield 69, 3) := by decide +kernel
theorem dX7_give_29 : decode cX7_give 29 = .ok (.iload_n 1, 1) := by decide +kernel
theorem dX7_give_30 : decode cX7_give 30 = .ok (.iaload, 1) := by decide +kernel
theorem dX7_give_31 : decode cX7_give 31 = .ok (.istore_n 2, 1) := by decide +kernel
theorem dX7_give_32 : decode cX7_give 32 = .ok (.iload_n 2, 1) := by decide +kernel
theorem dX7_give_33 : decode cX7_give 33 = .ok (.ifCond .lt 8, 3) := by decide +kernel
theorem dX7_give_36 : decode cX7_give 36 = .ok (.aload_n 0, 1) := by decide +kernel
theorem dX7_give_37 : decode cX7_give 37 = .ok (.iload_n 1, 1) := by decide +kernel
theorem dX7_give_38 : decode cX7_give 38 = .ok (.invokevirtual 141, 3) := by decide +kernel
theorem dX7_give_41 : decode cX7_give 41 = .ok (.iload_n 2, 1) := by decide +kernel
theorem dX7_give_42 : decode cX7_give 42 = .ok (.ireturn, 1) := by decide +kernel
set_option maxRecDepth 20000 in
theorem ggX7_plan_X7_noAsker : GoodIn wsX7_plan wsX7_noAsker := goodIn_r _ [7] (by decide +kernel) (by decide +kernel)
set_option maxRecDepth 20000 in
theorem gX7_plan_X7_noAsker : GoodIn wsX7_plan (va_wsS RX7 127 yX7_noAsker wsX7_noAsker) := goodIn_app (goodIn_of _ (by decide +kernel)) ggX7_plan_X7_noAsker
set_option maxRecDepth 20000 in
theorem ggX7_plan_X7_bits : GoodIn wsX7_plan wsX7_bits := goodIn_r _ [10] (by decide +kernel) (by decide +kernel)
set_option maxRecDepth 20000 in
theorem gX7_plan_X7_bits : GoodIn wsX7_plan (va_wsS RX7 145 yX7_bits wsX7_bits) := goodIn_app (goodIn_of _ (by decide +kernel)) ggX7_plan_X7_bits
theorem dX7_plan_0 : decode cX7_plan 0 = .ok (.aload_n 0, 1) := by decide +kernel
theorem dX7_plan_1 : decode cX7_plan 1 = .ok (.iload_n 1, 1) := by decide +kernel
theorem dX7_plan_2 : decode cX7_plan 2 = .ok (.invokestatic 127, 3) := by decide +kernel
theorem dX7_plan_5 : decode cX7_plan 5 = .ok (.ifCond .ne 12, 3) := by decide +kernel
theorem dX7_plan_8 : decode cX7_plan 8 = .ok (.iload_n 2, 1) := by decide +kernel
theorem dX7_plan_9 : decode cX7_plan 9 = .ok (.ifCond .lt 8, 3) := by decide +kernel
theorem dX7_plan_12 : decode cX7_plan 12 = .ok (.iload_n 2, 1) := by decide +kernel
theorem dX7_plan_13 : decode cX7_plan 13 = .ok (.iconst 1, 1) := by decide +kernel
theorem dX7_plan_14 : decode cX7_plan 14 = .ok (.if_icmp .le 7, 3) := by decide +kernel
theorem dX7_plan_17 : decode cX7_plan 17 = .ok (.iconst 1, 1) := by decide +kernel
theorem dX7_plan_18 : decode cX7_plan 18 = .ok (.goto 35, 3) := by decide +kernel
theorem dX7_plan_21 : decode cX7_plan 21 = .ok (.iload_n 3, 1) := by decide +kernel
theorem dX7_plan_22 : decode cX7_plan 22 = .ok (.iconst 1, 1) := by decide +kernel
theorem dX7_plan_23 : decode cX7_plan 23 = .ok (.if_icmp .lt 25, 3) := by decide +kernel
theorem dX7_plan_26 : decode cX7_plan 26 = .ok (.iload_n 3, 1) := by decide +kernel
theorem dX7_plan_27 : decode cX7_plan 27 = .ok (.sipush 511, 3) := by decide +kernel
theorem dX7_plan_30 : decode cX7_plan 30 = .ok (.if_icmp .gt 18, 3) := by decide +kernel
theorem dX7_plan_33 : decode cX7_plan 33 = .ok (.iload 4, 2) := by decide +kernel
theorem dX7_plan_35 : decode cX7_plan 35 = .ok (.iconst 1, 1) := by decide +kernel
theorem dX7_plan_36 : decode cX7_plan 36 = .ok (.if_icmp .lt 12, 3) := by decide +kernel
theorem dX7_plan_39 : decode cX7_plan 39 = .ok (.iload 4, 2) := by decide +kernel
theorem dX7_plan_41 : decode cX7_plan 41 = .ok (.iload_n 3, 1) := by decide +kernel
theorem dX7_plan_42 : decode cX7_plan 42 = .ok (.invokestatic 145, 3) := by decide +kernel
theorem dX7_plan_45 : decode cX7_plan 45 = .ok (.if_icmp .le 7, 3) := by decide +kernel
theorem dX7_plan_48 : decode cX7_plan 48 = .ok (.iconst 2, 1) := by decide +kernel
theorem dX7_plan_49 : decode cX7_plan 49 = .ok (.goto 4, 3) := by decide +kernel
theorem dX7_plan_52 : decode cX7_plan 52 = .ok (.iconst 0, 1) := by decide +kernel
theorem dX7_plan_53 : decode cX7_plan 53 = .ok (.putfield 120, 3) := by decide +kernel
theorem dX7_plan_56 : decode cX7_plan 56 = .ok (.aload_n 0, 1) := by decide +kernel
theorem dX7_plan_57 : decode cX7_plan 57 = .ok (.getfield 120, 3) := by decide +kernel
theorem dX7_plan_60 : decode cX7_plan 60 = .ok (.ifCond .ne 26, 3) := by decide +kernel
theorem dX7_plan_63 : decode cX7_plan 63 = .ok (.aload_n 0, 1) := by decide +kernel
theorem dX7_plan_64 : decode cX7_plan 64 = .ok (.getfield 57, 3) := by decide +kernel
theorem dX7_plan_67 : decode cX7_plan 67 = .ok (.iconst 2, 1) := by decide +kernel
theorem dX7_plan_68 : decode cX7_plan 68 = .ok (.iload_n 1, 1) := by decide +kernel
theorem dX7_plan_69 : decode cX7_plan 69 = .ok (.imul, 1) := by decide +kernel
theorem dX7_plan_70 : decode cX7_plan 70 = .ok (.iload_n 2, 1) := by decide +kernel
theorem dX7_plan_71 : decode cX7_plan 71 = .ok (.iadd, 1) := by decide +kernel
theorem dX7_plan_72 : decode cX7_plan 72 = .ok (.iload_n 3, 1) := by decide +kernel
theorem dX7_plan_73 : decode cX7_plan 73 = .ok (.iastore, 1) := by decide +kernel
theorem dX7_plan_74 : decode cX7_plan 74 = .ok (.aload_n 0, 1) := by decide +kernel
theorem dX7_plan_75 : decode cX7_plan 75 = .ok (.getfield 60, 3) := by decide +kernel
theorem dX7_plan_78 : decode cX7_plan 78 = .ok (.iconst 2, 1) := by decide +kernel
theorem dX7_plan_79 : decode cX7_plan 79 = .ok (.iload_n 1, 1) := by decide +kernel
theorem dX7_plan_80 : decode cX7_plan 80 = .ok (.imul, 1) := by decide +kernel
theorem dX7_plan_81 : decode cX7_plan 81 = .ok (.iload_n 2, 1) := by decide +kernel
theorem dX7_plan_82 : decode cX7_plan 82 = .ok (.iadd, 1) := by decide +kernel
theorem dX7_plan_83 : decode cX7_plan 83 = .ok (.iload 4, 2) := by decide +kernel
theorem dX7_plan_85 : decode cX7_plan 85 = .ok (.iastore, 1) := by decide +kernel
theorem dX7_plan_86 : decode cX7_plan 86 = .ok (.return_, 1) := by decide +kernel
theorem dX7_work_0 : decode cX7_work 0 = .ok (.aload_n 0, 1) := by decide +kernel
theorem dX7_work_1 : decode cX7_work 1 = .ok (.getfield 69, 3) := by decide +kernel
theorem dX7_work_4 : decode cX7_work 4 = .ok (.iload_n 1, 1) := by decide +kernel
theorem dX7_work_5 : decode cX7_work 5 = .ok (.iaload, 1) := by decide +kernel
theorem dX7_work_6 : decode cX7_work 6 = .ok (.istore_n 2, 1) := by decide +kernel
theorem dX7_work_7 : decode cX7_work 7 = .ok (.aload_n 0, 1) := by decide +kernel
theorem dX7_work_8 : decode cX7_work 8 = .ok (.getfield 99, 3) := by decide +kernel
theorem dX7_work_11 : decode cX7_work 11 = .ok (.iload_n 2, 1) := by decide +kernel
theorem dX7_work_12 : decode cX7_work 12 = .ok (.laload, 1) := by decide +kernel
theorem dX7_work_13 : decode cX7_work 13 = .ok (.lstore_n 3, 1) := by decide +kernel
theorem dX7_work_14 : decode cX7_work 14 = .ok (.iconst 0, 1) := by decide +kernel
theorem dX7_work_15 : decode cX7_work 15 = .ok (.istore 5, 2) := by decide +kernel
theorem dX7_work_17 : decode cX7_work 17 = .ok (.iconst 1, 1) := by decide +kernel
theorem dX7_work_18 : decode cX7_work 18 = .ok (.istore 6, 2) := by decide +kernel
theorem dX7_work_20 : decode cX7_work 20 = .ok (.lload_n 3, 1) := by decide +kernel
theorem dX7_work_21 : decode cX7_work 21 = .ok (.lstore 7, 2) := by decide +kernel
theorem dX7_work_23 : decode cX7_work 23 = .ok (.aload_n 0, 1) := by decide +kernel
theorem dX7_work_24 : decode cX7_work 24 = .ok (.getfield 96, 3) := by decide +kernel
theorem dX7_work_27 : decode cX7_work 27 = .ok (.iload_n 2, 1) := by decide +kernel
theorem dX7_work_28 : decode cX7_work 28 = .ok (.iaload, 1) := by decide +kernel
theorem dX7_work_29 : decode cX7_work 29 = .ok (.tableswitch 152 0 5 #[39, 45, 56, 59, 97, 123], 39) := by decide +kernel
theorem dX7_work_68 : decode cX7_work 68 = .ok (.iconst 0, 1) := by decide +kernel
theorem dX7_work_69 : decode cX7_work 69 = .ok (.istore 6, 2) := by decide +kernel
theorem dX7_work_71 : decode cX7_work 71 = .ok (.goto 137, 3) := by decide +kernel
theorem dX7_work_74 : decode cX7_work 74 = .ok (.aload_n 0, 1) := by decide +kernel
theorem dX7_work_75 : decode cX7_work 75 = .ok (.getfield 81, 3) := by decide +kernel
theorem dX7_work_78 : decode cX7_work 78 = .ok (.iload_n 1, 1) := by decide +kernel
theorem dX7_work_79 : decode cX7_work 79 = .ok (.baload, 1) := by decide +kernel
theorem dX7_work_80 : decode cX7_work 80 = .ok (.istore 5, 2) := by decide +kernel
theorem dX7_work_82 : decode cX7_work 82 = .ok (.goto 126, 3) := by decide +kernel
theorem dX7_work_85 : decode cX7_work 85 = .ok (.goto 123, 3) := by decide +kernel
theorem dX7_work_88 : decode cX7_work 88 = .ok (.aload_n 0, 1) := by decide +kernel
theorem dX7_work_89 : decode cX7_work 89 = .ok (.getfield 81, 3) := by decide +kernel
theorem dX7_work_92 : decode cX7_work 92 = .ok (.iload_n 1, 1) := by decide +kernel
theorem dX7_work_93 : decode cX7_work 93 = .ok (.baload, 1) := by decide +kernel
theorem dX7_work_94 : decode cX7_work 94 = .ok (.ifCond .eq 17, 3) := by decide +kernel
theorem dX7_work_97 : decode cX7_work 97 = .ok (.aload_n 0, 1) := by decide +kernel
theorem dX7_work_98 : decode cX7_work 98 = .ok (.getfield 84, 3) := by decide +kernel
theorem dX7_work_101 : decode cX7_work 101 = .ok (.iload_n 1, 1) := by decide +kernel
theorem dX7_work_102 : decode cX7_work 102 = .ok (.iaload, 1) := by decide +kernel
theorem dX7_work_103 : decode cX7_work 103 = .ok (.lload_n 3, 1) := by decide +kernel
theorem dX7_work_104 : decode cX7_work 104 = .ok (.bipush 32, 2) := by decide +kernel
theorem dX7_work_106 : decode cX7_work 106 = .ok (.lshr, 1) := by decide +kernel
theorem dX7_work_107 : decode cX7_work 107 = .ok (.l2i, 1) := by decide +kernel
theorem dX7_work_108 : decode cX7_work 108 = .ok (.if_icmp .eq 7, 3) := by decide +kernel
theorem dX7_work_111 : decode cX7_work 111 = .ok (.iconst 1, 1) := by decide +kernel
theorem dX7_work_112 : decode cX7_work 112 = .ok (.goto 4, 3) := by decide +kernel
theorem dX7_work_115 : decode cX7_work 115 = .ok (.iconst 0, 1) := by decide +kernel
theorem dX7_work_116 : decode cX7_work 116 = .ok (.istore 5, 2) := by decide +kernel
theorem dX7_work_118 : decode cX7_work 118 = .ok (.lload_n 3, 1) := by decide +kernel
theorem dX7_work_119 : decode cX7_work 119 = .ok (.l2i, 1) := by decide +kernel
theorem dX7_work_120 : decode cX7_work 120 = .ok (.i2l, 1) := by decide +kernel
theorem dX7_work_121 : decode cX7_work 121 = .ok (.lstore 7, 2) := by decide +kernel
theorem dX7_work_123 : decode cX7_work 123 = .ok (.goto 85, 3) := by decide +kernel
theorem dX7_work_126 : decode cX7_work 126 = .ok (.aload_n 0, 1) := by decide +kernel
theorem dX7_work_127 : decode cX7_work 127 = .ok (.getfield 81, 3) := by decide +kernel
theorem dX7_work_130 : decode cX7_work 130 = .ok (.iload_n 1, 1) := by decide +kernel
theorem dX7_work_131 : decode cX7_work 131 = .ok (.baload, 1) := by decide +kernel
theorem dX7_work_132 : decode cX7_work 132 = .ok (.ifCond .eq 14, 3) := by decide +kernel
theorem dX7_work_135 : decode cX7_work 135 = .ok (.aload_n 0, 1) := by decide +kernel
theorem dX7_work_136 : decode cX7_work 136 = .ok (.getfield 87, 3) := by decide +kernel
theorem dX7_work_139 : decode cX7_work 139 = .ok (.iload_n 1, 1) := by decide +kernel
theorem dX7_work_140 : decode cX7_work 140 = .ok (.laload, 1) := by decide +kernel
theorem dX7_work_141 : decode cX7_work 141 = .ok (.lload_n 3, 1) := by decide +kernel
theorem dX7_work_142 : decode cX7_work 142 = .ok (.ladd, 1) := by decide +kernel
theorem dX7_work_143 : decode cX7_work 143 = .ok (.goto 4, 3) := by decide +kernel
theorem dX7_work_146 : decode cX7_work 146 = .ok (.lload_n 3, 1) := by decide +kernel
theorem dX7_work_147 : decode cX7_work 147 = .ok (.lstore 7, 2) := by decide +kernel
theorem dX7_work_149 : decode cX7_work 149 = .ok (.goto 59, 3) := by decide +kernel
theorem dX7_work_152 : decode cX7_work 152 = .ok (.aload_n 0, 1) := by decide +kernel
theorem dX7_work_153 : decode cX7_work 153 = .ok (.getfield 81, 3) := by decide +kernel
theorem dX7_work_156 : decode cX7_work 156 = .ok (.iload_n 1, 1) := by decide +kernel
theorem dX7_work_157 : decode cX7_work 157 = .ok (.baload, 1) := by decide +kernel
theorem dX7_work_158 : decode cX7_work 158 = .ok (.ifCond .ne 7, 3) := by decide +kernel
theorem dX7_work_161 : decode cX7_work 161 = .ok (.iconst 1, 1) := by decide +kernel
theorem dX7_work_162 : decode cX7_work 162 = .ok (.goto 4, 3) := by decide +kernel
theorem dX7_work_165 : decode cX7_work 165 = .ok (.iconst 0, 1) := by decide +kernel
theorem dX7_work_166 : decode cX7_work 166 = .ok (.istore 5, 2) := by decide +kernel
theorem dX7_work_168 : decode cX7_work 168 = .ok (.iconst 0, 1) := by decide +kernel
theorem dX7_work_169 : decode cX7_work 169 = .ok (.istore 6, 2) := by decide +kernel
theorem dX7_work_171 : decode cX7_work 171 = .ok (.aload_n 0, 1) := by decide +kernel
theorem dX7_work_172 : decode cX7_work 172 = .ok (.getfield 81, 3) := by decide +kernel
theorem dX7_work_175 : decode cX7_work 175 = .ok (.iload_n 1, 1) := by decide +kernel
theorem dX7_work_176 : decode cX7_work 176 = .ok (.iconst 0, 1) := by decide +kernel
theorem dX7_work_177 : decode cX7_work 177 = .ok (.bastore, 1) := by decide +kernel
theorem dX7_work_178 : decode cX7_work 178 = .ok (.goto 30, 3) := by decide +kernel
theorem dX7_work_181 : decode cX7_work 181 = .ok (.aload_n 0, 1) := by decide +kernel
theorem dX7_work_182 : decode cX7_work 182 = .ok (.getfield 81, 3) := by decide +kernel
theorem dX7_work_185 : decode cX7_work 185 = .ok (.iload_n 1, 1) := by decide +kernel
theorem dX7_work_186 : decode cX7_work 186 = .ok (.baload, 1) := by decide +kernel
theorem dX7_work_187 : decode cX7_work 187 = .ok (.ifCond .eq 18, 3) := by decide +kernel
theorem dX7_work_190 : decode cX7_work 190 = .ok (.aload_n 0, 1) := by decide +kernel
theorem dX7_work_191 : decode cX7_work 191 = .ok (.getfield 87, 3) := by decide +kernel
theorem dX7_work_194 : decode cX7_work 194 = .ok (.iload_n 1, 1) := by decide +kernel
theorem dX7_work_195 : decode cX7_work 195 = .ok (.laload, 1) := by decide +kernel
theorem dX7_work_196 : decode cX7_work 196 = .ok (.lload_n 3, 1) := by decide +kernel
theorem dX7_work_197 : decode cX7_work 197 = .ok (.lcmp, 1) := by decide +kernel
theorem dX7_work_198 : decode cX7_work 198 = .ok (.ifCond .lt 7, 3) := by decide +kernel
theorem dX7_work_201 : decode cX7_work 201 = .ok (.iconst 1, 1) := by decide +kernel
theorem dX7_work_202 : decode cX7_work 202 = .ok (.goto 4, 3) := by decide +kernel
theorem dX7_work_205 : decode cX7_work 205 = .ok (.iconst 0, 1) := by decide +kernel
theorem dX7_work_206 : decode cX7_work 206 = .ok (.istore 5, 2) := by decide +kernel
theorem dX7_work_208 : decode cX7_work 208 = .ok (.aload_n 0, 1) := by decide +kernel
theorem dX7_work_209 : decode cX7_work 209 = .ok (.getfield 90, 3) := by decide +kernel
theorem dX7_work_212 : decode cX7_work 212 = .ok (.iload_n 1, 1) := by decide +kernel
theorem dX7_work_213 : decode cX7_work 213 = .ok (.iload 5, 2) := by decide +kernel
theorem dX7_work_215 : decode cX7_work 215 = .ok (.bastore, 1) := by decide +kernel
theorem dX7_work_216 : decode cX7_work 216 = .ok (.iload 6, 2) := by decide +kernel
theorem dX7_work_218 : decode cX7_work 218 = .ok (.ifCond .eq 50, 3) := by decide +kernel
theorem dX7_work_221 : decode cX7_work 221 = .ok (.iload 5, 2) := by decide +kernel
theorem dX7_work_223 : decode cX7_work 223 = .ok (.ifCond .ne 45, 3) := by decide +kernel
theorem dX7_work_226 : decode cX7_work 226 = .ok (.aload_n 0, 1) := by decide +kernel
theorem dX7_work_227 : decode cX7_work 227 = .ok (.getfield 84, 3) := by decide +kernel
theorem dX7_work_230 : decode cX7_work 230 = .ok (.iload_n 1, 1) := by decide +kernel
theorem dX7_work_231 : decode cX7_work 231 = .ok (.aload_n 0, 1) := by decide +kernel
theorem dX7_work_232 : decode cX7_work 232 = .ok (.getfield 81, 3) := by decide +kernel
theorem dX7_work_235 : decode cX7_work 235 = .ok (.iload_n 1, 1) := by decide +kernel
theorem dX7_work_236 : decode cX7_work 236 = .ok (.baload, 1) := by decide +kernel
theorem dX7_work_237 : decode cX7_work 237 = .ok (.ifCond .eq 14, 3) := by decide +kernel
theorem dX7_work_240 : decode cX7_work 240 = .ok (.aload_n 0, 1) := by decide +kernel
theorem dX7_work_241 : decode cX7_work 241 = .ok (.getfield 84, 3) := by decide +kernel
theorem dX7_work_244 : decode cX7_work 244 = .ok (.iload_n 1, 1) := by decide +kernel
theorem dX7_work_245 : decode cX7_work 245 = .ok (.iaload, 1) := by decide +kernel
theorem dX7_work_246 : decode cX7_work 246 = .ok (.iconst 1, 1) := by decide +kernel
theorem dX7_work_247 : decode cX7_work 247 = .ok (.iadd, 1) := by decide +kernel
theorem dX7_work_248 : decode cX7_work 248 = .ok (.goto 4, 3) := by decide +kernel
theorem dX7_work_251 : decode cX7_work 251 = .ok (.iconst 1, 1) := by decide +kernel
theorem dX7_work_252 : decode cX7_work 252 = .ok (.iastore, 1) := by decide +kernel
theorem dX7_work_253 : decode cX7_work 253 = .ok (.aload_n 0, 1) := by decide +kernel
theorem dX7_work_254 : decode cX7_work 254 = .ok (.getfield 87, 3) := by decide +kernel
theorem dX7_work_257 : decode cX7_work 257 = .ok (.iload_n 1, 1) := by decide +kernel
theorem dX7_work_258 : decode cX7_work 258 = .ok (.lload 7, 2) := by decide +kernel
theorem dX7_work_260 : decode cX7_work 260 = .ok (.lastore, 1) := by decide +kernel
theorem dX7_work_261 : decode cX7_work 261 = .ok (.aload_n 0, 1) := by decide +kernel
theorem dX7_work_262 : decode cX7_work 262 = .ok (.getfield 81, 3) := by decide +kernel
theorem dX7_work_265 : decode cX7_work 265 = .ok (.iload_n 1, 1) := by decide +kernel
theorem dX7_work_266 : decode cX7_work 266 = .ok (.iconst 1, 1) := by decide +kernel
theorem dX7_work_267 : decode cX7_work 267 = .ok (.bastore, 1) := by decide +kernel
theorem dX7_work_268 : decode cX7_work 268 = .ok (.return_, 1) := by decide +kernel
set_option maxRecDepth 20000 in
theorem ggX7_prepared_X7_send : GoodIn wsX7_prepared wsX7_send := goodIn_r _ [11, 12, 13, 14, 15, 16, 17, 18, 19, 20, 25, 26, 27, 28, 29, 30, 31, 32, 33, 34, 35, 36, 37, 38, 39, 40, 41, 42, 43, 44, 45, 46, 47, 48, 49, 50, 51, 52, 53, 54, 55, 56, 57, 58, 59, 60, 61, 62, 63] (by decide +kernel) (by decide +kernel)
set_option maxRecDepth 20000 in
theorem gX7_prepared_X7_send : GoodIn wsX7_prepared (wsV RX7 137 RX7 yX7_send wsX7_send) := goodIn_app (goodIn_of _ (by decide +kernel)) ggX7_prepared_X7_send
set_option maxRecDepth 20000 in
theorem ggX7_prepared_X7_refuse : GoodIn wsX7_prepared wsX7_refuse := goodIn_r _ [24, 2, 3, 7, 8, 9, 10, 11, 12, 13, 14, 15, 16, 17, 18, 19, 20, 25, 26, 27, 28, 29, 30, 31, 32, 33, 34, 35, 36, 37, 38, 39, 40, 41, 42, 43, 44, 45, 46, 47, 48, 49, 50, 51, 52, 53, 54, 55, 56, 57, 58, 59, 60, 61, 62, 63] (by decide +kernel) (by decide +kernel)
set_option maxRecDepth 20000 in
theorem gX7_prepared_X7_refuse : GoodIn wsX7_prepared (wsV RX7 149 RX7 yX7_refuse wsX7_refuse) := goodIn_app (goodIn_of _ (by decide +kernel)) ggX7_prepared_X7_refuse
theorem dX7_prepared_0 : decode cX7_prepared 0 = .ok (.iconst 4, 1) := by decide +kernel
theorem dX7_prepared_1 : decode cX7_prepared 1 = .ok (.iload_n 2, 1) := by decide +kernel
theorem dX7_prepared_2 : decode cX7_prepared 2 = .ok (.imul, 1) := by decide +kernel
theorem dX7_prepared_3 : decode cX7_prepared 3 = .ok (.aload_n 0, 1) := by decide +kernel
theorem dX7_prepared_4 : decode cX7_prepared 4 = .ok (.getfield 93, 3) := by decide +kernel
theorem dX7_prepared_7 : decode cX7_prepared 7 = .ok (.iload_n 3, 1) := by decide +kernel
theorem dX7_prepared_8 : decode cX7_prepared 8 = .ok (.iaload, 1) := by decide +kernel
theorem dX7_prepared_9 : decode cX7_prepared 9 = .ok (.iadd, 1) := by decide +kernel
theorem dX7_prepared_10 : decode cX7_prepared 10 = .ok (.istore 5, 2) := by decide +kernel
theorem dX7_prepared_12 : decode cX7_prepared 12 = .ok (.iload 4, 2) := by decide +kernel
theorem dX7_prepared_14 : decode cX7_prepared 14 = .ok (.aload_n 0, 1) := by decide +kernel
theorem dX7_prepared_15 : decode cX7_prepared 15 = .ok (.getfield 39, 3) := by decide +kernel
theorem dX7_prepared_18 : decode cX7_prepared 18 = .ok (.iload 5, 2) := by decide +kernel
theorem dX7_prepared_20 : decode cX7_prepared 20 = .ok (.iaload, 1) := by decide +kernel
theorem dX7_prepared_21 : decode cX7_prepared 21 = .ok (.if_icmp .le 63, 3) := by decide +kernel
theorem dX7_prepared_24 : decode cX7_prepared 24 = .ok (.iload 4, 2) := by decide +kernel
theorem dX7_prepared_26 : decode cX7_prepared 26 = .ok (.aload_n 0, 1) := by decide +kernel
theorem dX7_prepared_27 : decode cX7_prepared 27 = .ok (.getfield 42, 3) := by decide +kernel
theorem dX7_prepared_30 : decode cX7_prepared 30 = .ok (.iload 5, 2) := by decide +kernel
theorem dX7_prepared_32 : decode cX7_prepared 32 = .ok (.iaload, 1) := by decide +kernel
theorem dX7_prepared_33 : decode cX7_prepared 33 = .ok (.if_icmp .le 51, 3) := by decide +kernel
theorem dX7_prepared_36 : decode cX7_prepared 36 = .ok (.aload_n 0, 1) := by decide +kernel
theorem dX7_prepared_37 : decode cX7_prepared 37 = .ok (.getfield 39, 3) := by decide +kernel
theorem dX7_prepared_40 : decode cX7_prepared 40 = .ok (.iload 5, 2) := by decide +kernel
theorem dX7_prepared_42 : decode cX7_prepared 42 = .ok (.iload 4, 2) := by decide +kernel
theorem dX7_prepared_44 : decode cX7_prepared 44 = .ok (.iastore, 1) := by decide +kernel
theorem dX7_prepared_45 : decode cX7_prepared 45 = .ok (.aload_n 0, 1) := by decide +kernel
theorem dX7_prepared_46 : decode cX7_prepared 46 = .ok (.iconst 1, 1) := by decide +kernel
theorem dX7_prepared_47 : decode cX7_prepared 47 = .ok (.iload_n 1, 1) := by decide +kernel
theorem dX7_prepared_48 : decode cX7_prepared 48 = .ok (.iload_n 2, 1) := by decide +kernel
theorem dX7_prepared_49 : decode cX7_prepared 49 = .ok (.iload_n 3, 1) := by decide +kernel
theorem dX7_prepared_50 : decode cX7_prepared 50 = .ok (.aload_n 0, 1) := by decide +kernel
theorem dX7_prepared_51 : decode cX7_prepared 51 = .ok (.getfield 42, 3) := by decide +kernel
theorem dX7_prepared_54 : decode cX7_prepared 54 = .ok (.iload 5, 2) := by decide +kernel
theorem dX7_prepared_56 : decode cX7_prepared 56 = .ok (.iaload, 1) := by decide +kernel
theorem dX7_prepared_57 : decode cX7_prepared 57 = .ok (.aload_n 0, 1) := by decide +kernel
theorem dX7_prepared_58 : decode cX7_prepared 58 = .ok (.getfield 45, 3) := by decide +kernel
theorem dX7_prepared_61 : decode cX7_prepared 61 = .ok (.iload 5, 2) := by decide +kernel
theorem dX7_prepared_63 : decode cX7_prepared 63 = .ok (.baload, 1) := by decide +kernel
theorem dX7_prepared_64 : decode cX7_prepared 64 = .ok (.aload_n 0, 1) := by decide +kernel
theorem dX7_prepared_65 : decode cX7_prepared 65 = .ok (.getfield 48, 3) := by decide +kernel
theorem dX7_prepared_68 : decode cX7_prepared 68 = .ok (.iload 5, 2) := by decide +kernel
theorem dX7_prepared_70 : decode cX7_prepared 70 = .ok (.iaload, 1) := by decide +kernel
theorem dX7_prepared_71 : decode cX7_prepared 71 = .ok (.aload_n 0, 1) := by decide +kernel
theorem dX7_prepared_72 : decode cX7_prepared 72 = .ok (.getfield 51, 3) := by decide +kernel
theorem dX7_prepared_75 : decode cX7_prepared 75 = .ok (.iload 5, 2) := by decide +kernel
theorem dX7_prepared_77 : decode cX7_prepared 77 = .ok (.laload, 1) := by decide +kernel
theorem dX7_prepared_78 : decode cX7_prepared 78 = .ok (.invokevirtual 137, 3) := by decide +kernel
theorem dX7_prepared_81 : decode cX7_prepared 81 = .ok (.goto 12, 3) := by decide +kernel
theorem dX7_prepared_84 : decode cX7_prepared 84 = .ok (.aload_n 0, 1) := by decide +kernel
theorem dX7_prepared_85 : decode cX7_prepared 85 = .ok (.iload_n 1, 1) := by decide +kernel
theorem dX7_prepared_86 : decode cX7_prepared 86 = .ok (.iload_n 2, 1) := by decide +kernel
theorem dX7_prepared_87 : decode cX7_prepared 87 = .ok (.iload_n 3, 1) := by decide +kernel
theorem dX7_prepared_88 : decode cX7_prepared 88 = .ok (.iload 5, 2) := by decide +kernel
theorem dX7_prepared_90 : decode cX7_prepared 90 = .ok (.invokevirtual 149, 3) := by decide +kernel
theorem dX7_prepared_93 : decode cX7_prepared 93 = .ok (.return_, 1) := by decide +kernel
set_option maxRecDepth 20000 in
theorem ggX7_refuse_X7_send : GoodIn wsX7_refuse wsX7_send := goodIn_r _ [7, 8, 9, 10, 11, 12, 13, 14, 15, 16, 17, 18, 19, 20, 21, 22, 23, 24, 25, 26, 27, 28, 29, 30, 31, 32, 33, 34, 35, 36, 37, 38, 39, 40, 41, 42, 43, 44, 45, 46, 47, 48, 49, 50, 51, 52, 53, 54, 55] (by decide +kernel) (by decide +kernel)
set_option maxRecDepth 20000 in
theorem gX7_refuse_X7_send : GoodIn wsX7_refuse (wsV RX7 137 RX7 yX7_send wsX7_send) := goodIn_app (goodIn_of _ (by decide +kernel)) ggX7_refuse_X7_send
theorem dX7_refuse_0 : decode cX7_refuse 0 = .ok (.aload_n 0, 1) := by decide +kernel
theorem dX7_refuse_1 : decode cX7_refuse 1 = .ok (.iconst 4, 1) := by decide +kernel
theorem dX7_refuse_2 : decode cX7_refuse 2 = .ok (.iload_n 1, 1) := by decide +kernel
theorem dX7_refuse_3 : decode cX7_refuse 3 = .ok (.iload_n 2, 1) := by decide +kernel
theorem dX7_refuse_4 : decode cX7_refuse 4 = .ok (.iload_n 3, 1) := by decide +kernel
theorem dX7_refuse_5 : decode cX7_refuse 5 = .ok (.aload_n 0, 1) := by decide +kernel
theorem dX7_refuse_6 : decode cX7_refuse 6 = .ok (.getfield 39, 3) := by decide +kernel
theorem dX7_refuse_9 : decode cX7_refuse 9 = .ok (.iload 4, 2) := by decide +kernel
theorem dX7_refuse_11 : decode cX7_refuse 11 = .ok (.iaload, 1) := by decide +kernel
theorem dX7_refuse_12 : decode cX7_refuse 12 = .ok (.aload_n 0, 1) := by decide +kernel
theorem dX7_refuse_13 : decode cX7_refuse 13 = .ok (.getfield 42, 3) := by decide +kernel
theorem dX7_refuse_16 : decode cX7_refuse 16 = .ok (.iload 4, 2) := by decide +kernel
theorem dX7_refuse_18 : decode cX7_refuse 18 = .ok (.iaload, 1) := by decide +kernel
theorem dX7_refuse_19 : decode cX7_refuse 19 = .ok (.if_icmp .le 13, 3) := by decide +kernel
theorem dX7_refuse_22 : decode cX7_refuse 22 = .ok (.aload_n 0, 1) := by decide +kernel
theorem dX7_refuse_23 : decode cX7_refuse 23 = .ok (.getfield 39, 3) := by decide +kernel
theorem dX7_refuse_26 : decode cX7_refuse 26 = .ok (.iload 4, 2) := by decide +kernel
theorem dX7_refuse_28 : decode cX7_refuse 28 = .ok (.iaload, 1) := by decide +kernel
theorem dX7_refuse_29 : decode cX7_refuse 29 = .ok (.goto 10, 3) := by decide +kernel
theorem dX7_refuse_32 : decode cX7_refuse 32 = .ok (.aload_n 0, 1) := by decide +kernel
theorem dX7_refuse_33 : decode cX7_refuse 33 = .ok (.getfield 42, 3) := by decide +kernel
theorem dX7_refuse_36 : decode cX7_refuse 36 = .ok (.iload 4, 2) := by decide +kernel
theorem dX7_refuse_38 : decode cX7_refuse 38 = .ok (.iaload, 1) := by decide +kernel
theorem dX7_refuse_39 : decode cX7_refuse 39 = .ok (.iconst 0, 1) := by decide +kernel
theorem dX7_refuse_40 : decode cX7_refuse 40 = .ok (.iconst 0, 1) := by decide +kernel
theorem dX7_refuse_41 : decode cX7_refuse 41 = .ok (.lconst 0, 1) := by decide +kernel
theorem dX7_refuse_42 : decode cX7_refuse 42 = .ok (.invokevirtual 137, 3) := by decide +kernel
theorem dX7_refuse_45 : decode cX7_refuse 45 = .ok (.return_, 1) := by decide +kernel
set_option maxRecDepth 20000 in
theorem ggX7_promised_X7_bits : GoodIn wsX7_promised wsX7_bits := goodIn_r _ [14] (by decide +kernel) (by decide +kernel)
set_option maxRecDepth 20000 in
theorem gX7_promised_X7_bits : GoodIn wsX7_promised (va_wsS RX7 145 yX7_bits wsX7_bits) := goodIn_app (goodIn_of _ (by decide +kernel)) ggX7_promised_X7_bits
set_option maxRecDepth 20000 in
theorem ggX7_promised_X7_work : GoodIn wsX7_promised wsX7_work := goodIn_r _ [18, 1, 19, 20, 5, 6, 7, 21, 35, 36, 37, 38, 39, 40, 41, 42, 43, 44, 45, 46, 47, 48, 49, 50, 51, 52, 53, 54, 55, 56, 57, 58, 59, 60, 61, 62, 63, 64, 65, 66, 67, 68, 69, 70, 71, 72, 73] (by decide +kernel) (by decide +kernel)
set_option maxRecDepth 20000 in
theorem gX7_promised_X7_work : GoodIn wsX7_promised (wsV RX7 153 RX7 yX7_work wsX7_work) := goodIn_app (goodIn_of _ (by decide +kernel)) ggX7_promised_X7_work
set_option maxRecDepth 20000 in
theorem ggX7_promised_X7_send : GoodIn wsX7_promised wsX7_send := goodIn_r _ [25, 26, 27, 28, 29, 30, 31, 32, 33, 34, 35, 36, 37, 38, 39, 40, 41, 42, 43, 44, 45, 46, 47, 48, 49, 50, 51, 52, 53, 54, 55, 56, 57, 58, 59, 60, 61, 62, 63, 64, 65, 66, 67, 68, 69, 70, 71, 72, 73] (by decide +kernel) (by decide +kernel)
set_option maxRecDepth 20000 in
theorem gX7_promised_X7_send : GoodIn wsX7_promised (wsV RX7 137 RX7 yX7_send wsX7_send) := goodIn_app (goodIn_of _ (by decide +kernel)) ggX7_promised_X7_send
theorem dX7_promised_0 : decode cX7_promised 0 = .ok (.aload_n 0, 1) := by decide +kernel
theorem dX7_promised_1 : decode cX7_promised 1 = .ok (.getfield 69, 3) := by decide +kernel
theorem dX7_promised_4 : decode cX7_promised 4 = .ok (.iload_n 1, 1) := by decide +kernel
theorem dX7_promised_5 : decode cX7_promised 5 = .ok (.iaload, 1) := by decide +kernel
theorem dX7_promised_6 : decode cX7_promised 6 = .ok (.iload_n 3, 1) := by decide +kernel
theorem dX7_promised_7 : decode cX7_promised 7 = .ok (.if_icmp .ne 26, 3) := by decide +kernel
theorem dX7_promised_10 : decode cX7_promised 10 = .ok (.aload_n 0, 1) := by decide +kernel
theorem dX7_promised_11 : decode cX7_promised 11 = .ok (.getfield 72, 3) := by decide +kernel
theorem dX7_promised_14 : decode cX7_promised 14 = .ok (.iload_n 1, 1) := by decide +kernel
theorem dX7_promised_15 : decode cX7_promised 15 = .ok (.baload, 1) := by decide +kernel
theorem dX7_promised_16 : decode cX7_promised 16 = .ok (.ifCond .ne 17, 3) := by decide +kernel
theorem dX7_promised_19 : decode cX7_promised 19 = .ok (.aload_n 0, 1) := by decide +kernel
theorem dX7_promised_20 : decode cX7_promised 20 = .ok (.getfield 75, 3) := by decide +kernel
theorem dX7_promised_23 : decode cX7_promised 23 = .ok (.iload_n 1, 1) := by decide +kernel
theorem dX7_promised_24 : decode cX7_promised 24 = .ok (.iaload, 1) := by decide +kernel
theorem dX7_promised_25 : decode cX7_promised 25 = .ok (.iload_n 2, 1) := by decide +kernel
theorem dX7_promised_26 : decode cX7_promised 26 = .ok (.ishr, 1) := by decide +kernel
theorem dX7_promised_27 : decode cX7_promised 27 = .ok (.iconst 1, 1) := by decide +kernel
theorem dX7_promised_28 : decode cX7_promised 28 = .ok (.iand, 1) := by decide +kernel
theorem dX7_promised_29 : decode cX7_promised 29 = .ok (.iconst 1, 1) := by decide +kernel
theorem dX7_promised_30 : decode cX7_promised 30 = .ok (.if_icmp .ne 4, 3) := by decide +kernel
theorem dX7_promised_33 : decode cX7_promised 33 = .ok (.return_, 1) := by decide +kernel
theorem dX7_promised_34 : decode cX7_promised 34 = .ok (.aload_n 0, 1) := by decide +kernel
theorem dX7_promised_35 : decode cX7_promised 35 = .ok (.getfield 75, 3) := by decide +kernel
theorem dX7_promised_38 : decode cX7_promised 38 = .ok (.iload_n 1, 1) := by decide +kernel
theorem dX7_promised_39 : decode cX7_promised 39 = .ok (.dup2, 1) := by decide +kernel
theorem dX7_promised_40 : decode cX7_promised 40 = .ok (.iaload, 1) := by decide +kernel
theorem dX7_promised_41 : decode cX7_promised 41 = .ok (.iconst 1, 1) := by decide +kernel
theorem dX7_promised_42 : decode cX7_promised 42 = .ok (.iload_n 2, 1) := by decide +kernel
theorem dX7_promised_43 : decode cX7_promised 43 = .ok (.ishl, 1) := by decide +kernel
theorem dX7_promised_44 : decode cX7_promised 44 = .ok (.ior, 1) := by decide +kernel
theorem dX7_promised_45 : decode cX7_promised 45 = .ok (.iastore, 1) := by decide +kernel
theorem dX7_promised_46 : decode cX7_promised 46 = .ok (.iload 4, 2) := by decide +kernel
theorem dX7_promised_48 : decode cX7_promised 48 = .ok (.aload_n 0, 1) := by decide +kernel
theorem dX7_promised_49 : decode cX7_promised 49 = .ok (.getfield 78, 3) := by decide +kernel
theorem dX7_promised_52 : decode cX7_promised 52 = .ok (.iload_n 1, 1) := by decide +kernel
theorem dX7_promised_53 : decode cX7_promised 53 = .ok (.iaload, 1) := by decide +kernel
theorem dX7_promised_54 : decode cX7_promised 54 = .ok (.if_icmp .le 35, 3) := by decide +kernel
theorem dX7_promised_57 : decode cX7_promised 57 = .ok (.aload_n 0, 1) := by decide +kernel
theorem dX7_promised_58 : decode cX7_promised 58 = .ok (.getfield 78, 3) := by decide +kernel
theorem dX7_promised_61 : decode cX7_promised 61 = .ok (.iload_n 1, 1) := by decide +kernel
theorem dX7_promised_62 : decode cX7_promised 62 = .ok (.iload 4, 2) := by decide +kernel
theorem dX7_promised_64 : decode cX7_promised 64 = .ok (.iastore, 1) := by decide +kernel
theorem dX7_promised_65 : decode cX7_promised 65 = .ok (.aload_n 0, 1) := by decide +kernel
theorem dX7_promised_66 : decode cX7_promised 66 = .ok (.getfield 81, 3) := by decide +kernel
theorem dX7_promised_69 : decode cX7_promised 69 = .ok (.iload_n 1, 1) := by decide +kernel
theorem dX7_promised_70 : decode cX7_promised 70 = .ok (.iload 5, 2) := by decide +kernel
theorem dX7_promised_72 : decode cX7_promised 72 = .ok (.bastore, 1) := by decide +kernel
theorem dX7_promised_73 : decode cX7_promised 73 = .ok (.aload_n 0, 1) := by decide +kernel
theorem dX7_promised_74 : decode cX7_promised 74 = .ok (.getfield 84, 3) := by decide +kernel
theorem dX7_promised_77 : decode cX7_promised 77 = .ok (.iload_n 1, 1) := by decide +kernel
theorem dX7_promised_78 : decode cX7_promised 78 = .ok (.iload 6, 2) := by decide +kernel
theorem dX7_promised_80 : decode cX7_promised 80 = .ok (.iastore, 1) := by decide +kernel
theorem dX7_promised_81 : decode cX7_promised 81 = .ok (.aload_n 0, 1) := by decide +kernel
theorem dX7_promised_82 : decode cX7_promised 82 = .ok (.getfield 87, 3) := by decide +kernel
theorem dX7_promised_85 : decode cX7_promised 85 = .ok (.iload_n 1, 1) := by decide +kernel
theorem dX7_promised_86 : decode cX7_promised 86 = .ok (.lload 7, 2) := by decide +kernel
theorem dX7_promised_88 : decode cX7_promised 88 = .ok (.lastore, 1) := by decide +kernel
theorem dX7_promised_89 : decode cX7_promised 89 = .ok (.aload_n 0, 1) := by decide +kernel
theorem dX7_promised_90 : decode cX7_promised 90 = .ok (.getfield 75, 3) := by decide +kernel
theorem dX7_promised_93 : decode cX7_promised 93 = .ok (.iload_n 1, 1) := by decide +kernel
theorem dX7_promised_94 : decode cX7_promised 94 = .ok (.iaload, 1) := by decide +kernel
theorem dX7_promised_95 : decode cX7_promised 95 = .ok (.invokestatic 145, 3) := by decide +kernel
theorem dX7_promised_98 : decode cX7_promised 98 = .ok (.aload_n 0, 1) := by decide +kernel
theorem dX7_promised_99 : decode cX7_promised 99 = .ok (.getfield 66, 3) := by decide +kernel
theorem dX7_promised_102 : decode cX7_promised 102 = .ok (.iconst 2, 1) := by decide +kernel
theorem dX7_promised_103 : decode cX7_promised 103 = .ok (.iload_n 1, 1) := by decide +kernel
theorem dX7_promised_104 : decode cX7_promised 104 = .ok (.imul, 1) := by decide +kernel
theorem dX7_promised_105 : decode cX7_promised 105 = .ok (.iaload, 1) := by decide +kernel
theorem dX7_promised_106 : decode cX7_promised 106 = .ok (.if_icmp .lt 90, 3) := by decide +kernel
theorem dX7_promised_109 : decode cX7_promised 109 = .ok (.aload_n 0, 1) := by decide +kernel
theorem dX7_promised_110 : decode cX7_promised 110 = .ok (.iload_n 1, 1) := by decide +kernel
theorem dX7_promised_111 : decode cX7_promised 111 = .ok (.invokevirtual 153, 3) := by decide +kernel
theorem dX7_promised_114 : decode cX7_promised 114 = .ok (.aload_n 0, 1) := by decide +kernel
theorem dX7_promised_115 : decode cX7_promised 115 = .ok (.getfield 72, 3) := by decide +kernel
theorem dX7_promised_118 : decode cX7_promised 118 = .ok (.iload_n 1, 1) := by decide +kernel
theorem dX7_promised_119 : decode cX7_promised 119 = .ok (.iconst 1, 1) := by decide +kernel
theorem dX7_promised_120 : decode cX7_promised 120 = .ok (.bastore, 1) := by decide +kernel
theorem dX7_promised_121 : decode cX7_promised 121 = .ok (.aload_n 0, 1) := by decide +kernel
theorem dX7_promised_122 : decode cX7_promised 122 = .ok (.getfield 75, 3) := by decide +kernel
theorem dX7_promised_125 : decode cX7_promised 125 = .ok (.iload_n 1, 1) := by decide +kernel
theorem dX7_promised_126 : decode cX7_promised 126 = .ok (.iconst 0, 1) := by decide +kernel
theorem dX7_promised_127 : decode cX7_promised 127 = .ok (.iastore, 1) := by decide +kernel
theorem dX7_promised_128 : decode cX7_promised 128 = .ok (.iconst 0, 1) := by decide +kernel
theorem dX7_promised_129 : decode cX7_promised 129 = .ok (.istore 9, 2) := by decide +kernel
theorem dX7_promised_131 : decode cX7_promised 131 = .ok (.iload 9, 2) := by decide +kernel
theorem dX7_promised_133 : decode cX7_promised 133 = .ok (.bipush 9, 2) := by decide +kernel
theorem dX7_promised_135 : decode cX7_promised 135 = .ok (.if_icmp .ge 61, 3) := by decide +kernel
theorem dX7_promised_138 : decode cX7_promised 138 = .ok (.aload_n 0, 1) := by decide +kernel
theorem dX7_promised_139 : decode cX7_promised 139 = .ok (.getfield 63, 3) := by decide +kernel
theorem dX7_promised_142 : decode cX7_promised 142 = .ok (.iconst 2, 1) := by decide +kernel
theorem dX7_promised_143 : decode cX7_promised 143 = .ok (.iload_n 1, 1) := by decide +kernel
theorem dX7_promised_144 : decode cX7_promised 144 = .ok (.imul, 1) := by decide +kernel
theorem dX7_promised_145 : decode cX7_promised 145 = .ok (.iconst 1, 1) := by decide +kernel
theorem dX7_promised_146 : decode cX7_promised 146 = .ok (.iadd, 1) := by decide +kernel
theorem dX7_promised_147 : decode cX7_promised 147 = .ok (.iaload, 1) := by decide +kernel
theorem dX7_promised_148 : decode cX7_promised 148 = .ok (.iload 9, 2) := by decide +kernel
theorem dX7_promised_150 : decode cX7_promised 150 = .ok (.ishr, 1) := by decide +kernel
theorem dX7_promised_151 : decode cX7_promised 151 = .ok (.iconst 1, 1) := by decide +kernel
theorem dX7_promised_152 : decode cX7_promised 152 = .ok (.iand, 1) := by decide +kernel
theorem dX7_promised_153 : decode cX7_promised 153 = .ok (.iconst 1, 1) := by decide +kernel
theorem dX7_promised_154 : decode cX7_promised 154 = .ok (.if_icmp .ne 36, 3) := by decide +kernel
theorem dX7_promised_157 : decode cX7_promised 157 = .ok (.aload_n 0, 1) := by decide +kernel
theorem dX7_promised_158 : decode cX7_promised 158 = .ok (.iconst 2, 1) := by decide +kernel
theorem dX7_promised_159 : decode cX7_promised 159 = .ok (.iload_n 1, 1) := by decide +kernel
theorem dX7_promised_160 : decode cX7_promised 160 = .ok (.iload 9, 2) := by decide +kernel
theorem dX7_promised_162 : decode cX7_promised 162 = .ok (.iload_n 3, 1) := by decide +kernel
theorem dX7_promised_163 : decode cX7_promised 163 = .ok (.aload_n 0, 1) := by decide +kernel
theorem dX7_promised_164 : decode cX7_promised 164 = .ok (.getfield 102, 3) := by decide +kernel
theorem dX7_promised_167 : decode cX7_promised 167 = .ok (.iload_n 3, 1) := by decide +kernel
theorem dX7_promised_168 : decode cX7_promised 168 = .ok (.iaload, 1) := by decide +kernel
theorem dX7_promised_169 : decode cX7_promised 169 = .ok (.aload_n 0, 1) := by decide +kernel
theorem dX7_promised_170 : decode cX7_promised 170 = .ok (.getfield 81, 3) := by decide +kernel
theorem dX7_promised_173 : decode cX7_promised 173 = .ok (.iload_n 1, 1) := by decide +kernel
theorem dX7_promised_174 : decode cX7_promised 174 = .ok (.baload, 1) := by decide +kernel
theorem dX7_promised_175 : decode cX7_promised 175 = .ok (.aload_n 0, 1) := by decide +kernel
theorem dX7_promised_176 : decode cX7_promised 176 = .ok (.getfield 84, 3) := by decide +kernel
theorem dX7_promised_179 : decode cX7_promised 179 = .ok (.iload_n 1, 1) := by decide +kernel
theorem dX7_promised_180 : decode cX7_promised 180 = .ok (.iaload, 1) := by decide +kernel
theorem dX7_promised_181 : decode cX7_promised 181 = .ok (.aload_n 0, 1) := by decide +kernel
theorem dX7_promised_182 : decode cX7_promised 182 = .ok (.getfield 87, 3) := by decide +kernel
theorem dX7_promised_185 : decode cX7_promised 185 = .ok (.iload_n 1, 1) := by decide +kernel
theorem dX7_promised_186 : decode cX7_promised 186 = .ok (.laload, 1) := by decide +kernel
theorem dX7_promised_187 : decode cX7_promised 187 = .ok (.invokevirtual 137, 3) := by decide +kernel
theorem dX7_promised_190 : decode cX7_promised 190 = .ok (.iinc 9 1, 3) := by decide +kernel
theorem dX7_promised_193 : decode cX7_promised 193 = .ok (.goto (-62), 3) := by decide +kernel
theorem dX7_promised_196 : decode cX7_promised 196 = .ok (.return_, 1) := by decide +kernel
set_option maxRecDepth 20000 in
theorem ggX7_accept_X7_send : GoodIn wsX7_accept wsX7_send := goodIn_r _ [11, 12, 13, 14, 15, 16, 17, 18, 19, 20, 25, 26, 27, 28, 29, 30, 31, 32, 33, 34, 35, 36, 37, 38, 39, 40, 41, 42, 43, 44, 45, 46, 47, 48, 49, 50, 51, 52, 53, 54, 55, 56, 57, 58, 59, 60, 61, 62, 63] (by decide +kernel) (by decide +kernel)
set_option maxRecDepth 20000 in
theorem gX7_accept_X7_send : GoodIn wsX7_accept (wsV RX7 137 RX7 yX7_send wsX7_send) := goodIn_app (goodIn_of _ (by decide +kernel)) ggX7_accept_X7_send
set_option maxRecDepth 20000 in
theorem ggX7_accept_X7_refuse : GoodIn wsX7_accept wsX7_refuse := goodIn_r _ [24, 2, 3, 7, 8, 9, 10, 11, 12, 13, 14, 15, 16, 17, 18, 19, 20, 25, 26, 27, 28, 29, 30, 31, 32, 33, 34, 35, 36, 37, 38, 39, 40, 41, 42, 43, 44, 45, 46, 47, 48, 49, 50, 51, 52, 53, 54, 55, 56, 57, 58, 59, 60, 61, 62, 63] (by decide +kernel) (by decide +kernel)
set_option maxRecDepth 20000 in
theorem gX7_accept_X7_refuse : GoodIn wsX7_accept (wsV RX7 149 RX7 yX7_refuse wsX7_refuse) := goodIn_app (goodIn_of _ (by decide +kernel)) ggX7_accept_X7_refuse
theorem dX7_accept_0 : decode cX7_accept 0 = .ok (.iconst 4, 1) := by decide +kernel
theorem dX7_accept_1 : decode cX7_accept 1 = .ok (.iload_n 2, 1) := by decide +kernel
theorem dX7_accept_2 : decode cX7_accept 2 = .ok (.imul, 1) := by decide +kernel
theorem dX7_accept_3 : decode cX7_accept 3 = .ok (.aload_n 0, 1) := by decide +kernel
theorem dX7_accept_4 : decode cX7_accept 4 = .ok (.getfield 93, 3) := by decide +kernel
theorem dX7_accept_7 : decode cX7_accept 7 = .ok (.iload_n 3, 1) := by decide +kernel
theorem dX7_accept_8 : decode cX7_accept 8 = .ok (.iaload, 1) := by decide +kernel
theorem dX7_accept_9 : decode cX7_accept 9 = .ok (.iadd, 1) := by decide +kernel
theorem dX7_accept_10 : decode cX7_accept 10 = .ok (.istore 9, 2) := by decide +kernel
theorem dX7_accept_12 : decode cX7_accept 12 = .ok (.iload 4, 2) := by decide +kernel
theorem dX7_accept_14 : decode cX7_accept 14 = .ok (.aload_n 0, 1) := by decide +kernel
theorem dX7_accept_15 : decode cX7_accept 15 = .ok (.getfield 39, 3) := by decide +kernel
theorem dX7_accept_18 : decode cX7_accept 18 = .ok (.iload 9, 2) := by decide +kernel
theorem dX7_accept_20 : decode cX7_accept 20 = .ok (.iaload, 1) := by decide +kernel
theorem dX7_accept_21 : decode cX7_accept 21 = .ok (.if_icmp .lt 75, 3) := by decide +kernel
theorem dX7_accept_24 : decode cX7_accept 24 = .ok (.iload 4, 2) := by decide +kernel
theorem dX7_accept_26 : decode cX7_accept 26 = .ok (.aload_n 0, 1) := by decide +kernel
theorem dX7_accept_27 : decode cX7_accept 27 = .ok (.getfield 42, 3) := by decide +kernel
theorem dX7_accept_30 : decode cX7_accept 30 = .ok (.iload 9, 2) := by decide +kernel
theorem dX7_accept_32 : decode cX7_accept 32 = .ok (.iaload, 1) := by decide +kernel
theorem dX7_accept_33 : decode cX7_accept 33 = .ok (.if_icmp .lt 63, 3) := by decide +kernel
theorem dX7_accept_36 : decode cX7_accept 36 = .ok (.aload_n 0, 1) := by decide +kernel
theorem dX7_accept_37 : decode cX7_accept 37 = .ok (.getfield 42, 3) := by decide +kernel
theorem dX7_accept_40 : decode cX7_accept 40 = .ok (.iload 9, 2) := by decide +kernel
theorem dX7_accept_42 : decode cX7_accept 42 = .ok (.iload 4, 2) := by decide +kernel
theorem dX7_accept_44 : decode cX7_accept 44 = .ok (.iastore, 1) := by decide +kernel
theorem dX7_accept_45 : decode cX7_accept 45 = .ok (.aload_n 0, 1) := by decide +kernel
theorem dX7_accept_46 : decode cX7_accept 46 = .ok (.getfield 45, 3) := by decide +kernel
theorem dX7_accept_49 : decode cX7_accept 49 = .ok (.iload 9, 2) := by decide +kernel
theorem dX7_accept_51 : decode cX7_accept 51 = .ok (.iload 5, 2) := by decide +kernel
theorem dX7_accept_53 : decode cX7_accept 53 = .ok (.bastore, 1) := by decide +kernel
theorem dX7_accept_54 : decode cX7_accept 54 = .ok (.aload_n 0, 1) := by decide +kernel
theorem dX7_accept_55 : decode cX7_accept 55 = .ok (.getfield 48, 3) := by decide +kernel
theorem dX7_accept_58 : decode cX7_accept 58 = .ok (.iload 9, 2) := by decide +kernel
theorem dX7_accept_60 : decode cX7_accept 60 = .ok (.iload 6, 2) := by decide +kernel
theorem dX7_accept_62 : decode cX7_accept 62 = .ok (.iastore, 1) := by decide +kernel
theorem dX7_accept_63 : decode cX7_accept 63 = .ok (.aload_n 0, 1) := by decide +kernel
theorem dX7_accept_64 : decode cX7_accept 64 = .ok (.getfield 51, 3) := by decide +kernel
theorem dX7_accept_67 : decode cX7_accept 67 = .ok (.iload 9, 2) := by decide +kernel
theorem dX7_accept_69 : decode cX7_accept 69 = .ok (.lload 7, 2) := by decide +kernel
theorem dX7_accept_71 : decode cX7_accept 71 = .ok (.lastore, 1) := by decide +kernel
theorem dX7_accept_72 : decode cX7_accept 72 = .ok (.aload_n 0, 1) := by decide +kernel
theorem dX7_accept_73 : decode cX7_accept 73 = .ok (.getfield 39, 3) := by decide +kernel
theorem dX7_accept_76 : decode cX7_accept 76 = .ok (.iload 9, 2) := by decide +kernel
theorem dX7_accept_78 : decode cX7_accept 78 = .ok (.iconst 0, 1) := by decide +kernel
theorem dX7_accept_79 : decode cX7_accept 79 = .ok (.iastore, 1) := by decide +kernel
theorem dX7_accept_80 : decode cX7_accept 80 = .ok (.aload_n 0, 1) := by decide +kernel
theorem dX7_accept_81 : decode cX7_accept 81 = .ok (.iconst 3, 1) := by decide +kernel
theorem dX7_accept_82 : decode cX7_accept 82 = .ok (.iload_n 1, 1) := by decide +kernel
theorem dX7_accept_83 : decode cX7_accept 83 = .ok (.iload_n 2, 1) := by decide +kernel
theorem dX7_accept_84 : decode cX7_accept 84 = .ok (.iload_n 3, 1) := by decide +kernel
theorem dX7_accept_85 : decode cX7_accept 85 = .ok (.iload 4, 2) := by decide +kernel
theorem dX7_accept_87 : decode cX7_accept 87 = .ok (.iconst 0, 1) := by decide +kernel
theorem dX7_accept_88 : decode cX7_accept 88 = .ok (.iconst 0, 1) := by decide +kernel
theorem dX7_accept_89 : decode cX7_accept 89 = .ok (.lconst 0, 1) := by decide +kernel
theorem dX7_accept_90 : decode cX7_accept 90 = .ok (.invokevirtual 137, 3) := by decide +kernel
end
section
theorem dX7_accept_93 : decode cX7_accept 93 = .ok (.goto 12, 3) := by decide +kernel
theorem dX7_accept_96 : decode cX7_accept 96 = .ok (.aload_n 0, 1) := by decide +kernel
theorem dX7_accept_97 : decode cX7_accept 97 = .ok (.iload_n 1, 1) := by decide +kernel
theorem dX7_accept_98 : decode cX7_accept 98 = .ok (.iload_n 2, 1) := by decide +kernel
theorem dX7_accept_99 : decode cX7_accept 99 = .ok (.iload_n 3, 1) := by decide +kernel
theorem dX7_accept_100 : decode cX7_accept 100 = .ok (.iload 9, 2) := by decide +kernel
theorem dX7_accept_102 : decode cX7_accept 102 = .ok (.invokevirtual 149, 3) := by decide +kernel
theorem dX7_accept_105 : decode cX7_accept 105 = .ok (.return_, 1) := by decide +kernel
set_option maxRecDepth 20000 in
theorem ggX7_taken_X7_bits : GoodIn wsX7_taken wsX7_bits := goodIn_r _ [17] (by decide +kernel) (by decide +kernel)
set_option maxRecDepth 20000 in
theorem gX7_taken_X7_bits : GoodIn wsX7_taken (va_wsS RX7 145 yX7_bits wsX7_bits) := goodIn_app (goodIn_of _ (by decide +kernel)) ggX7_taken_X7_bits
theorem dX7_taken_0 : decode cX7_taken 0 = .ok (.aload_n 0, 1) := by decide +kernel
theorem dX7_taken_1 : decode cX7_taken 1 = .ok (.getfield 69, 3) := by decide +kernel
theorem dX7_taken_4 : decode cX7_taken 4 = .ok (.iload_n 1, 1) := by decide +kernel
theorem dX7_taken_5 : decode cX7_taken 5 = .ok (.iaload, 1) := by decide +kernel
theorem dX7_taken_6 : decode cX7_taken 6 = .ok (.iload_n 3, 1) := by decide +kernel
theorem dX7_taken_7 : decode cX7_taken 7 = .ok (.if_icmp .ne 26, 3) := by decide +kernel
theorem dX7_taken_10 : decode cX7_taken 10 = .ok (.aload_n 0, 1) := by decide +kernel
theorem dX7_taken_11 : decode cX7_taken 11 = .ok (.getfield 72, 3) := by decide +kernel
theorem dX7_taken_14 : decode cX7_taken 14 = .ok (.iload_n 1, 1) := by decide +kernel
theorem dX7_taken_15 : decode cX7_taken 15 = .ok (.baload, 1) := by decide +kernel
theorem dX7_taken_16 : decode cX7_taken 16 = .ok (.ifCond .eq 17, 3) := by decide +kernel
theorem dX7_taken_19 : decode cX7_taken 19 = .ok (.aload_n 0, 1) := by decide +kernel
theorem dX7_taken_20 : decode cX7_taken 20 = .ok (.getfield 75, 3) := by decide +kernel
theorem dX7_taken_23 : decode cX7_taken 23 = .ok (.iload_n 1, 1) := by decide +kernel
theorem dX7_taken_24 : decode cX7_taken 24 = .ok (.iaload, 1) := by decide +kernel
theorem dX7_taken_25 : decode cX7_taken 25 = .ok (.iload_n 2, 1) := by decide +kernel
theorem dX7_taken_26 : decode cX7_taken 26 = .ok (.ishr, 1) := by decide +kernel
theorem dX7_taken_27 : decode cX7_taken 27 = .ok (.iconst 1, 1) := by decide +kernel
theorem dX7_taken_28 : decode cX7_taken 28 = .ok (.iand, 1) := by decide +kernel
theorem dX7_taken_29 : decode cX7_taken 29 = .ok (.iconst 1, 1) := by decide +kernel
theorem dX7_taken_30 : decode cX7_taken 30 = .ok (.if_icmp .ne 4, 3) := by decide +kernel
theorem dX7_taken_33 : decode cX7_taken 33 = .ok (.return_, 1) := by decide +kernel
theorem dX7_taken_34 : decode cX7_taken 34 = .ok (.aload_n 0, 1) := by decide +kernel
theorem dX7_taken_35 : decode cX7_taken 35 = .ok (.getfield 75, 3) := by decide +kernel
theorem dX7_taken_38 : decode cX7_taken 38 = .ok (.iload_n 1, 1) := by decide +kernel
theorem dX7_taken_39 : decode cX7_taken 39 = .ok (.dup2, 1) := by decide +kernel
theorem dX7_taken_40 : decode cX7_taken 40 = .ok (.iaload, 1) := by decide +kernel
theorem dX7_taken_41 : decode cX7_taken 41 = .ok (.iconst 1, 1) := by decide +kernel
theorem dX7_taken_42 : decode cX7_taken 42 = .ok (.iload_n 2, 1) := by decide +kernel
theorem dX7_taken_43 : decode cX7_taken 43 = .ok (.ishl, 1) := by decide +kernel
theorem dX7_taken_44 : decode cX7_taken 44 = .ok (.ior, 1) := by decide +kernel
theorem dX7_taken_45 : decode cX7_taken 45 = .ok (.iastore, 1) := by decide +kernel
theorem dX7_taken_46 : decode cX7_taken 46 = .ok (.aload_n 0, 1) := by decide +kernel
theorem dX7_taken_47 : decode cX7_taken 47 = .ok (.getfield 75, 3) := by decide +kernel
theorem dX7_taken_50 : decode cX7_taken 50 = .ok (.iload_n 1, 1) := by decide +kernel
theorem dX7_taken_51 : decode cX7_taken 51 = .ok (.iaload, 1) := by decide +kernel
theorem dX7_taken_52 : decode cX7_taken 52 = .ok (.invokestatic 145, 3) := by decide +kernel
theorem dX7_taken_55 : decode cX7_taken 55 = .ok (.aload_n 0, 1) := by decide +kernel
theorem dX7_taken_56 : decode cX7_taken 56 = .ok (.getfield 66, 3) := by decide +kernel
theorem dX7_taken_59 : decode cX7_taken 59 = .ok (.iconst 2, 1) := by decide +kernel
theorem dX7_taken_60 : decode cX7_taken 60 = .ok (.iload_n 1, 1) := by decide +kernel
theorem dX7_taken_61 : decode cX7_taken 61 = .ok (.imul, 1) := by decide +kernel
theorem dX7_taken_62 : decode cX7_taken 62 = .ok (.iconst 1, 1) := by decide +kernel
theorem dX7_taken_63 : decode cX7_taken 63 = .ok (.iadd, 1) := by decide +kernel
theorem dX7_taken_64 : decode cX7_taken 64 = .ok (.iaload, 1) := by decide +kernel
theorem dX7_taken_65 : decode cX7_taken 65 = .ok (.if_icmp .lt 65, 3) := by decide +kernel
theorem dX7_taken_68 : decode cX7_taken 68 = .ok (.aload_n 0, 1) := by decide +kernel
theorem dX7_taken_69 : decode cX7_taken 69 = .ok (.getfield 105, 3) := by decide +kernel
theorem dX7_taken_72 : decode cX7_taken 72 = .ok (.iload_n 3, 1) := by decide +kernel
theorem dX7_taken_73 : decode cX7_taken 73 = .ok (.iconst 1, 1) := by decide +kernel
theorem dX7_taken_74 : decode cX7_taken 74 = .ok (.iastore, 1) := by decide +kernel
theorem dX7_taken_75 : decode cX7_taken 75 = .ok (.aload_n 0, 1) := by decide +kernel
theorem dX7_taken_76 : decode cX7_taken 76 = .ok (.getfield 108, 3) := by decide +kernel
theorem dX7_taken_79 : decode cX7_taken 79 = .ok (.iload_n 3, 1) := by decide +kernel
theorem dX7_taken_80 : decode cX7_taken 80 = .ok (.aload_n 0, 1) := by decide +kernel
theorem dX7_taken_81 : decode cX7_taken 81 = .ok (.getfield 90, 3) := by decide +kernel
theorem dX7_taken_84 : decode cX7_taken 84 = .ok (.iload_n 1, 1) := by decide +kernel
theorem dX7_taken_85 : decode cX7_taken 85 = .ok (.baload, 1) := by decide +kernel
theorem dX7_taken_86 : decode cX7_taken 86 = .ok (.bastore, 1) := by decide +kernel
theorem dX7_taken_87 : decode cX7_taken 87 = .ok (.aload_n 0, 1) := by decide +kernel
theorem dX7_taken_88 : decode cX7_taken 88 = .ok (.getfield 111, 3) := by decide +kernel
theorem dX7_taken_91 : decode cX7_taken 91 = .ok (.iload_n 3, 1) := by decide +kernel
theorem dX7_taken_92 : decode cX7_taken 92 = .ok (.aload_n 0, 1) := by decide +kernel
theorem dX7_taken_93 : decode cX7_taken 93 = .ok (.getfield 81, 3) := by decide +kernel
theorem dX7_taken_96 : decode cX7_taken 96 = .ok (.iload_n 1, 1) := by decide +kernel
theorem dX7_taken_97 : decode cX7_taken 97 = .ok (.baload, 1) := by decide +kernel
theorem dX7_taken_98 : decode cX7_taken 98 = .ok (.bastore, 1) := by decide +kernel
theorem dX7_taken_99 : decode cX7_taken 99 = .ok (.aload_n 0, 1) := by decide +kernel
theorem dX7_taken_100 : decode cX7_taken 100 = .ok (.getfield 114, 3) := by decide +kernel
theorem dX7_taken_103 : decode cX7_taken 103 = .ok (.iload_n 3, 1) := by decide +kernel
theorem dX7_taken_104 : decode cX7_taken 104 = .ok (.aload_n 0, 1) := by decide +kernel
theorem dX7_taken_105 : decode cX7_taken 105 = .ok (.getfield 84, 3) := by decide +kernel
theorem dX7_taken_108 : decode cX7_taken 108 = .ok (.iload_n 1, 1) := by decide +kernel
theorem dX7_taken_109 : decode cX7_taken 109 = .ok (.iaload, 1) := by decide +kernel
theorem dX7_taken_110 : decode cX7_taken 110 = .ok (.iastore, 1) := by decide +kernel
theorem dX7_taken_111 : decode cX7_taken 111 = .ok (.aload_n 0, 1) := by decide +kernel
theorem dX7_taken_112 : decode cX7_taken 112 = .ok (.getfield 117, 3) := by decide +kernel
theorem dX7_taken_115 : decode cX7_taken 115 = .ok (.iload_n 3, 1) := by decide +kernel
theorem dX7_taken_116 : decode cX7_taken 116 = .ok (.aload_n 0, 1) := by decide +kernel
theorem dX7_taken_117 : decode cX7_taken 117 = .ok (.getfield 87, 3) := by decide +kernel
theorem dX7_taken_120 : decode cX7_taken 120 = .ok (.iload_n 1, 1) := by decide +kernel
theorem dX7_taken_121 : decode cX7_taken 121 = .ok (.laload, 1) := by decide +kernel
theorem dX7_taken_122 : decode cX7_taken 122 = .ok (.lastore, 1) := by decide +kernel
theorem dX7_taken_123 : decode cX7_taken 123 = .ok (.aload_n 0, 1) := by decide +kernel
theorem dX7_taken_124 : decode cX7_taken 124 = .ok (.getfield 69, 3) := by decide +kernel
theorem dX7_taken_127 : decode cX7_taken 127 = .ok (.iload_n 1, 1) := by decide +kernel
theorem dX7_taken_128 : decode cX7_taken 128 = .ok (.iconst (-1), 1) := by decide +kernel
theorem dX7_taken_129 : decode cX7_taken 129 = .ok (.iastore, 1) := by decide +kernel
theorem dX7_taken_130 : decode cX7_taken 130 = .ok (.return_, 1) := by decide +kernel
set_option maxRecDepth 20000 in
theorem ggX7_refused_X7_lose0 : GoodIn wsX7_refused wsX7_lose0 := goodIn_r _ [7, 8, 2, 9, 10, 11, 12, 13, 14, 15, 16, 17, 18, 19, 20, 21, 22, 23, 24, 25, 26, 27, 28, 29, 30, 31, 32, 33, 34, 35, 36, 37, 38, 39, 40, 41, 42, 43, 44, 45, 46, 47] (by decide +kernel) (by decide +kernel)
set_option maxRecDepth 20000 in
theorem gX7_refused_X7_lose0 : GoodIn wsX7_refused (wsV RX7 141 RX7 yX7_lose0 wsX7_lose0) := goodIn_app (goodIn_of _ (by decide +kernel)) ggX7_refused_X7_lose0
theorem dX7_refused_0 : decode cX7_refused 0 = .ok (.aload_n 0, 1) := by decide +kernel
theorem dX7_refused_1 : decode cX7_refused 1 = .ok (.getfield 54, 3) := by decide +kernel
theorem dX7_refused_4 : decode cX7_refused 4 = .ok (.iload_n 1, 1) := by decide +kernel
theorem dX7_refused_5 : decode cX7_refused 5 = .ok (.iload_n 3, 1) := by decide +kernel
theorem dX7_refused_6 : decode cX7_refused 6 = .ok (.iconst 4, 1) := by decide +kernel
theorem dX7_refused_7 : decode cX7_refused 7 = .ok (.idiv, 1) := by decide +kernel
theorem dX7_refused_8 : decode cX7_refused 8 = .ok (.aload_n 0, 1) := by decide +kernel
theorem dX7_refused_9 : decode cX7_refused 9 = .ok (.getfield 54, 3) := by decide +kernel
theorem dX7_refused_12 : decode cX7_refused 12 = .ok (.iload_n 1, 1) := by decide +kernel
theorem dX7_refused_13 : decode cX7_refused 13 = .ok (.iaload, 1) := by decide +kernel
theorem dX7_refused_14 : decode cX7_refused 14 = .ok (.if_icmp .le 9, 3) := by decide +kernel
theorem dX7_refused_17 : decode cX7_refused 17 = .ok (.iload_n 3, 1) := by decide +kernel
theorem dX7_refused_18 : decode cX7_refused 18 = .ok (.iconst 4, 1) := by decide +kernel
theorem dX7_refused_19 : decode cX7_refused 19 = .ok (.idiv, 1) := by decide +kernel
theorem dX7_refused_20 : decode cX7_refused 20 = .ok (.goto 9, 3) := by decide +kernel
theorem dX7_refused_23 : decode cX7_refused 23 = .ok (.aload_n 0, 1) := by decide +kernel
theorem dX7_refused_24 : decode cX7_refused 24 = .ok (.getfield 54, 3) := by decide +kernel
theorem dX7_refused_27 : decode cX7_refused 27 = .ok (.iload_n 1, 1) := by decide +kernel
theorem dX7_refused_28 : decode cX7_refused 28 = .ok (.iaload, 1) := by decide +kernel
theorem dX7_refused_29 : decode cX7_refused 29 = .ok (.iastore, 1) := by decide +kernel
theorem dX7_refused_30 : decode cX7_refused 30 = .ok (.aload_n 0, 1) := by decide +kernel
theorem dX7_refused_31 : decode cX7_refused 31 = .ok (.getfield 69, 3) := by decide +kernel
theorem dX7_refused_34 : decode cX7_refused 34 = .ok (.iload_n 1, 1) := by decide +kernel
theorem dX7_refused_35 : decode cX7_refused 35 = .ok (.iaload, 1) := by decide +kernel
theorem dX7_refused_36 : decode cX7_refused 36 = .ok (.iload_n 2, 1) := by decide +kernel
theorem dX7_refused_37 : decode cX7_refused 37 = .ok (.if_icmp .ne 8, 3) := by decide +kernel
theorem dX7_refused_40 : decode cX7_refused 40 = .ok (.aload_n 0, 1) := by decide +kernel
theorem dX7_refused_41 : decode cX7_refused 41 = .ok (.iload_n 1, 1) := by decide +kernel
theorem dX7_refused_42 : decode cX7_refused 42 = .ok (.invokevirtual 141, 3) := by decide +kernel
theorem dX7_refused_45 : decode cX7_refused 45 = .ok (.return_, 1) := by decide +kernel
set_option maxRecDepth 20000 in
theorem ggX7_takeOne_X7_drop : GoodIn wsX7_takeOne wsX7_drop := goodIn_r _ [14, 15, 1, 2, 3, 4, 5, 6, 7, 8, 80, 81, 82, 83, 84, 85, 86, 87, 88, 89, 90, 91, 92, 93, 94, 95, 96, 97, 98, 99, 100, 101, 102, 103, 104, 105, 106, 107, 108, 109, 110, 111, 112, 113, 114, 115, 116, 117, 118] (by decide +kernel) (by decide +kernel)
set_option maxRecDepth 20000 in
theorem gX7_takeOne_X7_drop : GoodIn wsX7_takeOne (wsV RX7 156 RX7 yX7_drop wsX7_drop) := goodIn_app (goodIn_of _ (by decide +kernel)) ggX7_takeOne_X7_drop
set_option maxRecDepth 20000 in
theorem ggX7_takeOne_X7_prepared : GoodIn wsX7_takeOne wsX7_prepared := goodIn_r _ [19, 20, 21, 22, 23, 24, 25, 26, 27, 28, 13, 29, 15, 1, 2, 3, 4, 5, 6, 7, 8, 30, 31, 32, 33, 80, 81, 82, 83, 84, 85, 86, 87, 88, 89, 90, 91, 92, 93, 94, 95, 96, 97, 98, 99, 100, 101, 102, 103, 104, 105, 106, 107, 108, 109, 110, 111, 112, 113, 114, 115, 116, 117, 118] (by decide +kernel) (by decide +kernel)
set_option maxRecDepth 20000 in
theorem gX7_takeOne_X7_prepared : GoodIn wsX7_takeOne (wsV RX7 159 RX7 yX7_prepared wsX7_prepared) := goodIn_app (goodIn_of _ (by decide +kernel)) ggX7_takeOne_X7_prepared
set_option maxRecDepth 20000 in
theorem ggX7_takeOne_X7_promised : GoodIn wsX7_takeOne wsX7_promised := goodIn_r _ [37, 38, 39, 40, 41, 42, 43, 44, 45, 46, 47, 48, 49, 13, 50, 51, 52, 53, 54, 55, 56, 57, 26, 27, 28, 29, 15, 1, 2, 3, 4, 5, 6, 7, 8, 80, 81, 82, 83, 84, 85, 86, 87, 88, 89, 90, 91, 92, 93, 94, 95, 96, 97, 98, 99, 100, 101, 102, 103, 104, 105, 106, 107, 108, 109, 110, 111, 112, 113, 114, 115, 116, 117, 118] (by decide +kernel) (by decide +kernel)
set_option maxRecDepth 20000 in
theorem gX7_takeOne_X7_promised : GoodIn wsX7_takeOne (wsV RX7 162 RX7 yX7_promised wsX7_promised) := goodIn_app (goodIn_of _ (by decide +kernel)) ggX7_takeOne_X7_promised
set_option maxRecDepth 20000 in
theorem ggX7_takeOne_X7_accept : GoodIn wsX7_takeOne wsX7_accept := goodIn_r _ [61, 20, 21, 22, 23, 24, 25, 26, 27, 28, 13, 29, 15, 1, 2, 3, 4, 5, 6, 7, 8, 30, 31, 32, 33, 80, 81, 82, 83, 84, 85, 86, 87, 88, 89, 90, 91, 92, 93, 94, 95, 96, 97, 98, 99, 100, 101, 102, 103, 104, 105, 106, 107, 108, 109, 110, 111, 112, 113, 114, 115, 116, 117, 118] (by decide +kernel) (by decide +kernel)
set_option maxRecDepth 20000 in
theorem gX7_takeOne_X7_accept : GoodIn wsX7_takeOne (wsV RX7 166 RX7 yX7_accept wsX7_accept) := goodIn_app (goodIn_of _ (by decide +kernel)) ggX7_takeOne_X7_accept
set_option maxRecDepth 20000 in
theorem ggX7_takeOne_X7_taken : GoodIn wsX7_takeOne wsX7_taken := goodIn_r _ [65, 38, 39, 40, 45, 66, 67, 57, 68, 42, 69, 43, 70, 44, 48, 49, 13, 50, 80, 81, 82, 83, 84, 85, 86, 87, 88, 89, 90, 91, 92, 93, 94, 95, 96, 97, 98, 99, 100, 101, 102, 103, 104, 105, 106, 107, 108, 109, 110, 111, 112, 113, 114, 115, 116, 117, 118] (by decide +kernel) (by decide +kernel)
set_option maxRecDepth 20000 in
theorem gX7_takeOne_X7_taken : GoodIn wsX7_takeOne (wsV RX7 169 RX7 yX7_taken wsX7_taken) := goodIn_app (goodIn_of _ (by decide +kernel)) ggX7_takeOne_X7_taken
set_option maxRecDepth 20000 in
theorem ggX7_takeOne_X7_refused : GoodIn wsX7_takeOne wsX7_refused := goodIn_r _ [74, 75, 38, 76, 77, 78, 13, 79, 66, 80, 81, 82, 83, 84, 85, 86, 87, 88, 89, 90, 91, 92, 93, 94, 95, 96, 97, 98, 99, 100, 101, 102, 103, 104, 105, 106, 107, 108, 109, 110, 111, 112, 113, 114, 115, 116, 117, 118] (by decide +kernel) (by decide +kernel)
set_option maxRecDepth 20000 in
theorem gX7_takeOne_X7_refused : GoodIn wsX7_takeOne (wsV RX7 173 RX7 yX7_refused wsX7_refused) := goodIn_app (goodIn_of _ (by decide +kernel)) ggX7_takeOne_X7_refused
theorem dX7_takeOne_0 : decode cX7_takeOne 0 = .ok (.aload_n 0, 1) := by decide +kernel
theorem dX7_takeOne_1 : decode cX7_takeOne 1 = .ok (.getfield 7, 3) := by decide +kernel
theorem dX7_takeOne_4 : decode cX7_takeOne 4 = .ok (.iload_n 1, 1) := by decide +kernel
theorem dX7_takeOne_5 : decode cX7_takeOne 5 = .ok (.iaload, 1) := by decide +kernel
theorem dX7_takeOne_6 : decode cX7_takeOne 6 = .ok (.istore_n 2, 1) := by decide +kernel
theorem dX7_takeOne_7 : decode cX7_takeOne 7 = .ok (.aload_n 0, 1) := by decide +kernel
theorem dX7_takeOne_8 : decode cX7_takeOne 8 = .ok (.getfield 13, 3) := by decide +kernel
theorem dX7_takeOne_11 : decode cX7_takeOne 11 = .ok (.iload_n 1, 1) := by decide +kernel
theorem dX7_takeOne_12 : decode cX7_takeOne 12 = .ok (.iaload, 1) := by decide +kernel
theorem dX7_takeOne_13 : decode cX7_takeOne 13 = .ok (.istore_n 3, 1) := by decide +kernel
theorem dX7_takeOne_14 : decode cX7_takeOne 14 = .ok (.aload_n 0, 1) := by decide +kernel
theorem dX7_takeOne_15 : decode cX7_takeOne 15 = .ok (.getfield 16, 3) := by decide +kernel
theorem dX7_takeOne_18 : decode cX7_takeOne 18 = .ok (.iload_n 1, 1) := by decide +kernel
theorem dX7_takeOne_19 : decode cX7_takeOne 19 = .ok (.iaload, 1) := by decide +kernel
theorem dX7_takeOne_20 : decode cX7_takeOne 20 = .ok (.istore 4, 2) := by decide +kernel
theorem dX7_takeOne_22 : decode cX7_takeOne 22 = .ok (.aload_n 0, 1) := by decide +kernel
theorem dX7_takeOne_23 : decode cX7_takeOne 23 = .ok (.getfield 19, 3) := by decide +kernel
theorem dX7_takeOne_26 : decode cX7_takeOne 26 = .ok (.iload_n 1, 1) := by decide +kernel
theorem dX7_takeOne_27 : decode cX7_takeOne 27 = .ok (.iaload, 1) := by decide +kernel
theorem dX7_takeOne_28 : decode cX7_takeOne 28 = .ok (.istore 5, 2) := by decide +kernel
theorem dX7_takeOne_30 : decode cX7_takeOne 30 = .ok (.aload_n 0, 1) := by decide +kernel
theorem dX7_takeOne_31 : decode cX7_takeOne 31 = .ok (.getfield 22, 3) := by decide +kernel
theorem dX7_takeOne_34 : decode cX7_takeOne 34 = .ok (.iload_n 1, 1) := by decide +kernel
theorem dX7_takeOne_35 : decode cX7_takeOne 35 = .ok (.iaload, 1) := by decide +kernel
theorem dX7_takeOne_36 : decode cX7_takeOne 36 = .ok (.istore 6, 2) := by decide +kernel
theorem dX7_takeOne_38 : decode cX7_takeOne 38 = .ok (.aload_n 0, 1) := by decide +kernel
theorem dX7_takeOne_39 : decode cX7_takeOne 39 = .ok (.getfield 25, 3) := by decide +kernel
theorem dX7_takeOne_42 : decode cX7_takeOne 42 = .ok (.iload_n 1, 1) := by decide +kernel
theorem dX7_takeOne_43 : decode cX7_takeOne 43 = .ok (.baload, 1) := by decide +kernel
theorem dX7_takeOne_44 : decode cX7_takeOne 44 = .ok (.istore 7, 2) := by decide +kernel
theorem dX7_takeOne_46 : decode cX7_takeOne 46 = .ok (.aload_n 0, 1) := by decide +kernel
theorem dX7_takeOne_47 : decode cX7_takeOne 47 = .ok (.getfield 29, 3) := by decide +kernel
theorem dX7_takeOne_50 : decode cX7_takeOne 50 = .ok (.iload_n 1, 1) := by decide +kernel
theorem dX7_takeOne_51 : decode cX7_takeOne 51 = .ok (.iaload, 1) := by decide +kernel
theorem dX7_takeOne_52 : decode cX7_takeOne 52 = .ok (.istore 8, 2) := by decide +kernel
theorem dX7_takeOne_54 : decode cX7_takeOne 54 = .ok (.aload_n 0, 1) := by decide +kernel
theorem dX7_takeOne_55 : decode cX7_takeOne 55 = .ok (.getfield 32, 3) := by decide +kernel
theorem dX7_takeOne_58 : decode cX7_takeOne 58 = .ok (.iload_n 1, 1) := by decide +kernel
theorem dX7_takeOne_59 : decode cX7_takeOne 59 = .ok (.laload, 1) := by decide +kernel
theorem dX7_takeOne_60 : decode cX7_takeOne 60 = .ok (.lstore 9, 2) := by decide +kernel
theorem dX7_takeOne_62 : decode cX7_takeOne 62 = .ok (.aload_n 0, 1) := by decide +kernel
theorem dX7_takeOne_63 : decode cX7_takeOne 63 = .ok (.iload_n 1, 1) := by decide +kernel
theorem dX7_takeOne_64 : decode cX7_takeOne 64 = .ok (.invokevirtual 156, 3) := by decide +kernel
theorem dX7_takeOne_67 : decode cX7_takeOne 67 = .ok (.iload_n 2, 1) := by decide +kernel
theorem dX7_takeOne_68 : decode cX7_takeOne 68 = .ok (.ifCond .ne 27, 3) := by decide +kernel
theorem dX7_takeOne_71 : decode cX7_takeOne 71 = .ok (.aload_n 0, 1) := by decide +kernel
theorem dX7_takeOne_72 : decode cX7_takeOne 72 = .ok (.getfield 36, 3) := by decide +kernel
theorem dX7_takeOne_75 : decode cX7_takeOne 75 = .ok (.iload 4, 2) := by decide +kernel
theorem dX7_takeOne_77 : decode cX7_takeOne 77 = .ok (.baload, 1) := by decide +kernel
theorem dX7_takeOne_78 : decode cX7_takeOne 78 = .ok (.ifCond .ne 17, 3) := by decide +kernel
theorem dX7_takeOne_81 : decode cX7_takeOne 81 = .ok (.aload_n 0, 1) := by decide +kernel
theorem dX7_takeOne_82 : decode cX7_takeOne 82 = .ok (.iload_n 3, 1) := by decide +kernel
theorem dX7_takeOne_83 : decode cX7_takeOne 83 = .ok (.iload 4, 2) := by decide +kernel
theorem dX7_takeOne_85 : decode cX7_takeOne 85 = .ok (.iload 5, 2) := by decide +kernel
theorem dX7_takeOne_87 : decode cX7_takeOne 87 = .ok (.iload 6, 2) := by decide +kernel
theorem dX7_takeOne_89 : decode cX7_takeOne 89 = .ok (.invokevirtual 159, 3) := by decide +kernel
theorem dX7_takeOne_92 : decode cX7_takeOne 92 = .ok (.goto 94, 3) := by decide +kernel
theorem dX7_takeOne_95 : decode cX7_takeOne 95 = .ok (.iload_n 2, 1) := by decide +kernel
theorem dX7_takeOne_96 : decode cX7_takeOne 96 = .ok (.iconst 1, 1) := by decide +kernel
theorem dX7_takeOne_97 : decode cX7_takeOne 97 = .ok (.if_icmp .ne 23, 3) := by decide +kernel
theorem dX7_takeOne_100 : decode cX7_takeOne 100 = .ok (.aload_n 0, 1) := by decide +kernel
theorem dX7_takeOne_101 : decode cX7_takeOne 101 = .ok (.iload_n 3, 1) := by decide +kernel
theorem dX7_takeOne_102 : decode cX7_takeOne 102 = .ok (.iload 4, 2) := by decide +kernel
theorem dX7_takeOne_104 : decode cX7_takeOne 104 = .ok (.iload 5, 2) := by decide +kernel
theorem dX7_takeOne_106 : decode cX7_takeOne 106 = .ok (.iload 6, 2) := by decide +kernel
theorem dX7_takeOne_108 : decode cX7_takeOne 108 = .ok (.iload 7, 2) := by decide +kernel
theorem dX7_takeOne_110 : decode cX7_takeOne 110 = .ok (.iload 8, 2) := by decide +kernel
theorem dX7_takeOne_112 : decode cX7_takeOne 112 = .ok (.lload 9, 2) := by decide +kernel
theorem dX7_takeOne_114 : decode cX7_takeOne 114 = .ok (.invokevirtual 162, 3) := by decide +kernel
theorem dX7_takeOne_117 : decode cX7_takeOne 117 = .ok (.goto 69, 3) := by decide +kernel
theorem dX7_takeOne_120 : decode cX7_takeOne 120 = .ok (.iload_n 2, 1) := by decide +kernel
theorem dX7_takeOne_121 : decode cX7_takeOne 121 = .ok (.iconst 2, 1) := by decide +kernel
theorem dX7_takeOne_122 : decode cX7_takeOne 122 = .ok (.if_icmp .ne 33, 3) := by decide +kernel
theorem dX7_takeOne_125 : decode cX7_takeOne 125 = .ok (.aload_n 0, 1) := by decide +kernel
theorem dX7_takeOne_126 : decode cX7_takeOne 126 = .ok (.getfield 36, 3) := by decide +kernel
theorem dX7_takeOne_129 : decode cX7_takeOne 129 = .ok (.iload 4, 2) := by decide +kernel
theorem dX7_takeOne_131 : decode cX7_takeOne 131 = .ok (.baload, 1) := by decide +kernel
theorem dX7_takeOne_132 : decode cX7_takeOne 132 = .ok (.ifCond .ne 23, 3) := by decide +kernel
theorem dX7_takeOne_135 : decode cX7_takeOne 135 = .ok (.aload_n 0, 1) := by decide +kernel
theorem dX7_takeOne_136 : decode cX7_takeOne 136 = .ok (.iload_n 3, 1) := by decide +kernel
theorem dX7_takeOne_137 : decode cX7_takeOne 137 = .ok (.iload 4, 2) := by decide +kernel
theorem dX7_takeOne_139 : decode cX7_takeOne 139 = .ok (.iload 5, 2) := by decide +kernel
theorem dX7_takeOne_141 : decode cX7_takeOne 141 = .ok (.iload 6, 2) := by decide +kernel
theorem dX7_takeOne_143 : decode cX7_takeOne 143 = .ok (.iload 7, 2) := by decide +kernel
theorem dX7_takeOne_145 : decode cX7_takeOne 145 = .ok (.iload 8, 2) := by decide +kernel
theorem dX7_takeOne_147 : decode cX7_takeOne 147 = .ok (.lload 9, 2) := by decide +kernel
theorem dX7_takeOne_149 : decode cX7_takeOne 149 = .ok (.invokevirtual 166, 3) := by decide +kernel
theorem dX7_takeOne_152 : decode cX7_takeOne 152 = .ok (.goto 34, 3) := by decide +kernel
theorem dX7_takeOne_155 : decode cX7_takeOne 155 = .ok (.iload_n 2, 1) := by decide +kernel
theorem dX7_takeOne_156 : decode cX7_takeOne 156 = .ok (.iconst 3, 1) := by decide +kernel
theorem dX7_takeOne_157 : decode cX7_takeOne 157 = .ok (.if_icmp .ne 15, 3) := by decide +kernel
theorem dX7_takeOne_160 : decode cX7_takeOne 160 = .ok (.aload_n 0, 1) := by decide +kernel
theorem dX7_takeOne_161 : decode cX7_takeOne 161 = .ok (.iload_n 3, 1) := by decide +kernel
theorem dX7_takeOne_162 : decode cX7_takeOne 162 = .ok (.iload 4, 2) := by decide +kernel
theorem dX7_takeOne_164 : decode cX7_takeOne 164 = .ok (.iload 5, 2) := by decide +kernel
theorem dX7_takeOne_166 : decode cX7_takeOne 166 = .ok (.invokevirtual 169, 3) := by decide +kernel
theorem dX7_takeOne_169 : decode cX7_takeOne 169 = .ok (.goto 17, 3) := by decide +kernel
theorem dX7_takeOne_172 : decode cX7_takeOne 172 = .ok (.iload_n 2, 1) := by decide +kernel
theorem dX7_takeOne_173 : decode cX7_takeOne 173 = .ok (.iconst 4, 1) := by decide +kernel
theorem dX7_takeOne_174 : decode cX7_takeOne 174 = .ok (.if_icmp .ne 12, 3) := by decide +kernel
theorem dX7_takeOne_177 : decode cX7_takeOne 177 = .ok (.aload_n 0, 1) := by decide +kernel
theorem dX7_takeOne_178 : decode cX7_takeOne 178 = .ok (.iload_n 3, 1) := by decide +kernel
theorem dX7_takeOne_179 : decode cX7_takeOne 179 = .ok (.iload 5, 2) := by decide +kernel
theorem dX7_takeOne_181 : decode cX7_takeOne 181 = .ok (.iload 6, 2) := by decide +kernel
theorem dX7_takeOne_183 : decode cX7_takeOne 183 = .ok (.invokevirtual 173, 3) := by decide +kernel
theorem dX7_takeOne_186 : decode cX7_takeOne 186 = .ok (.iload_n 2, 1) := by decide +kernel
theorem dX7_takeOne_187 : decode cX7_takeOne 187 = .ok (.ireturn, 1) := by decide +kernel
set_option maxRecDepth 20000 in
theorem ggX7_take_X7_noMessage : GoodIn wsX7_take wsX7_noMessage := goodIn_r _ [6, 7, 89, 90, 91, 92, 93, 94, 95, 96, 97, 98, 99, 100, 101, 102, 103, 104, 105, 106, 107, 108, 109, 110, 111, 112, 113, 114, 115, 116, 117, 118, 119, 120, 121, 122, 123, 124, 125, 126, 127] (by decide +kernel) (by decide +kernel)
set_option maxRecDepth 20000 in
theorem gX7_take_X7_noMessage : GoodIn wsX7_take (wsV RX7 176 RX7 yX7_noMessage wsX7_noMessage) := goodIn_app (goodIn_of _ (by decide +kernel)) ggX7_take_X7_noMessage
set_option maxRecDepth 20000 in
theorem ggX7_take_X7_takeOne : GoodIn wsX7_take wsX7_takeOne := goodIn_r _ [11, 12, 13, 14, 15, 16, 17, 18, 19, 20, 21, 22, 23, 5, 24, 7, 25, 26, 27, 28, 29, 30, 31, 32, 33, 34, 35, 36, 37, 38, 39, 40, 41, 42, 43, 44, 45, 46, 47, 48, 49, 50, 51, 52, 53, 54, 55, 56, 57, 58, 59, 60, 61, 62, 63, 64, 65, 66, 67, 68, 69, 70, 71, 72, 73, 74, 75, 76, 77, 78, 79, 80, 81, 82, 83, 84, 85, 86, 87, 88, 89, 90, 91, 92, 93, 94, 95, 96, 97, 98, 99, 100, 101, 102, 103, 104, 105, 106, 107, 108, 109, 110, 111, 112, 113, 114, 115, 116, 117, 118, 119, 120, 121, 122, 123, 124, 125, 126, 127] (by decide +kernel) (by decide +kernel)
set_option maxRecDepth 20000 in
theorem gX7_take_X7_takeOne : GoodIn wsX7_take (wsV RX7 179 RX7 yX7_takeOne wsX7_takeOne) := goodIn_app (goodIn_of _ (by decide +kernel)) ggX7_take_X7_takeOne
theorem dX7_take_0 : decode cX7_take 0 = .ok (.aload_n 0, 1) := by decide +kernel
theorem dX7_take_1 : decode cX7_take 1 = .ok (.aload_n 0, 1) := by decide +kernel
theorem dX7_take_2 : decode cX7_take 2 = .ok (.iload_n 1, 1) := by decide +kernel
theorem dX7_take_3 : decode cX7_take 3 = .ok (.invokevirtual 176, 3) := by decide +kernel
theorem dX7_take_6 : decode cX7_take 6 = .ok (.ifCond .eq 7, 3) := by decide +kernel
theorem dX7_take_9 : decode cX7_take 9 = .ok (.iconst 1, 1) := by decide +kernel
theorem dX7_take_10 : decode cX7_take 10 = .ok (.goto 4, 3) := by decide +kernel
theorem dX7_take_13 : decode cX7_take 13 = .ok (.iconst 0, 1) := by decide +kernel
theorem dX7_take_14 : decode cX7_take 14 = .ok (.putfield 120, 3) := by decide +kernel
theorem dX7_take_17 : decode cX7_take 17 = .ok (.aload_n 0, 1) := by decide +kernel
theorem dX7_take_18 : decode cX7_take 18 = .ok (.getfield 120, 3) := by decide +kernel
theorem dX7_take_21 : decode cX7_take 21 = .ok (.ifCond .le 7, 3) := by decide +kernel
theorem dX7_take_24 : decode cX7_take 24 = .ok (.iconst 0, 1) := by decide +kernel
theorem dX7_take_25 : decode cX7_take 25 = .ok (.goto 8, 3) := by decide +kernel
theorem dX7_take_28 : decode cX7_take 28 = .ok (.aload_n 0, 1) := by decide +kernel
theorem dX7_take_29 : decode cX7_take 29 = .ok (.iload_n 1, 1) := by decide +kernel
theorem dX7_take_30 : decode cX7_take 30 = .ok (.invokevirtual 179, 3) := by decide +kernel
theorem dX7_take_33 : decode cX7_take 33 = .ok (.ireturn, 1) := by decide +kernel
set_option maxRecDepth 20000 in
theorem ggX7_run_X7_takeOne : GoodIn wsX7_run wsX7_takeOne := goodIn_r _ [7, 8, 9, 10, 11, 12, 13, 14, 15, 16, 17, 18, 19, 6, 20, 2, 21, 22, 23, 24, 25, 26, 27, 28, 29, 30, 31, 32, 33, 34, 35, 36, 37, 38, 39, 40, 41, 42, 43, 44, 45, 46, 47, 48, 49, 50, 51, 52, 53, 54, 55, 56, 57, 58, 59, 60, 61, 62, 63, 64, 65, 66, 67, 68, 69, 70, 71, 72, 73, 74, 75, 76, 77, 78, 79, 80, 81, 82, 83, 84, 85, 86, 87, 88, 89, 90, 91, 92, 93, 94, 95, 96, 97, 98, 99, 100, 101, 102, 103, 104, 105, 106, 107, 108, 109, 110, 111, 112, 113, 114, 115, 116, 117, 118, 119, 120, 121, 122, 123] (by decide +kernel) (by decide +kernel)
set_option maxRecDepth 20000 in
theorem gX7_run_X7_takeOne : GoodIn wsX7_run (wsV RX7 179 RX7 yX7_takeOne wsX7_takeOne) := goodIn_app (goodIn_of _ (by decide +kernel)) ggX7_run_X7_takeOne
theorem dX7_run_0 : decode cX7_run 0 = .ok (.aload_n 0, 1) := by decide +kernel
theorem dX7_run_1 : decode cX7_run 1 = .ok (.iload_n 1, 1) := by decide +kernel
theorem dX7_run_2 : decode cX7_run 2 = .ok (.ifCond .lt 10, 3) := by decide +kernel
theorem dX7_run_5 : decode cX7_run 5 = .ok (.iload_n 1, 1) := by decide +kernel
theorem dX7_run_6 : decode cX7_run 6 = .ok (.sipush 1000, 3) := by decide +kernel
theorem dX7_run_9 : decode cX7_run 9 = .ok (.if_icmp .le 7, 3) := by decide +kernel
theorem dX7_run_12 : decode cX7_run 12 = .ok (.iconst 1, 1) := by decide +kernel
theorem dX7_run_13 : decode cX7_run 13 = .ok (.goto 4, 3) := by decide +kernel
theorem dX7_run_16 : decode cX7_run 16 = .ok (.iconst 0, 1) := by decide +kernel
theorem dX7_run_17 : decode cX7_run 17 = .ok (.putfield 120, 3) := by decide +kernel
theorem dX7_run_20 : decode cX7_run 20 = .ok (.iconst 0, 1) := by decide +kernel
theorem dX7_run_21 : decode cX7_run 21 = .ok (.istore_n 2, 1) := by decide +kernel
theorem dX7_run_22 : decode cX7_run 22 = .ok (.aload_n 0, 1) := by decide +kernel
theorem dX7_run_23 : decode cX7_run 23 = .ok (.getfield 120, 3) := by decide +kernel
theorem dX7_run_26 : decode cX7_run 26 = .ok (.ifCond .ne 27, 3) := by decide +kernel
theorem dX7_run_29 : decode cX7_run 29 = .ok (.iload_n 2, 1) := by decide +kernel
theorem dX7_run_30 : decode cX7_run 30 = .ok (.iload_n 1, 1) := by decide +kernel
theorem dX7_run_31 : decode cX7_run 31 = .ok (.if_icmp .ge 22, 3) := by decide +kernel
theorem dX7_run_34 : decode cX7_run 34 = .ok (.aload_n 0, 1) := by decide +kernel
theorem dX7_run_35 : decode cX7_run 35 = .ok (.getfield 124, 3) := by decide +kernel
theorem dX7_run_38 : decode cX7_run 38 = .ok (.ifCond .le 15, 3) := by decide +kernel
theorem dX7_run_41 : decode cX7_run 41 = .ok (.aload_n 0, 1) := by decide +kernel
theorem dX7_run_42 : decode cX7_run 42 = .ok (.iconst 0, 1) := by decide +kernel
theorem dX7_run_43 : decode cX7_run 43 = .ok (.invokevirtual 179, 3) := by decide +kernel
theorem dX7_run_46 : decode cX7_run 46 = .ok (.istore_n 3, 1) := by decide +kernel
theorem dX7_run_47 : decode cX7_run 47 = .ok (.iinc 2 1, 3) := by decide +kernel
theorem dX7_run_50 : decode cX7_run 50 = .ok (.goto (-28), 3) := by decide +kernel
theorem dX7_run_53 : decode cX7_run 53 = .ok (.iload_n 2, 1) := by decide +kernel
theorem dX7_run_54 : decode cX7_run 54 = .ok (.ireturn, 1) := by decide +kernel
set_option maxRecDepth 20000 in
theorem ggX7_lose_X7_noMessage : GoodIn wsX7_lose wsX7_noMessage := goodIn_r _ [7, 8, 20, 21, 22, 23, 24, 25, 26, 27, 28, 29, 30, 31, 32, 33, 34, 35, 36, 37, 38, 39, 40, 41, 42, 43, 44, 45, 46, 47, 48, 49, 50, 51, 52, 53, 54, 55, 56, 57, 58] (by decide +kernel) (by decide +kernel)
set_option maxRecDepth 20000 in
theorem gX7_lose_X7_noMessage : GoodIn wsX7_lose (wsV RX7 176 RX7 yX7_noMessage wsX7_noMessage) := goodIn_app (goodIn_of _ (by decide +kernel)) ggX7_lose_X7_noMessage
set_option maxRecDepth 20000 in
theorem ggX7_lose_X7_drop : GoodIn wsX7_lose wsX7_drop := goodIn_r _ [12, 8, 2, 13, 14, 15, 16, 17, 18, 19, 20, 21, 22, 23, 24, 25, 26, 27, 28, 29, 30, 31, 32, 33, 34, 35, 36, 37, 38, 39, 40, 41, 42, 43, 44, 45, 46, 47, 48, 49, 50, 51, 52, 53, 54, 55, 56, 57, 58] (by decide +kernel) (by decide +kernel)
set_option maxRecDepth 20000 in
theorem gX7_lose_X7_drop : GoodIn wsX7_lose (wsV RX7 156 RX7 yX7_drop wsX7_drop) := goodIn_app (goodIn_of _ (by decide +kernel)) ggX7_lose_X7_drop
theorem dX7_lose_0 : decode cX7_lose 0 = .ok (.aload_n 0, 1) := by decide +kernel
theorem dX7_lose_1 : decode cX7_lose 1 = .ok (.aload_n 0, 1) := by decide +kernel
theorem dX7_lose_2 : decode cX7_lose 2 = .ok (.iload_n 1, 1) := by decide +kernel
theorem dX7_lose_3 : decode cX7_lose 3 = .ok (.invokevirtual 176, 3) := by decide +kernel
theorem dX7_lose_6 : decode cX7_lose 6 = .ok (.ifCond .eq 7, 3) := by decide +kernel
theorem dX7_lose_9 : decode cX7_lose 9 = .ok (.iconst 1, 1) := by decide +kernel
theorem dX7_lose_10 : decode cX7_lose 10 = .ok (.goto 4, 3) := by decide +kernel
theorem dX7_lose_13 : decode cX7_lose 13 = .ok (.iconst 0, 1) := by decide +kernel
theorem dX7_lose_14 : decode cX7_lose 14 = .ok (.putfield 120, 3) := by decide +kernel
theorem dX7_lose_17 : decode cX7_lose 17 = .ok (.aload_n 0, 1) := by decide +kernel
theorem dX7_lose_18 : decode cX7_lose 18 = .ok (.getfield 120, 3) := by decide +kernel
theorem dX7_lose_21 : decode cX7_lose 21 = .ok (.ifCond .le 5, 3) := by decide +kernel
theorem dX7_lose_24 : decode cX7_lose 24 = .ok (.iconst 0, 1) := by decide +kernel
theorem dX7_lose_25 : decode cX7_lose 25 = .ok (.ireturn, 1) := by decide +kernel
theorem dX7_lose_26 : decode cX7_lose 26 = .ok (.aload_n 0, 1) := by decide +kernel
theorem dX7_lose_27 : decode cX7_lose 27 = .ok (.getfield 7, 3) := by decide +kernel
theorem dX7_lose_30 : decode cX7_lose 30 = .ok (.iload_n 1, 1) := by decide +kernel
theorem dX7_lose_31 : decode cX7_lose 31 = .ok (.iaload, 1) := by decide +kernel
theorem dX7_lose_32 : decode cX7_lose 32 = .ok (.istore_n 2, 1) := by decide +kernel
theorem dX7_lose_33 : decode cX7_lose 33 = .ok (.aload_n 0, 1) := by decide +kernel
theorem dX7_lose_34 : decode cX7_lose 34 = .ok (.iload_n 1, 1) := by decide +kernel
theorem dX7_lose_35 : decode cX7_lose 35 = .ok (.invokevirtual 156, 3) := by decide +kernel
theorem dX7_lose_38 : decode cX7_lose 38 = .ok (.iload_n 2, 1) := by decide +kernel
theorem dX7_lose_39 : decode cX7_lose 39 = .ok (.ireturn, 1) := by decide +kernel
set_option maxRecDepth 20000 in
theorem ggX7_twice_X7_noMessage : GoodIn wsX7_twice wsX7_noMessage := goodIn_r _ [15, 2, 20, 21, 22, 23, 24, 25, 26, 27, 28, 29, 30, 31, 32, 33, 34, 35, 36, 37, 38, 39, 40, 41, 42, 43, 44, 45, 46, 47, 48, 49, 50, 51, 52, 53, 54, 55, 56, 57, 58] (by decide +kernel) (by decide +kernel)
set_option maxRecDepth 20000 in
theorem gX7_twice_X7_noMessage : GoodIn wsX7_twice (wsV RX7 176 RX7 yX7_noMessage wsX7_noMessage) := goodIn_app (goodIn_of _ (by decide +kernel)) ggX7_twice_X7_noMessage
set_option maxRecDepth 20000 in
theorem ggX7_twice_X7_send : GoodIn wsX7_twice wsX7_send := goodIn_r _ [19, 2, 3, 4, 5, 6, 7, 8, 9, 10, 20, 21, 22, 23, 24, 25, 26, 27, 28, 29, 30, 31, 32, 33, 34, 35, 36, 37, 38, 39, 40, 41, 42, 43, 44, 45, 46, 47, 48, 49, 50, 51, 52, 53, 54, 55, 56, 57, 58] (by decide +kernel) (by decide +kernel)
set_option maxRecDepth 20000 in
theorem gX7_twice_X7_send : GoodIn wsX7_twice (wsV RX7 137 RX7 yX7_send wsX7_send) := goodIn_app (goodIn_of _ (by decide +kernel)) ggX7_twice_X7_send
theorem dX7_twice_0 : decode cX7_twice 0 = .ok (.aload_n 0, 1) := by decide +kernel
theorem dX7_twice_1 : decode cX7_twice 1 = .ok (.aload_n 0, 1) := by decide +kernel
theorem dX7_twice_2 : decode cX7_twice 2 = .ok (.iload_n 1, 1) := by decide +kernel
theorem dX7_twice_3 : decode cX7_twice 3 = .ok (.invokevirtual 176, 3) := by decide +kernel
theorem dX7_twice_6 : decode cX7_twice 6 = .ok (.ifCond .eq 7, 3) := by decide +kernel
theorem dX7_twice_9 : decode cX7_twice 9 = .ok (.iconst 1, 1) := by decide +kernel
theorem dX7_twice_10 : decode cX7_twice 10 = .ok (.goto 4, 3) := by decide +kernel
theorem dX7_twice_13 : decode cX7_twice 13 = .ok (.iconst 0, 1) := by decide +kernel
theorem dX7_twice_14 : decode cX7_twice 14 = .ok (.putfield 120, 3) := by decide +kernel
theorem dX7_twice_17 : decode cX7_twice 17 = .ok (.aload_n 0, 1) := by decide +kernel
theorem dX7_twice_18 : decode cX7_twice 18 = .ok (.getfield 120, 3) := by decide +kernel
theorem dX7_twice_21 : decode cX7_twice 21 = .ok (.ifCond .le 5, 3) := by decide +kernel
theorem dX7_twice_24 : decode cX7_twice 24 = .ok (.iconst 0, 1) := by decide +kernel
theorem dX7_twice_25 : decode cX7_twice 25 = .ok (.ireturn, 1) := by decide +kernel
theorem dX7_twice_26 : decode cX7_twice 26 = .ok (.aload_n 0, 1) := by decide +kernel
theorem dX7_twice_27 : decode cX7_twice 27 = .ok (.getfield 124, 3) := by decide +kernel
theorem dX7_twice_30 : decode cX7_twice 30 = .ok (.sipush 300, 3) := by decide +kernel
theorem dX7_twice_33 : decode cX7_twice 33 = .ok (.if_icmp .ne 5, 3) := by decide +kernel
theorem dX7_twice_36 : decode cX7_twice 36 = .ok (.iconst (-1), 1) := by decide +kernel
theorem dX7_twice_37 : decode cX7_twice 37 = .ok (.ireturn, 1) := by decide +kernel
theorem dX7_twice_38 : decode cX7_twice 38 = .ok (.aload_n 0, 1) := by decide +kernel
theorem dX7_twice_39 : decode cX7_twice 39 = .ok (.aload_n 0, 1) := by decide +kernel
theorem dX7_twice_40 : decode cX7_twice 40 = .ok (.getfield 7, 3) := by decide +kernel
theorem dX7_twice_43 : decode cX7_twice 43 = .ok (.iload_n 1, 1) := by decide +kernel
theorem dX7_twice_44 : decode cX7_twice 44 = .ok (.iaload, 1) := by decide +kernel
theorem dX7_twice_45 : decode cX7_twice 45 = .ok (.aload_n 0, 1) := by decide +kernel
theorem dX7_twice_46 : decode cX7_twice 46 = .ok (.getfield 13, 3) := by decide +kernel
theorem dX7_twice_49 : decode cX7_twice 49 = .ok (.iload_n 1, 1) := by decide +kernel
theorem dX7_twice_50 : decode cX7_twice 50 = .ok (.iaload, 1) := by decide +kernel
theorem dX7_twice_51 : decode cX7_twice 51 = .ok (.aload_n 0, 1) := by decide +kernel
theorem dX7_twice_52 : decode cX7_twice 52 = .ok (.getfield 16, 3) := by decide +kernel
theorem dX7_twice_55 : decode cX7_twice 55 = .ok (.iload_n 1, 1) := by decide +kernel
theorem dX7_twice_56 : decode cX7_twice 56 = .ok (.iaload, 1) := by decide +kernel
theorem dX7_twice_57 : decode cX7_twice 57 = .ok (.aload_n 0, 1) := by decide +kernel
theorem dX7_twice_58 : decode cX7_twice 58 = .ok (.getfield 19, 3) := by decide +kernel
theorem dX7_twice_61 : decode cX7_twice 61 = .ok (.iload_n 1, 1) := by decide +kernel
theorem dX7_twice_62 : decode cX7_twice 62 = .ok (.iaload, 1) := by decide +kernel
theorem dX7_twice_63 : decode cX7_twice 63 = .ok (.aload_n 0, 1) := by decide +kernel
theorem dX7_twice_64 : decode cX7_twice 64 = .ok (.getfield 22, 3) := by decide +kernel
theorem dX7_twice_67 : decode cX7_twice 67 = .ok (.iload_n 1, 1) := by decide +kernel
theorem dX7_twice_68 : decode cX7_twice 68 = .ok (.iaload, 1) := by decide +kernel
theorem dX7_twice_69 : decode cX7_twice 69 = .ok (.aload_n 0, 1) := by decide +kernel
theorem dX7_twice_70 : decode cX7_twice 70 = .ok (.getfield 25, 3) := by decide +kernel
theorem dX7_twice_73 : decode cX7_twice 73 = .ok (.iload_n 1, 1) := by decide +kernel
theorem dX7_twice_74 : decode cX7_twice 74 = .ok (.baload, 1) := by decide +kernel
theorem dX7_twice_75 : decode cX7_twice 75 = .ok (.aload_n 0, 1) := by decide +kernel
theorem dX7_twice_76 : decode cX7_twice 76 = .ok (.getfield 29, 3) := by decide +kernel
theorem dX7_twice_79 : decode cX7_twice 79 = .ok (.iload_n 1, 1) := by decide +kernel
theorem dX7_twice_80 : decode cX7_twice 80 = .ok (.iaload, 1) := by decide +kernel
theorem dX7_twice_81 : decode cX7_twice 81 = .ok (.aload_n 0, 1) := by decide +kernel
theorem dX7_twice_82 : decode cX7_twice 82 = .ok (.getfield 32, 3) := by decide +kernel
theorem dX7_twice_85 : decode cX7_twice 85 = .ok (.iload_n 1, 1) := by decide +kernel
theorem dX7_twice_86 : decode cX7_twice 86 = .ok (.laload, 1) := by decide +kernel
theorem dX7_twice_87 : decode cX7_twice 87 = .ok (.invokevirtual 137, 3) := by decide +kernel
theorem dX7_twice_90 : decode cX7_twice 90 = .ok (.aload_n 0, 1) := by decide +kernel
theorem dX7_twice_91 : decode cX7_twice 91 = .ok (.getfield 124, 3) := by decide +kernel
theorem dX7_twice_94 : decode cX7_twice 94 = .ok (.ireturn, 1) := by decide +kernel
set_option maxRecDepth 20000 in
theorem ggX7_down_X7_noKeeper : GoodIn wsX7_down wsX7_noKeeper := goodIn_r _ [6] (by decide +kernel) (by decide +kernel)
set_option maxRecDepth 20000 in
theorem gX7_down_X7_noKeeper : GoodIn wsX7_down (va_wsS RX7 182 yX7_noKeeper wsX7_noKeeper) := goodIn_app (goodIn_of _ (by decide +kernel)) ggX7_down_X7_noKeeper
theorem dX7_down_0 : decode cX7_down 0 = .ok (.aload_n 0, 1) := by decide +kernel
theorem dX7_down_1 : decode cX7_down 1 = .ok (.iload_n 1, 1) := by decide +kernel
theorem dX7_down_2 : decode cX7_down 2 = .ok (.invokestatic 182, 3) := by decide +kernel
theorem dX7_down_5 : decode cX7_down 5 = .ok (.ifCond .eq 7, 3) := by decide +kernel
theorem dX7_down_8 : decode cX7_down 8 = .ok (.iconst 1, 1) := by decide +kernel
theorem dX7_down_9 : decode cX7_down 9 = .ok (.goto 4, 3) := by decide +kernel
theorem dX7_down_12 : decode cX7_down 12 = .ok (.iconst 0, 1) := by decide +kernel
theorem dX7_down_13 : decode cX7_down 13 = .ok (.putfield 120, 3) := by decide +kernel
theorem dX7_down_16 : decode cX7_down 16 = .ok (.aload_n 0, 1) := by decide +kernel
theorem dX7_down_17 : decode cX7_down 17 = .ok (.getfield 120, 3) := by decide +kernel
theorem dX7_down_20 : decode cX7_down 20 = .ok (.ifCond .le 5, 3) := by decide +kernel
theorem dX7_down_23 : decode cX7_down 23 = .ok (.iconst 0, 1) := by decide +kernel
theorem dX7_down_24 : decode cX7_down 24 = .ok (.ireturn, 1) := by decide +kernel
theorem dX7_down_25 : decode cX7_down 25 = .ok (.aload_n 0, 1) := by decide +kernel
theorem dX7_down_26 : decode cX7_down 26 = .ok (.getfield 36, 3) := by decide +kernel
theorem dX7_down_29 : decode cX7_down 29 = .ok (.iload_n 1, 1) := by decide +kernel
theorem dX7_down_30 : decode cX7_down 30 = .ok (.baload, 1) := by decide +kernel
theorem dX7_down_31 : decode cX7_down 31 = .ok (.istore_n 3, 1) := by decide +kernel
theorem dX7_down_32 : decode cX7_down 32 = .ok (.aload_n 0, 1) := by decide +kernel
theorem dX7_down_33 : decode cX7_down 33 = .ok (.getfield 36, 3) := by decide +kernel
theorem dX7_down_36 : decode cX7_down 36 = .ok (.iload_n 1, 1) := by decide +kernel
theorem dX7_down_37 : decode cX7_down 37 = .ok (.iload_n 2, 1) := by decide +kernel
theorem dX7_down_38 : decode cX7_down 38 = .ok (.bastore, 1) := by decide +kernel
theorem dX7_down_39 : decode cX7_down 39 = .ok (.iload_n 3, 1) := by decide +kernel
theorem dX7_down_40 : decode cX7_down 40 = .ok (.ireturn, 1) := by decide +kernel
set_option maxRecDepth 20000 in
theorem ggX7_copy_X7_noKeeper : GoodIn wsX7_copy wsX7_noKeeper := goodIn_r _ [10] (by decide +kernel) (by decide +kernel)
set_option maxRecDepth 20000 in
theorem gX7_copy_X7_noKeeper : GoodIn wsX7_copy (va_wsS RX7 182 yX7_noKeeper wsX7_noKeeper) := goodIn_app (goodIn_of _ (by decide +kernel)) ggX7_copy_X7_noKeeper
theorem dX7_copy_0 : decode cX7_copy 0 = .ok (.aload_n 0, 1) := by decide +kernel
theorem dX7_copy_1 : decode cX7_copy 1 = .ok (.iload_n 1, 1) := by decide +kernel
theorem dX7_copy_2 : decode cX7_copy 2 = .ok (.invokestatic 182, 3) := by decide +kernel
theorem dX7_copy_5 : decode cX7_copy 5 = .ok (.ifCond .ne 10, 3) := by decide +kernel
theorem dX7_copy_8 : decode cX7_copy 8 = .ok (.iload_n 2, 1) := by decide +kernel
theorem dX7_copy_9 : decode cX7_copy 9 = .ok (.invokestatic 182, 3) := by decide +kernel
theorem dX7_copy_12 : decode cX7_copy 12 = .ok (.ifCond .eq 7, 3) := by decide +kernel
theorem dX7_copy_15 : decode cX7_copy 15 = .ok (.iconst 1, 1) := by decide +kernel
theorem dX7_copy_16 : decode cX7_copy 16 = .ok (.goto 4, 3) := by decide +kernel
theorem dX7_copy_19 : decode cX7_copy 19 = .ok (.iconst 0, 1) := by decide +kernel
theorem dX7_copy_20 : decode cX7_copy 20 = .ok (.putfield 120, 3) := by decide +kernel
theorem dX7_copy_23 : decode cX7_copy 23 = .ok (.iconst 0, 1) := by decide +kernel
theorem dX7_copy_24 : decode cX7_copy 24 = .ok (.istore_n 3, 1) := by decide +kernel
theorem dX7_copy_25 : decode cX7_copy 25 = .ok (.iconst 0, 1) := by decide +kernel
theorem dX7_copy_26 : decode cX7_copy 26 = .ok (.istore 4, 2) := by decide +kernel
theorem dX7_copy_28 : decode cX7_copy 28 = .ok (.iload 4, 2) := by decide +kernel
theorem dX7_copy_30 : decode cX7_copy 30 = .ok (.iconst 4, 1) := by decide +kernel
theorem dX7_copy_31 : decode cX7_copy 31 = .ok (.if_icmp .ge 149, 3) := by decide +kernel
theorem dX7_copy_34 : decode cX7_copy 34 = .ok (.aload_n 0, 1) := by decide +kernel
theorem dX7_copy_35 : decode cX7_copy 35 = .ok (.getfield 120, 3) := by decide +kernel
theorem dX7_copy_38 : decode cX7_copy 38 = .ok (.ifCond .ne 142, 3) := by decide +kernel
theorem dX7_copy_41 : decode cX7_copy 41 = .ok (.iconst 4, 1) := by decide +kernel
theorem dX7_copy_42 : decode cX7_copy 42 = .ok (.iload_n 1, 1) := by decide +kernel
theorem dX7_copy_43 : decode cX7_copy 43 = .ok (.imul, 1) := by decide +kernel
theorem dX7_copy_44 : decode cX7_copy 44 = .ok (.iload 4, 2) := by decide +kernel
theorem dX7_copy_46 : decode cX7_copy 46 = .ok (.iadd, 1) := by decide +kernel
theorem dX7_copy_47 : decode cX7_copy 47 = .ok (.istore 5, 2) := by decide +kernel
theorem dX7_copy_49 : decode cX7_copy 49 = .ok (.iconst 4, 1) := by decide +kernel
theorem dX7_copy_50 : decode cX7_copy 50 = .ok (.iload_n 2, 1) := by decide +kernel
theorem dX7_copy_51 : decode cX7_copy 51 = .ok (.imul, 1) := by decide +kernel
theorem dX7_copy_52 : decode cX7_copy 52 = .ok (.iload 4, 2) := by decide +kernel
theorem dX7_copy_54 : decode cX7_copy 54 = .ok (.iadd, 1) := by decide +kernel
theorem dX7_copy_55 : decode cX7_copy 55 = .ok (.istore 6, 2) := by decide +kernel
theorem dX7_copy_57 : decode cX7_copy 57 = .ok (.aload_n 0, 1) := by decide +kernel
theorem dX7_copy_58 : decode cX7_copy 58 = .ok (.getfield 42, 3) := by decide +kernel
theorem dX7_copy_61 : decode cX7_copy 61 = .ok (.iload 6, 2) := by decide +kernel
theorem dX7_copy_63 : decode cX7_copy 63 = .ok (.iaload, 1) := by decide +kernel
theorem dX7_copy_64 : decode cX7_copy 64 = .ok (.aload_n 0, 1) := by decide +kernel
theorem dX7_copy_65 : decode cX7_copy 65 = .ok (.getfield 42, 3) := by decide +kernel
theorem dX7_copy_68 : decode cX7_copy 68 = .ok (.iload 5, 2) := by decide +kernel
theorem dX7_copy_70 : decode cX7_copy 70 = .ok (.iaload, 1) := by decide +kernel
theorem dX7_copy_71 : decode cX7_copy 71 = .ok (.if_icmp .le 103, 3) := by decide +kernel
theorem dX7_copy_74 : decode cX7_copy 74 = .ok (.aload_n 0, 1) := by decide +kernel
theorem dX7_copy_75 : decode cX7_copy 75 = .ok (.getfield 39, 3) := by decide +kernel
theorem dX7_copy_78 : decode cX7_copy 78 = .ok (.iload 5, 2) := by decide +kernel
theorem dX7_copy_80 : decode cX7_copy 80 = .ok (.aload_n 0, 1) := by decide +kernel
theorem dX7_copy_81 : decode cX7_copy 81 = .ok (.getfield 39, 3) := by decide +kernel
theorem dX7_copy_84 : decode cX7_copy 84 = .ok (.iload 6, 2) := by decide +kernel
theorem dX7_copy_86 : decode cX7_copy 86 = .ok (.iaload, 1) := by decide +kernel
theorem dX7_copy_87 : decode cX7_copy 87 = .ok (.aload_n 0, 1) := by decide +kernel
theorem dX7_copy_88 : decode cX7_copy 88 = .ok (.getfield 39, 3) := by decide +kernel
theorem dX7_copy_91 : decode cX7_copy 91 = .ok (.iload 5, 2) := by decide +kernel
theorem dX7_copy_93 : decode cX7_copy 93 = .ok (.iaload, 1) := by decide +kernel
theorem dX7_copy_94 : decode cX7_copy 94 = .ok (.if_icmp .le 13, 3) := by decide +kernel
theorem dX7_copy_97 : decode cX7_copy 97 = .ok (.aload_n 0, 1) := by decide +kernel
theorem dX7_copy_98 : decode cX7_copy 98 = .ok (.getfield 39, 3) := by decide +kernel
theorem dX7_copy_101 : decode cX7_copy 101 = .ok (.iload 6, 2) := by decide +kernel
theorem dX7_copy_103 : decode cX7_copy 103 = .ok (.iaload, 1) := by decide +kernel
theorem dX7_copy_104 : decode cX7_copy 104 = .ok (.goto 10, 3) := by decide +kernel
theorem dX7_copy_107 : decode cX7_copy 107 = .ok (.aload_n 0, 1) := by decide +kernel
theorem dX7_copy_108 : decode cX7_copy 108 = .ok (.getfield 39, 3) := by decide +kernel
theorem dX7_copy_111 : decode cX7_copy 111 = .ok (.iload 5, 2) := by decide +kernel
theorem dX7_copy_113 : decode cX7_copy 113 = .ok (.iaload, 1) := by decide +kernel
theorem dX7_copy_114 : decode cX7_copy 114 = .ok (.iastore, 1) := by decide +kernel
theorem dX7_copy_115 : decode cX7_copy 115 = .ok (.aload_n 0, 1) := by decide +kernel
theorem dX7_copy_116 : decode cX7_copy 116 = .ok (.getfield 42, 3) := by decide +kernel
theorem dX7_copy_119 : decode cX7_copy 119 = .ok (.iload 5, 2) := by decide +kernel
theorem dX7_copy_121 : decode cX7_copy 121 = .ok (.aload_n 0, 1) := by decide +kernel
theorem dX7_copy_122 : decode cX7_copy 122 = .ok (.getfield 42, 3) := by decide +kernel
theorem dX7_copy_125 : decode cX7_copy 125 = .ok (.iload 6, 2) := by decide +kernel
theorem dX7_copy_127 : decode cX7_copy 127 = .ok (.iaload, 1) := by decide +kernel
theorem dX7_copy_128 : decode cX7_copy 128 = .ok (.iastore, 1) := by decide +kernel
theorem dX7_copy_129 : decode cX7_copy 129 = .ok (.aload_n 0, 1) := by decide +kernel
theorem dX7_copy_130 : decode cX7_copy 130 = .ok (.getfield 45, 3) := by decide +kernel
theorem dX7_copy_133 : decode cX7_copy 133 = .ok (.iload 5, 2) := by decide +kernel
theorem dX7_copy_135 : decode cX7_copy 135 = .ok (.aload_n 0, 1) := by decide +kernel
theorem dX7_copy_136 : decode cX7_copy 136 = .ok (.getfield 45, 3) := by decide +kernel
theorem dX7_copy_139 : decode cX7_copy 139 = .ok (.iload 6, 2) := by decide +kernel
theorem dX7_copy_141 : decode cX7_copy 141 = .ok (.baload, 1) := by decide +kernel
theorem dX7_copy_142 : decode cX7_copy 142 = .ok (.bastore, 1) := by decide +kernel
theorem dX7_copy_143 : decode cX7_copy 143 = .ok (.aload_n 0, 1) := by decide +kernel
theorem dX7_copy_144 : decode cX7_copy 144 = .ok (.getfield 48, 3) := by decide +kernel
theorem dX7_copy_147 : decode cX7_copy 147 = .ok (.iload 5, 2) := by decide +kernel
theorem dX7_copy_149 : decode cX7_copy 149 = .ok (.aload_n 0, 1) := by decide +kernel
theorem dX7_copy_150 : decode cX7_copy 150 = .ok (.getfield 48, 3) := by decide +kernel
theorem dX7_copy_153 : decode cX7_copy 153 = .ok (.iload 6, 2) := by decide +kernel
theorem dX7_copy_155 : decode cX7_copy 155 = .ok (.iaload, 1) := by decide +kernel
theorem dX7_copy_156 : decode cX7_copy 156 = .ok (.iastore, 1) := by decide +kernel
theorem dX7_copy_157 : decode cX7_copy 157 = .ok (.aload_n 0, 1) := by decide +kernel
theorem dX7_copy_158 : decode cX7_copy 158 = .ok (.getfield 51, 3) := by decide +kernel
theorem dX7_copy_161 : decode cX7_copy 161 = .ok (.iload 5, 2) := by decide +kernel
theorem dX7_copy_163 : decode cX7_copy 163 = .ok (.aload_n 0, 1) := by decide +kernel
theorem dX7_copy_164 : decode cX7_copy 164 = .ok (.getfield 51, 3) := by decide +kernel
theorem dX7_copy_167 : decode cX7_copy 167 = .ok (.iload 6, 2) := by decide +kernel
theorem dX7_copy_169 : decode cX7_copy 169 = .ok (.laload, 1) := by decide +kernel
theorem dX7_copy_170 : decode cX7_copy 170 = .ok (.lastore, 1) := by decide +kernel
theorem dX7_copy_171 : decode cX7_copy 171 = .ok (.iinc 3 1, 3) := by decide +kernel
theorem dX7_copy_174 : decode cX7_copy 174 = .ok (.iinc 4 1, 3) := by decide +kernel
theorem dX7_copy_177 : decode cX7_copy 177 = .ok (.goto (-149), 3) := by decide +kernel
theorem dX7_copy_180 : decode cX7_copy 180 = .ok (.iload_n 3, 1) := by decide +kernel
theorem dX7_copy_181 : decode cX7_copy 181 = .ok (.ireturn, 1) := by decide +kernel
theorem dX7_messages_0 : decode cX7_messages 0 = .ok (.aload_n 0, 1) := by decide +kernel
theorem dX7_messages_1 : decode cX7_messages 1 = .ok (.iconst 0, 1) := by decide +kernel
theorem dX7_messages_2 : decode cX7_messages 2 = .ok (.putfield 120, 3) := by decide +kernel
theorem dX7_messages_5 : decode cX7_messages 5 = .ok (.aload_n 0, 1) := by decide +kernel
theorem dX7_messages_6 : decode cX7_messages 6 = .ok (.getfield 124, 3) := by decide +kernel
theorem dX7_messages_9 : decode cX7_messages 9 = .ok (.ireturn, 1) := by decide +kernel
set_option maxRecDepth 20000 in
theorem ggX7_message_X7_noMessage : GoodIn wsX7_message wsX7_noMessage := goodIn_r _ [13, 14, 15, 16, 17, 18, 19, 20, 21, 22, 23, 24, 25, 26, 27, 28, 29, 30, 31, 32, 33, 34, 35, 36, 37, 38, 39, 40, 41, 42, 43, 44, 45, 46, 47, 48, 49, 50, 51, 52, 53] (by decide +kernel) (by decide +kernel)
set_option maxRecDepth 20000 in
theorem gX7_message_X7_noMessage : GoodIn wsX7_message (wsV RX7 176 RX7 yX7_noMessage wsX7_noMessage) := goodIn_app (goodIn_of _ (by decide +kernel)) ggX7_message_X7_noMessage
theorem dX7_message_0 : decode cX7_message 0 = .ok (.aload_n 0, 1) := by decide +kernel
theorem dX7_message_1 : decode cX7_message 1 = .ok (.aload_n 0, 1) := by decide +kernel
theorem dX7_message_2 : decode cX7_message 2 = .ok (.iload_n 1, 1) := by decide +kernel
theorem dX7_message_3 : decode cX7_message 3 = .ok (.invokevirtual 176, 3) := by decide +kernel
theorem dX7_message_6 : decode cX7_message 6 = .ok (.ifCond .ne 12, 3) := by decide +kernel
theorem dX7_message_9 : decode cX7_message 9 = .ok (.iload_n 2, 1) := by decide +kernel
theorem dX7_message_10 : decode cX7_message 10 = .ok (.ifCond .lt 8, 3) := by decide +kernel
theorem dX7_message_13 : decode cX7_message 13 = .ok (.iload_n 2, 1) := by decide +kernel
theorem dX7_message_14 : decode cX7_message 14 = .ok (.iconst 5, 1) := by decide +kernel
theorem dX7_message_15 : decode cX7_message 15 = .ok (.if_icmp .le 7, 3) := by decide +kernel
theorem dX7_message_18 : decode cX7_message 18 = .ok (.iconst 1, 1) := by decide +kernel
theorem dX7_message_19 : decode cX7_message 19 = .ok (.goto 4, 3) := by decide +kernel
theorem dX7_message_22 : decode cX7_message 22 = .ok (.iconst 0, 1) := by decide +kernel
theorem dX7_message_23 : decode cX7_message 23 = .ok (.putfield 120, 3) := by decide +kernel
theorem dX7_message_26 : decode cX7_message 26 = .ok (.aload_n 0, 1) := by decide +kernel
theorem dX7_message_27 : decode cX7_message 27 = .ok (.getfield 120, 3) := by decide +kernel
theorem dX7_message_30 : decode cX7_message 30 = .ok (.ifCond .le 5, 3) := by decide +kernel
theorem dX7_message_33 : decode cX7_message 33 = .ok (.iconst 0, 1) := by decide +kernel
theorem dX7_message_34 : decode cX7_message 34 = .ok (.ireturn, 1) := by decide +kernel
theorem dX7_message_35 : decode cX7_message 35 = .ok (.iload_n 2, 1) := by decide +kernel
theorem dX7_message_36 : decode cX7_message 36 = .ok (.tableswitch 71 0 4 #[36, 43, 50, 57, 64], 36) := by decide +kernel
theorem dX7_message_72 : decode cX7_message 72 = .ok (.aload_n 0, 1) := by decide +kernel
theorem dX7_message_73 : decode cX7_message 73 = .ok (.getfield 7, 3) := by decide +kernel
theorem dX7_message_76 : decode cX7_message 76 = .ok (.iload_n 1, 1) := by decide +kernel
theorem dX7_message_77 : decode cX7_message 77 = .ok (.iaload, 1) := by decide +kernel
theorem dX7_message_78 : decode cX7_message 78 = .ok (.ireturn, 1) := by decide +kernel
theorem dX7_message_79 : decode cX7_message 79 = .ok (.aload_n 0, 1) := by decide +kernel
theorem dX7_message_80 : decode cX7_message 80 = .ok (.getfield 13, 3) := by decide +kernel
theorem dX7_message_83 : decode cX7_message 83 = .ok (.iload_n 1, 1) := by decide +kernel
theorem dX7_message_84 : decode cX7_message 84 = .ok (.iaload, 1) := by decide +kernel
theorem dX7_message_85 : decode cX7_message 85 = .ok (.ireturn, 1) := by decide +kernel
theorem dX7_message_86 : decode cX7_message 86 = .ok (.aload_n 0, 1) := by decide +kernel
theorem dX7_message_87 : decode cX7_message 87 = .ok (.getfield 16, 3) := by decide +kernel
theorem dX7_message_90 : decode cX7_message 90 = .ok (.iload_n 1, 1) := by decide +kernel
theorem dX7_message_91 : decode cX7_message 91 = .ok (.iaload, 1) := by decide +kernel
theorem dX7_message_92 : decode cX7_message 92 = .ok (.ireturn, 1) := by decide +kernel
theorem dX7_message_93 : decode cX7_message 93 = .ok (.aload_n 0, 1) := by decide +kernel
theorem dX7_message_94 : decode cX7_message 94 = .ok (.getfield 19, 3) := by decide +kernel
theorem dX7_message_97 : decode cX7_message 97 = .ok (.iload_n 1, 1) := by decide +kernel
theorem dX7_message_98 : decode cX7_message 98 = .ok (.iaload, 1) := by decide +kernel
theorem dX7_message_99 : decode cX7_message 99 = .ok (.ireturn, 1) := by decide +kernel
theorem dX7_message_100 : decode cX7_message 100 = .ok (.aload_n 0, 1) := by decide +kernel
theorem dX7_message_101 : decode cX7_message 101 = .ok (.getfield 22, 3) := by decide +kernel
theorem dX7_message_104 : decode cX7_message 104 = .ok (.iload_n 1, 1) := by decide +kernel
theorem dX7_message_105 : decode cX7_message 105 = .ok (.iaload, 1) := by decide +kernel
theorem dX7_message_106 : decode cX7_message 106 = .ok (.ireturn, 1) := by decide +kernel
theorem dX7_message_107 : decode cX7_message 107 = .ok (.aload_n 0, 1) := by decide +kernel
theorem dX7_message_108 : decode cX7_message 108 = .ok (.getfield 25, 3) := by decide +kernel
theorem dX7_message_111 : decode cX7_message 111 = .ok (.iload_n 1, 1) := by decide +kernel
theorem dX7_message_112 : decode cX7_message 112 = .ok (.baload, 1) := by decide +kernel
theorem dX7_message_113 : decode cX7_message 113 = .ok (.ifCond .eq 12, 3) := by decide +kernel
theorem dX7_message_116 : decode cX7_message 116 = .ok (.aload_n 0, 1) := by decide +kernel
theorem dX7_message_117 : decode cX7_message 117 = .ok (.getfield 29, 3) := by decide +kernel
theorem dX7_message_120 : decode cX7_message 120 = .ok (.iload_n 1, 1) := by decide +kernel
theorem dX7_message_121 : decode cX7_message 121 = .ok (.iaload, 1) := by decide +kernel
theorem dX7_message_122 : decode cX7_message 122 = .ok (.goto 4, 3) := by decide +kernel
theorem dX7_message_125 : decode cX7_message 125 = .ok (.iconst (-1), 1) := by decide +kernel
theorem dX7_message_126 : decode cX7_message 126 = .ok (.ireturn, 1) := by decide +kernel
set_option maxRecDepth 20000 in
theorem ggX7_keeper_X7_noKeeper : GoodIn wsX7_keeper wsX7_noKeeper := goodIn_r _ [9] (by decide +kernel) (by decide +kernel)
set_option maxRecDepth 20000 in
theorem gX7_keeper_X7_noKeeper : GoodIn wsX7_keeper (va_wsS RX7 182 yX7_noKeeper wsX7_noKeeper) := goodIn_app (goodIn_of _ (by decide +kernel)) ggX7_keeper_X7_noKeeper
set_option maxRecDepth 20000 in
theorem ggX7_keeper_X7_noKey : GoodIn wsX7_keeper wsX7_noKey := goodIn_r _ [12] (by decide +kernel) (by decide +kernel)
set_option maxRecDepth 20000 in
theorem gX7_keeper_X7_noKey : GoodIn wsX7_keeper (va_wsS RX7 131 yX7_noKey wsX7_noKey) := goodIn_app (goodIn_of _ (by decide +kernel)) ggX7_keeper_X7_noKey
theorem dX7_keeper_0 : decode cX7_keeper 0 = .ok (.aload_n 0, 1) := by decide +kernel
theorem dX7_keeper_1 : decode cX7_keeper 1 = .ok (.iload_n 1, 1) := by decide +kernel
theorem dX7_keeper_2 : decode cX7_keeper 2 = .ok (.invokestatic 182, 3) := by decide +kernel
theorem dX7_keeper_5 : decode cX7_keeper 5 = .ok (.ifCond .ne 19, 3) := by decide +kernel
theorem dX7_keeper_8 : decode cX7_keeper 8 = .ok (.iload_n 2, 1) := by decide +kernel
theorem dX7_keeper_9 : decode cX7_keeper 9 = .ok (.invokestatic 131, 3) := by decide +kernel
theorem dX7_keeper_12 : decode cX7_keeper 12 = .ok (.ifCond .ne 12, 3) := by decide +kernel
theorem dX7_keeper_15 : decode cX7_keeper 15 = .ok (.iload_n 3, 1) := by decide +kernel
theorem dX7_keeper_16 : decode cX7_keeper 16 = .ok (.ifCond .lt 8, 3) := by decide +kernel
theorem dX7_keeper_19 : decode cX7_keeper 19 = .ok (.iload_n 3, 1) := by decide +kernel
theorem dX7_keeper_20 : decode cX7_keeper 20 = .ok (.iconst 2, 1) := by decide +kernel
theorem dX7_keeper_21 : decode cX7_keeper 21 = .ok (.if_icmp .le 7, 3) := by decide +kernel
theorem dX7_keeper_24 : decode cX7_keeper 24 = .ok (.iconst 1, 1) := by decide +kernel
theorem dX7_keeper_25 : decode cX7_keeper 25 = .ok (.goto 4, 3) := by decide +kernel
theorem dX7_keeper_28 : decode cX7_keeper 28 = .ok (.iconst 0, 1) := by decide +kernel
theorem dX7_keeper_29 : decode cX7_keeper 29 = .ok (.putfield 120, 3) := by decide +kernel
theorem dX7_keeper_32 : decode cX7_keeper 32 = .ok (.aload_n 0, 1) := by decide +kernel
theorem dX7_keeper_33 : decode cX7_keeper 33 = .ok (.getfield 120, 3) := by decide +kernel
theorem dX7_keeper_36 : decode cX7_keeper 36 = .ok (.ifCond .le 5, 3) := by decide +kernel
theorem dX7_keeper_39 : decode cX7_keeper 39 = .ok (.iconst 0, 1) := by decide +kernel
theorem dX7_keeper_40 : decode cX7_keeper 40 = .ok (.ireturn, 1) := by decide +kernel
theorem dX7_keeper_41 : decode cX7_keeper 41 = .ok (.iconst 4, 1) := by decide +kernel
theorem dX7_keeper_42 : decode cX7_keeper 42 = .ok (.iload_n 1, 1) := by decide +kernel
theorem dX7_keeper_43 : decode cX7_keeper 43 = .ok (.imul, 1) := by decide +kernel
theorem dX7_keeper_44 : decode cX7_keeper 44 = .ok (.iload_n 2, 1) := by decide +kernel
theorem dX7_keeper_45 : decode cX7_keeper 45 = .ok (.iadd, 1) := by decide +kernel
theorem dX7_keeper_46 : decode cX7_keeper 46 = .ok (.istore 4, 2) := by decide +kernel
theorem dX7_keeper_48 : decode cX7_keeper 48 = .ok (.iload_n 3, 1) := by decide +kernel
theorem dX7_keeper_49 : decode cX7_keeper 49 = .ok (.ifCond .ne 13, 3) := by decide +kernel
theorem dX7_keeper_52 : decode cX7_keeper 52 = .ok (.aload_n 0, 1) := by decide +kernel
theorem dX7_keeper_53 : decode cX7_keeper 53 = .ok (.getfield 39, 3) := by decide +kernel
theorem dX7_keeper_56 : decode cX7_keeper 56 = .ok (.iload 4, 2) := by decide +kernel
theorem dX7_keeper_58 : decode cX7_keeper 58 = .ok (.iaload, 1) := by decide +kernel
theorem dX7_keeper_59 : decode cX7_keeper 59 = .ok (.goto 39, 3) := by decide +kernel
theorem dX7_keeper_62 : decode cX7_keeper 62 = .ok (.iload_n 3, 1) := by decide +kernel
theorem dX7_keeper_63 : decode cX7_keeper 63 = .ok (.iconst 1, 1) := by decide +kernel
theorem dX7_keeper_64 : decode cX7_keeper 64 = .ok (.if_icmp .ne 13, 3) := by decide +kernel
theorem dX7_keeper_67 : decode cX7_keeper 67 = .ok (.aload_n 0, 1) := by decide +kernel
theorem dX7_keeper_68 : decode cX7_keeper 68 = .ok (.getfield 42, 3) := by decide +kernel
theorem dX7_keeper_71 : decode cX7_keeper 71 = .ok (.iload 4, 2) := by decide +kernel
theorem dX7_keeper_73 : decode cX7_keeper 73 = .ok (.iaload, 1) := by decide +kernel
theorem dX7_keeper_74 : decode cX7_keeper 74 = .ok (.goto 24, 3) := by decide +kernel
theorem dX7_keeper_77 : decode cX7_keeper 77 = .ok (.aload_n 0, 1) := by decide +kernel
theorem dX7_keeper_78 : decode cX7_keeper 78 = .ok (.getfield 45, 3) := by decide +kernel
theorem dX7_keeper_81 : decode cX7_keeper 81 = .ok (.iload 4, 2) := by decide +kernel
theorem dX7_keeper_83 : decode cX7_keeper 83 = .ok (.baload, 1) := by decide +kernel
theorem dX7_keeper_84 : decode cX7_keeper 84 = .ok (.ifCond .eq 13, 3) := by decide +kernel
theorem dX7_keeper_87 : decode cX7_keeper 87 = .ok (.aload_n 0, 1) := by decide +kernel
theorem dX7_keeper_88 : decode cX7_keeper 88 = .ok (.getfield 48, 3) := by decide +kernel
theorem dX7_keeper_91 : decode cX7_keeper 91 = .ok (.iload 4, 2) := by decide +kernel
theorem dX7_keeper_93 : decode cX7_keeper 93 = .ok (.iaload, 1) := by decide +kernel
theorem dX7_keeper_94 : decode cX7_keeper 94 = .ok (.goto 4, 3) := by decide +kernel
theorem dX7_keeper_97 : decode cX7_keeper 97 = .ok (.iconst (-1), 1) := by decide +kernel
theorem dX7_keeper_98 : decode cX7_keeper 98 = .ok (.ireturn, 1) := by decide +kernel
set_option maxRecDepth 20000 in
theorem ggX7_kept_X7_noKeeper : GoodIn wsX7_kept wsX7_noKeeper := goodIn_r _ [7] (by decide +kernel) (by decide +kernel)
set_option maxRecDepth 20000 in
theorem gX7_kept_X7_noKeeper : GoodIn wsX7_kept (va_wsS RX7 182 yX7_noKeeper wsX7_noKeeper) := goodIn_app (goodIn_of _ (by decide +kernel)) ggX7_kept_X7_noKeeper
set_option maxRecDepth 20000 in
theorem ggX7_kept_X7_noKey : GoodIn wsX7_kept wsX7_noKey := goodIn_r _ [10] (by decide +kernel) (by decide +kernel)
set_option maxRecDepth 20000 in
theorem gX7_kept_X7_noKey : GoodIn wsX7_kept (va_wsS RX7 131 yX7_noKey wsX7_noKey) := goodIn_app (goodIn_of _ (by decide +kernel)) ggX7_kept_X7_noKey
theorem dX7_kept_0 : decode cX7_kept 0 = .ok (.aload_n 0, 1) := by decide +kernel
theorem dX7_kept_1 : decode cX7_kept 1 = .ok (.iload_n 1, 1) := by decide +kernel
theorem dX7_kept_2 : decode cX7_kept 2 = .ok (.invokestatic 182, 3) := by decide +kernel
theorem dX7_kept_5 : decode cX7_kept 5 = .ok (.ifCond .ne 10, 3) := by decide +kernel
theorem dX7_kept_8 : decode cX7_kept 8 = .ok (.iload_n 2, 1) := by decide +kernel
theorem dX7_kept_9 : decode cX7_kept 9 = .ok (.invokestatic 131, 3) := by decide +kernel
theorem dX7_kept_12 : decode cX7_kept 12 = .ok (.ifCond .eq 7, 3) := by decide +kernel
theorem dX7_kept_15 : decode cX7_kept 15 = .ok (.iconst 1, 1) := by decide +kernel
theorem dX7_kept_16 : decode cX7_kept 16 = .ok (.goto 4, 3) := by decide +kernel
theorem dX7_kept_19 : decode cX7_kept 19 = .ok (.iconst 0, 1) := by decide +kernel
theorem dX7_kept_20 : decode cX7_kept 20 = .ok (.putfield 120, 3) := by decide +kernel
theorem dX7_kept_23 : decode cX7_kept 23 = .ok (.aload_n 0, 1) := by decide +kernel
theorem dX7_kept_24 : decode cX7_kept 24 = .ok (.getfield 120, 3) := by decide +kernel
theorem dX7_kept_27 : decode cX7_kept 27 = .ok (.ifCond .le 7, 3) := by decide +kernel
theorem dX7_kept_30 : decode cX7_kept 30 = .ok (.iconst 0, 1) := by decide +kernel
theorem dX7_kept_31 : decode cX7_kept 31 = .ok (.goto 8, 3) := by decide +kernel
theorem dX7_kept_34 : decode cX7_kept 34 = .ok (.iconst 4, 1) := by decide +kernel
theorem dX7_kept_35 : decode cX7_kept 35 = .ok (.iload_n 1, 1) := by decide +kernel
theorem dX7_kept_36 : decode cX7_kept 36 = .ok (.imul, 1) := by decide +kernel
theorem dX7_kept_37 : decode cX7_kept 37 = .ok (.iload_n 2, 1) := by decide +kernel
theorem dX7_kept_38 : decode cX7_kept 38 = .ok (.iadd, 1) := by decide +kernel
theorem dX7_kept_39 : decode cX7_kept 39 = .ok (.istore_n 3, 1) := by decide +kernel
theorem dX7_kept_40 : decode cX7_kept 40 = .ok (.aload_n 0, 1) := by decide +kernel
theorem dX7_kept_41 : decode cX7_kept 41 = .ok (.getfield 120, 3) := by decide +kernel
theorem dX7_kept_44 : decode cX7_kept 44 = .ok (.ifCond .ne 21, 3) := by decide +kernel
theorem dX7_kept_47 : decode cX7_kept 47 = .ok (.aload_n 0, 1) := by decide +kernel
theorem dX7_kept_48 : decode cX7_kept 48 = .ok (.getfield 45, 3) := by decide +kernel
theorem dX7_kept_51 : decode cX7_kept 51 = .ok (.iload_n 3, 1) := by decide +kernel
theorem dX7_kept_52 : decode cX7_kept 52 = .ok (.baload, 1) := by decide +kernel
theorem dX7_kept_53 : decode cX7_kept 53 = .ok (.ifCond .eq 12, 3) := by decide +kernel
theorem dX7_kept_56 : decode cX7_kept 56 = .ok (.aload_n 0, 1) := by decide +kernel
theorem dX7_kept_57 : decode cX7_kept 57 = .ok (.getfield 51, 3) := by decide +kernel
theorem dX7_kept_60 : decode cX7_kept 60 = .ok (.iload_n 3, 1) := by decide +kernel
theorem dX7_kept_61 : decode cX7_kept 61 = .ok (.laload, 1) := by decide +kernel
theorem dX7_kept_62 : decode cX7_kept 62 = .ok (.goto 4, 3) := by decide +kernel
theorem dX7_kept_65 : decode cX7_kept 65 = .ok (.lconst 0, 1) := by decide +kernel
theorem dX7_kept_66 : decode cX7_kept 66 = .ok (.lreturn, 1) := by decide +kernel
set_option maxRecDepth 20000 in
theorem ggX7_asker_X7_noAsker : GoodIn wsX7_asker wsX7_noAsker := goodIn_r _ [9] (by decide +kernel) (by decide +kernel)
set_option maxRecDepth 20000 in
theorem gX7_asker_X7_noAsker : GoodIn wsX7_asker (va_wsS RX7 127 yX7_noAsker wsX7_noAsker) := goodIn_app (goodIn_of _ (by decide +kernel)) ggX7_asker_X7_noAsker
set_option maxRecDepth 20000 in
theorem ggX7_asker_X7_bits : GoodIn wsX7_asker wsX7_bits := goodIn_r _ [12] (by decide +kernel) (by decide +kernel)
set_option maxRecDepth 20000 in
theorem gX7_asker_X7_bits : GoodIn wsX7_asker (va_wsS RX7 145 yX7_bits wsX7_bits) := goodIn_app (goodIn_of _ (by decide +kernel)) ggX7_asker_X7_bits
theorem dX7_asker_0 : decode cX7_asker 0 = .ok (.aload_n 0, 1) := by decide +kernel
theorem dX7_asker_1 : decode cX7_asker 1 = .ok (.iload_n 1, 1) := by decide +kernel
theorem dX7_asker_2 : decode cX7_asker 2 = .ok (.invokestatic 127, 3) := by decide +kernel
theorem dX7_asker_5 : decode cX7_asker 5 = .ok (.ifCond .ne 12, 3) := by decide +kernel
theorem dX7_asker_8 : decode cX7_asker 8 = .ok (.iload_n 2, 1) := by decide +kernel
theorem dX7_asker_9 : decode cX7_asker 9 = .ok (.ifCond .lt 8, 3) := by decide +kernel
theorem dX7_asker_12 : decode cX7_asker 12 = .ok (.iload_n 2, 1) := by decide +kernel
theorem dX7_asker_13 : decode cX7_asker 13 = .ok (.iconst 3, 1) := by decide +kernel
theorem dX7_asker_14 : decode cX7_asker 14 = .ok (.if_icmp .le 7, 3) := by decide +kernel
theorem dX7_asker_17 : decode cX7_asker 17 = .ok (.iconst 1, 1) := by decide +kernel
theorem dX7_asker_18 : decode cX7_asker 18 = .ok (.goto 4, 3) := by decide +kernel
theorem dX7_asker_21 : decode cX7_asker 21 = .ok (.iconst 0, 1) := by decide +kernel
theorem dX7_asker_22 : decode cX7_asker 22 = .ok (.putfield 120, 3) := by decide +kernel
theorem dX7_asker_25 : decode cX7_asker 25 = .ok (.aload_n 0, 1) := by decide +kernel
theorem dX7_asker_26 : decode cX7_asker 26 = .ok (.getfield 120, 3) := by decide +kernel
theorem dX7_asker_29 : decode cX7_asker 29 = .ok (.ifCond .le 5, 3) := by decide +kernel
theorem dX7_asker_32 : decode cX7_asker 32 = .ok (.iconst 0, 1) := by decide +kernel
theorem dX7_asker_33 : decode cX7_asker 33 = .ok (.ireturn, 1) := by decide +kernel
theorem dX7_asker_34 : decode cX7_asker 34 = .ok (.aload_n 0, 1) := by decide +kernel
theorem dX7_asker_35 : decode cX7_asker 35 = .ok (.getfield 69, 3) := by decide +kernel
theorem dX7_asker_38 : decode cX7_asker 38 = .ok (.iload_n 1, 1) := by decide +kernel
theorem dX7_asker_39 : decode cX7_asker 39 = .ok (.iaload, 1) := by decide +kernel
theorem dX7_asker_40 : decode cX7_asker 40 = .ok (.ifCond .lt 7, 3) := by decide +kernel
theorem dX7_asker_43 : decode cX7_asker 43 = .ok (.iconst 1, 1) := by decide +kernel
theorem dX7_asker_44 : decode cX7_asker 44 = .ok (.goto 4, 3) := by decide +kernel
theorem dX7_asker_47 : decode cX7_asker 47 = .ok (.iconst 0, 1) := by decide +kernel
theorem dX7_asker_48 : decode cX7_asker 48 = .ok (.istore_n 3, 1) := by decide +kernel
theorem dX7_asker_49 : decode cX7_asker 49 = .ok (.iload_n 2, 1) := by decide +kernel
theorem dX7_asker_50 : decode cX7_asker 50 = .ok (.ifCond .ne 12, 3) := by decide +kernel
theorem dX7_asker_53 : decode cX7_asker 53 = .ok (.aload_n 0, 1) := by decide +kernel
theorem dX7_asker_54 : decode cX7_asker 54 = .ok (.getfield 54, 3) := by decide +kernel
theorem dX7_asker_57 : decode cX7_asker 57 = .ok (.iload_n 1, 1) := by decide +kernel
theorem dX7_asker_58 : decode cX7_asker 58 = .ok (.iaload, 1) := by decide +kernel
theorem dX7_asker_59 : decode cX7_asker 59 = .ok (.goto 60, 3) := by decide +kernel
theorem dX7_asker_62 : decode cX7_asker 62 = .ok (.iload_n 2, 1) := by decide +kernel
theorem dX7_asker_63 : decode cX7_asker 63 = .ok (.iconst 1, 1) := by decide +kernel
theorem dX7_asker_64 : decode cX7_asker 64 = .ok (.if_icmp .ne 12, 3) := by decide +kernel
theorem dX7_asker_67 : decode cX7_asker 67 = .ok (.aload_n 0, 1) := by decide +kernel
theorem dX7_asker_68 : decode cX7_asker 68 = .ok (.getfield 69, 3) := by decide +kernel
theorem dX7_asker_71 : decode cX7_asker 71 = .ok (.iload_n 1, 1) := by decide +kernel
theorem dX7_asker_72 : decode cX7_asker 72 = .ok (.iaload, 1) := by decide +kernel
theorem dX7_asker_73 : decode cX7_asker 73 = .ok (.goto 46, 3) := by decide +kernel
theorem dX7_asker_76 : decode cX7_asker 76 = .ok (.iload_n 2, 1) := by decide +kernel
theorem dX7_asker_77 : decode cX7_asker 77 = .ok (.iconst 2, 1) := by decide +kernel
theorem dX7_asker_78 : decode cX7_asker 78 = .ok (.if_icmp .ne 24, 3) := by decide +kernel
theorem dX7_asker_81 : decode cX7_asker 81 = .ok (.iload_n 3, 1) := by decide +kernel
theorem dX7_asker_82 : decode cX7_asker 82 = .ok (.ifCond .eq 16, 3) := by decide +kernel
theorem dX7_asker_85 : decode cX7_asker 85 = .ok (.aload_n 0, 1) := by decide +kernel
theorem dX7_asker_86 : decode cX7_asker 86 = .ok (.getfield 72, 3) := by decide +kernel
theorem dX7_asker_89 : decode cX7_asker 89 = .ok (.iload_n 1, 1) := by decide +kernel
theorem dX7_asker_90 : decode cX7_asker 90 = .ok (.baload, 1) := by decide +kernel
theorem dX7_asker_91 : decode cX7_asker 91 = .ok (.ifCond .eq 7, 3) := by decide +kernel
theorem dX7_asker_94 : decode cX7_asker 94 = .ok (.iconst 1, 1) := by decide +kernel
theorem dX7_asker_95 : decode cX7_asker 95 = .ok (.goto 24, 3) := by decide +kernel
theorem dX7_asker_98 : decode cX7_asker 98 = .ok (.iconst 0, 1) := by decide +kernel
theorem dX7_asker_99 : decode cX7_asker 99 = .ok (.goto 20, 3) := by decide +kernel
theorem dX7_asker_102 : decode cX7_asker 102 = .ok (.iload_n 3, 1) := by decide +kernel
theorem dX7_asker_103 : decode cX7_asker 103 = .ok (.ifCond .eq 15, 3) := by decide +kernel
theorem dX7_asker_106 : decode cX7_asker 106 = .ok (.aload_n 0, 1) := by decide +kernel
theorem dX7_asker_107 : decode cX7_asker 107 = .ok (.getfield 75, 3) := by decide +kernel
theorem dX7_asker_110 : decode cX7_asker 110 = .ok (.iload_n 1, 1) := by decide +kernel
theorem dX7_asker_111 : decode cX7_asker 111 = .ok (.iaload, 1) := by decide +kernel
theorem dX7_asker_112 : decode cX7_asker 112 = .ok (.invokestatic 145, 3) := by decide +kernel
theorem dX7_asker_115 : decode cX7_asker 115 = .ok (.goto 4, 3) := by decide +kernel
theorem dX7_asker_118 : decode cX7_asker 118 = .ok (.iconst 0, 1) := by decide +kernel
theorem dX7_asker_119 : decode cX7_asker 119 = .ok (.ireturn, 1) := by decide +kernel
theorem dX7_noRequest_0 : decode cX7_noRequest 0 = .ok (.iload_n 1, 1) := by decide +kernel
theorem dX7_noRequest_1 : decode cX7_noRequest 1 = .ok (.ifCond .lt 11, 3) := by decide +kernel
theorem dX7_noRequest_4 : decode cX7_noRequest 4 = .ok (.iload_n 1, 1) := by decide +kernel
theorem dX7_noRequest_5 : decode cX7_noRequest 5 = .ok (.aload_n 0, 1) := by decide +kernel
theorem dX7_noRequest_6 : decode cX7_noRequest 6 = .ok (.getfield 134, 3) := by decide +kernel
theorem dX7_noRequest_9 : decode cX7_noRequest 9 = .ok (.if_icmp .lt 7, 3) := by decide +kernel
theorem dX7_noRequest_12 : decode cX7_noRequest 12 = .ok (.iconst 1, 1) := by decide +kernel
theorem dX7_noRequest_13 : decode cX7_noRequest 13 = .ok (.goto 4, 3) := by decide +kernel
theorem dX7_noRequest_16 : decode cX7_noRequest 16 = .ok (.iconst 0, 1) := by decide +kernel
theorem dX7_noRequest_17 : decode cX7_noRequest 17 = .ok (.ireturn, 1) := by decide +kernel
set_option maxRecDepth 20000 in
theorem ggX7_request_X7_noRequest : GoodIn wsX7_request wsX7_noRequest := goodIn_r _ [11, 12, 13, 14, 15, 16, 17, 18, 19, 20, 21, 22, 23, 24, 25, 26, 27, 28, 29, 30, 31, 32, 33, 34, 35, 36, 37, 38, 39, 40, 41, 42, 43, 44, 45, 46, 47, 48, 49, 50, 51] (by decide +kernel) (by decide +kernel)
set_option maxRecDepth 20000 in
theorem gX7_request_X7_noRequest : GoodIn wsX7_request (wsV RX7 185 RX7 yX7_noRequest wsX7_noRequest) := goodIn_app (goodIn_of _ (by decide +kernel)) ggX7_request_X7_noRequest
theorem dX7_request_0 : decode cX7_request 0 = .ok (.aload_n 0, 1) := by decide +kernel
theorem dX7_request_1 : decode cX7_request 1 = .ok (.aload_n 0, 1) := by decide +kernel
theorem dX7_request_2 : decode cX7_request 2 = .ok (.iload_n 1, 1) := by decide +kernel
theorem dX7_request_3 : decode cX7_request 3 = .ok (.invokevirtual 185, 3) := by decide +kernel
theorem dX7_request_6 : decode cX7_request 6 = .ok (.ifCond .ne 12, 3) := by decide +kernel
theorem dX7_request_9 : decode cX7_request 9 = .ok (.iload_n 2, 1) := by decide +kernel
theorem dX7_request_10 : decode cX7_request 10 = .ok (.ifCond .lt 8, 3) := by decide +kernel
theorem dX7_request_13 : decode cX7_request 13 = .ok (.iload_n 2, 1) := by decide +kernel
theorem dX7_request_14 : decode cX7_request 14 = .ok (.iconst 3, 1) := by decide +kernel
theorem dX7_request_15 : decode cX7_request 15 = .ok (.if_icmp .le 7, 3) := by decide +kernel
theorem dX7_request_18 : decode cX7_request 18 = .ok (.iconst 1, 1) := by decide +kernel
theorem dX7_request_19 : decode cX7_request 19 = .ok (.goto 4, 3) := by decide +kernel
theorem dX7_request_22 : decode cX7_request 22 = .ok (.iconst 0, 1) := by decide +kernel
theorem dX7_request_23 : decode cX7_request 23 = .ok (.putfield 120, 3) := by decide +kernel
theorem dX7_request_26 : decode cX7_request 26 = .ok (.aload_n 0, 1) := by decide +kernel
theorem dX7_request_27 : decode cX7_request 27 = .ok (.getfield 120, 3) := by decide +kernel
theorem dX7_request_30 : decode cX7_request 30 = .ok (.ifCond .le 5, 3) := by decide +kernel
theorem dX7_request_33 : decode cX7_request 33 = .ok (.iconst 0, 1) := by decide +kernel
theorem dX7_request_34 : decode cX7_request 34 = .ok (.ireturn, 1) := by decide +kernel
theorem dX7_request_35 : decode cX7_request 35 = .ok (.aload_n 0, 1) := by decide +kernel
theorem dX7_request_36 : decode cX7_request 36 = .ok (.getfield 105, 3) := by decide +kernel
theorem dX7_request_39 : decode cX7_request 39 = .ok (.iload_n 1, 1) := by decide +kernel
theorem dX7_request_40 : decode cX7_request 40 = .ok (.iaload, 1) := by decide +kernel
theorem dX7_request_41 : decode cX7_request 41 = .ok (.iconst 1, 1) := by decide +kernel
theorem dX7_request_42 : decode cX7_request 42 = .ok (.if_icmp .ne 7, 3) := by decide +kernel
theorem dX7_request_45 : decode cX7_request 45 = .ok (.iconst 1, 1) := by decide +kernel
theorem dX7_request_46 : decode cX7_request 46 = .ok (.goto 4, 3) := by decide +kernel
theorem dX7_request_49 : decode cX7_request 49 = .ok (.iconst 0, 1) := by decide +kernel
theorem dX7_request_50 : decode cX7_request 50 = .ok (.istore_n 3, 1) := by decide +kernel
theorem dX7_request_51 : decode cX7_request 51 = .ok (.iload_n 2, 1) := by decide +kernel
theorem dX7_request_52 : decode cX7_request 52 = .ok (.ifCond .ne 12, 3) := by decide +kernel
theorem dX7_request_55 : decode cX7_request 55 = .ok (.aload_n 0, 1) := by decide +kernel
theorem dX7_request_56 : decode cX7_request 56 = .ok (.getfield 105, 3) := by decide +kernel
theorem dX7_request_59 : decode cX7_request 59 = .ok (.iload_n 1, 1) := by decide +kernel
theorem dX7_request_60 : decode cX7_request 60 = .ok (.iaload, 1) := by decide +kernel
theorem dX7_request_61 : decode cX7_request 61 = .ok (.goto 66, 3) := by decide +kernel
theorem dX7_request_64 : decode cX7_request 64 = .ok (.iload_n 2, 1) := by decide +kernel
theorem dX7_request_65 : decode cX7_request 65 = .ok (.iconst 1, 1) := by decide +kernel
theorem dX7_request_66 : decode cX7_request 66 = .ok (.if_icmp .ne 24, 3) := by decide +kernel
theorem dX7_request_69 : decode cX7_request 69 = .ok (.iload_n 3, 1) := by decide +kernel
theorem dX7_request_70 : decode cX7_request 70 = .ok (.ifCond .eq 16, 3) := by decide +kernel
theorem dX7_request_73 : decode cX7_request 73 = .ok (.aload_n 0, 1) := by decide +kernel
theorem dX7_request_74 : decode cX7_request 74 = .ok (.getfield 108, 3) := by decide +kernel
theorem dX7_request_77 : decode cX7_request 77 = .ok (.iload_n 1, 1) := by decide +kernel
theorem dX7_request_78 : decode cX7_request 78 = .ok (.baload, 1) := by decide +kernel
theorem dX7_request_79 : decode cX7_request 79 = .ok (.ifCond .eq 7, 3) := by decide +kernel
theorem dX7_request_82 : decode cX7_request 82 = .ok (.iconst 1, 1) := by decide +kernel
theorem dX7_request_83 : decode cX7_request 83 = .ok (.goto 44, 3) := by decide +kernel
theorem dX7_request_86 : decode cX7_request 86 = .ok (.iconst 0, 1) := by decide +kernel
theorem dX7_request_87 : decode cX7_request 87 = .ok (.goto 40, 3) := by decide +kernel
theorem dX7_request_90 : decode cX7_request 90 = .ok (.iload_n 2, 1) := by decide +kernel
theorem dX7_request_91 : decode cX7_request 91 = .ok (.iconst 2, 1) := by decide +kernel
theorem dX7_request_92 : decode cX7_request 92 = .ok (.if_icmp .ne 29, 3) := by decide +kernel
theorem dX7_request_95 : decode cX7_request 95 = .ok (.iload_n 3, 1) := by decide +kernel
theorem dX7_request_96 : decode cX7_request 96 = .ok (.ifCond .eq 21, 3) := by decide +kernel
theorem dX7_request_99 : decode cX7_request 99 = .ok (.aload_n 0, 1) := by decide +kernel
theorem dX7_request_100 : decode cX7_request 100 = .ok (.getfield 111, 3) := by decide +kernel
theorem dX7_request_103 : decode cX7_request 103 = .ok (.iload_n 1, 1) := by decide +kernel
theorem dX7_request_104 : decode cX7_request 104 = .ok (.baload, 1) := by decide +kernel
theorem dX7_request_105 : decode cX7_request 105 = .ok (.ifCond .eq 12, 3) := by decide +kernel
theorem dX7_request_108 : decode cX7_request 108 = .ok (.aload_n 0, 1) := by decide +kernel
theorem dX7_request_109 : decode cX7_request 109 = .ok (.getfield 114, 3) := by decide +kernel
theorem dX7_request_112 : decode cX7_request 112 = .ok (.iload_n 1, 1) := by decide +kernel
theorem dX7_request_113 : decode cX7_request 113 = .ok (.iaload, 1) := by decide +kernel
theorem dX7_request_114 : decode cX7_request 114 = .ok (.goto 13, 3) := by decide +kernel
theorem dX7_request_117 : decode cX7_request 117 = .ok (.iconst (-1), 1) := by decide +kernel
theorem dX7_request_118 : decode cX7_request 118 = .ok (.goto 9, 3) := by decide +kernel
theorem dX7_request_121 : decode cX7_request 121 = .ok (.aload_n 0, 1) := by decide +kernel
theorem dX7_request_122 : decode cX7_request 122 = .ok (.getfield 102, 3) := by decide +kernel
theorem dX7_request_125 : decode cX7_request 125 = .ok (.iload_n 1, 1) := by decide +kernel
theorem dX7_request_126 : decode cX7_request 126 = .ok (.iaload, 1) := by decide +kernel
theorem dX7_request_127 : decode cX7_request 127 = .ok (.ireturn, 1) := by decide +kernel
set_option maxRecDepth 20000 in
theorem ggX7_result_X7_noRequest : GoodIn wsX7_result wsX7_noRequest := goodIn_r _ [9, 10, 11, 12, 13, 14, 15, 16, 17, 18, 19, 20, 21, 22, 23, 24, 25, 26, 27, 28, 29, 30, 31, 32, 33, 34, 35, 36, 37, 38, 39, 40, 41, 42, 43, 44, 45, 46, 47, 48, 49] (by decide +kernel) (by decide +kernel)
set_option maxRecDepth 20000 in
theorem gX7_result_X7_noRequest : GoodIn wsX7_result (wsV RX7 185 RX7 yX7_noRequest wsX7_noRequest) := goodIn_app (goodIn_of _ (by decide +kernel)) ggX7_result_X7_noRequest
theorem dX7_result_0 : decode cX7_result 0 = .ok (.aload_n 0, 1) := by decide +kernel
theorem dX7_result_1 : decode cX7_result 1 = .ok (.aload_n 0, 1) := by decide +kernel
theorem dX7_result_2 : decode cX7_result 2 = .ok (.iload_n 1, 1) := by decide +kernel
theorem dX7_result_3 : decode cX7_result 3 = .ok (.invokevirtual 185, 3) := by decide +kernel
theorem dX7_result_6 : decode cX7_result 6 = .ok (.ifCond .eq 7, 3) := by decide +kernel
theorem dX7_result_9 : decode cX7_result 9 = .ok (.iconst 1, 1) := by decide +kernel
theorem dX7_result_10 : decode cX7_result 10 = .ok (.goto 4, 3) := by decide +kernel
theorem dX7_result_13 : decode cX7_result 13 = .ok (.iconst 0, 1) := by decide +kernel
theorem dX7_result_14 : decode cX7_result 14 = .ok (.putfield 120, 3) := by decide +kernel
theorem dX7_result_17 : decode cX7_result 17 = .ok (.aload_n 0, 1) := by decide +kernel
theorem dX7_result_18 : decode cX7_result 18 = .ok (.getfield 120, 3) := by decide +kernel
theorem dX7_result_21 : decode cX7_result 21 = .ok (.ifCond .ne 31, 3) := by decide +kernel
theorem dX7_result_24 : decode cX7_result 24 = .ok (.aload_n 0, 1) := by decide +kernel
theorem dX7_result_25 : decode cX7_result 25 = .ok (.getfield 105, 3) := by decide +kernel
theorem dX7_result_28 : decode cX7_result 28 = .ok (.iload_n 1, 1) := by decide +kernel
theorem dX7_result_29 : decode cX7_result 29 = .ok (.iaload, 1) := by decide +kernel
theorem dX7_result_30 : decode cX7_result 30 = .ok (.iconst 1, 1) := by decide +kernel
theorem dX7_result_31 : decode cX7_result 31 = .ok (.if_icmp .ne 21, 3) := by decide +kernel
theorem dX7_result_34 : decode cX7_result 34 = .ok (.aload_n 0, 1) := by decide +kernel
theorem dX7_result_35 : decode cX7_result 35 = .ok (.getfield 111, 3) := by decide +kernel
theorem dX7_result_38 : decode cX7_result 38 = .ok (.iload_n 1, 1) := by decide +kernel
theorem dX7_result_39 : decode cX7_result 39 = .ok (.baload, 1) := by decide +kernel
theorem dX7_result_40 : decode cX7_result 40 = .ok (.ifCond .eq 12, 3) := by decide +kernel
theorem dX7_result_43 : decode cX7_result 43 = .ok (.aload_n 0, 1) := by decide +kernel
theorem dX7_result_44 : decode cX7_result 44 = .ok (.getfield 117, 3) := by decide +kernel
theorem dX7_result_47 : decode cX7_result 47 = .ok (.iload_n 1, 1) := by decide +kernel
theorem dX7_result_48 : decode cX7_result 48 = .ok (.laload, 1) := by decide +kernel
theorem dX7_result_49 : decode cX7_result 49 = .ok (.goto 4, 3) := by decide +kernel
theorem dX7_result_52 : decode cX7_result 52 = .ok (.lconst 0, 1) := by decide +kernel
theorem dX7_result_53 : decode cX7_result 53 = .ok (.lreturn, 1) := by decide +kernel
theorem dJ6_bitCount_0f7a4_0 : decode cJ6_bitCount_0f7a4 0 = .ok (.iload_n 0, 1) := by decide +kernel
theorem dJ6_bitCount_0f7a4_1 : decode cJ6_bitCount_0f7a4 1 = .ok (.iload_n 0, 1) := by decide +kernel
theorem dJ6_bitCount_0f7a4_2 : decode cJ6_bitCount_0f7a4 2 = .ok (.iconst 1, 1) := by decide +kernel
theorem dJ6_bitCount_0f7a4_3 : decode cJ6_bitCount_0f7a4 3 = .ok (.iushr, 1) := by decide +kernel
theorem dJ6_bitCount_0f7a4_4 : decode cJ6_bitCount_0f7a4 4 = .ok (.ldc_w 265, 3) := by decide +kernel
theorem dJ6_bitCount_0f7a4_7 : decode cJ6_bitCount_0f7a4 7 = .ok (.iand, 1) := by decide +kernel
theorem dJ6_bitCount_0f7a4_8 : decode cJ6_bitCount_0f7a4 8 = .ok (.isub, 1) := by decide +kernel
theorem dJ6_bitCount_0f7a4_9 : decode cJ6_bitCount_0f7a4 9 = .ok (.istore_n 0, 1) := by decide +kernel
theorem dJ6_bitCount_0f7a4_10 : decode cJ6_bitCount_0f7a4 10 = .ok (.iload_n 0, 1) := by decide +kernel
theorem dJ6_bitCount_0f7a4_11 : decode cJ6_bitCount_0f7a4 11 = .ok (.ldc_w 266, 3) := by decide +kernel
theorem dJ6_bitCount_0f7a4_14 : decode cJ6_bitCount_0f7a4 14 = .ok (.iand, 1) := by decide +kernel
theorem dJ6_bitCount_0f7a4_15 : decode cJ6_bitCount_0f7a4 15 = .ok (.iload_n 0, 1) := by decide +kernel
theorem dJ6_bitCount_0f7a4_16 : decode cJ6_bitCount_0f7a4 16 = .ok (.iconst 2, 1) := by decide +kernel
theorem dJ6_bitCount_0f7a4_17 : decode cJ6_bitCount_0f7a4 17 = .ok (.iushr, 1) := by decide +kernel
theorem dJ6_bitCount_0f7a4_18 : decode cJ6_bitCount_0f7a4 18 = .ok (.ldc_w 266, 3) := by decide +kernel
theorem dJ6_bitCount_0f7a4_21 : decode cJ6_bitCount_0f7a4 21 = .ok (.iand, 1) := by decide +kernel
theorem dJ6_bitCount_0f7a4_22 : decode cJ6_bitCount_0f7a4 22 = .ok (.iadd, 1) := by decide +kernel
theorem dJ6_bitCount_0f7a4_23 : decode cJ6_bitCount_0f7a4 23 = .ok (.istore_n 0, 1) := by decide +kernel
theorem dJ6_bitCount_0f7a4_24 : decode cJ6_bitCount_0f7a4 24 = .ok (.iload_n 0, 1) := by decide +kernel
theorem dJ6_bitCount_0f7a4_25 : decode cJ6_bitCount_0f7a4 25 = .ok (.iload_n 0, 1) := by decide +kernel
theorem dJ6_bitCount_0f7a4_26 : decode cJ6_bitCount_0f7a4 26 = .ok (.iconst 4, 1) := by decide +kernel
theorem dJ6_bitCount_0f7a4_27 : decode cJ6_bitCount_0f7a4 27 = .ok (.iushr, 1) := by decide +kernel
theorem dJ6_bitCount_0f7a4_28 : decode cJ6_bitCount_0f7a4 28 = .ok (.iadd, 1) := by decide +kernel
theorem dJ6_bitCount_0f7a4_29 : decode cJ6_bitCount_0f7a4 29 = .ok (.ldc_w 267, 3) := by decide +kernel
theorem dJ6_bitCount_0f7a4_32 : decode cJ6_bitCount_0f7a4 32 = .ok (.iand, 1) := by decide +kernel
theorem dJ6_bitCount_0f7a4_33 : decode cJ6_bitCount_0f7a4 33 = .ok (.istore_n 0, 1) := by decide +kernel
theorem dJ6_bitCount_0f7a4_34 : decode cJ6_bitCount_0f7a4 34 = .ok (.iload_n 0, 1) := by decide +kernel
theorem dJ6_bitCount_0f7a4_35 : decode cJ6_bitCount_0f7a4 35 = .ok (.iload_n 0, 1) := by decide +kernel
theorem dJ6_bitCount_0f7a4_36 : decode cJ6_bitCount_0f7a4 36 = .ok (.bipush 8, 2) := by decide +kernel
theorem dJ6_bitCount_0f7a4_38 : decode cJ6_bitCount_0f7a4 38 = .ok (.iushr, 1) := by decide +kernel
theorem dJ6_bitCount_0f7a4_39 : decode cJ6_bitCount_0f7a4 39 = .ok (.iadd, 1) := by decide +kernel
theorem dJ6_bitCount_0f7a4_40 : decode cJ6_bitCount_0f7a4 40 = .ok (.istore_n 0, 1) := by decide +kernel
theorem dJ6_bitCount_0f7a4_41 : decode cJ6_bitCount_0f7a4 41 = .ok (.iload_n 0, 1) := by decide +kernel
theorem dJ6_bitCount_0f7a4_42 : decode cJ6_bitCount_0f7a4 42 = .ok (.iload_n 0, 1) := by decide +kernel
theorem dJ6_bitCount_0f7a4_43 : decode cJ6_bitCount_0f7a4 43 = .ok (.bipush 16, 2) := by decide +kernel
theorem dJ6_bitCount_0f7a4_45 : decode cJ6_bitCount_0f7a4 45 = .ok (.iushr, 1) := by decide +kernel
theorem dJ6_bitCount_0f7a4_46 : decode cJ6_bitCount_0f7a4 46 = .ok (.iadd, 1) := by decide +kernel
theorem dJ6_bitCount_0f7a4_47 : decode cJ6_bitCount_0f7a4 47 = .ok (.istore_n 0, 1) := by decide +kernel
theorem dJ6_bitCount_0f7a4_48 : decode cJ6_bitCount_0f7a4 48 = .ok (.iload_n 0, 1) := by decide +kernel
theorem dJ6_bitCount_0f7a4_49 : decode cJ6_bitCount_0f7a4 49 = .ok (.bipush 63, 2) := by decide +kernel
theorem dJ6_bitCount_0f7a4_51 : decode cJ6_bitCount_0f7a4 51 = .ok (.iand, 1) := by decide +kernel
theorem dJ6_bitCount_0f7a4_52 : decode cJ6_bitCount_0f7a4 52 = .ok (.ireturn, 1) := by decide +kernel
theorem dJ9_max_7cf53_0 : decode cJ9_max_7cf53 0 = .ok (.iload_n 0, 1) := by decide +kernel
theorem dJ9_max_7cf53_1 : decode cJ9_max_7cf53 1 = .ok (.iload_n 1, 1) := by decide +kernel
theorem dJ9_max_7cf53_2 : decode cJ9_max_7cf53 2 = .ok (.if_icmp .lt 7, 3) := by decide +kernel
theorem dJ9_max_7cf53_5 : decode cJ9_max_7cf53 5 = .ok (.iload_n 0, 1) := by decide +kernel
theorem dJ9_max_7cf53_6 : decode cJ9_max_7cf53 6 = .ok (.goto 4, 3) := by decide +kernel
theorem dJ9_max_7cf53_9 : decode cJ9_max_7cf53 9 = .ok (.iload_n 1, 1) := by decide +kernel
theorem dJ9_max_7cf53_10 : decode cJ9_max_7cf53 10 = .ok (.ireturn, 1) := by decide +kernel
set_option maxRecDepth 20000 in
theorem ggL_ask_X6_ask : GoodIn wsL_ask wsX6_ask := goodIn_ca (goodIn_ca (goodIn_r _ [7, 8, 9, 10, 11, 12, 13, 14, 15, 16, 6, 17, 18, 19, 20, 21, 22, 23, 24, 25, 26, 27, 28, 29, 30, 31, 32, 33, 34, 35, 36, 37, 38, 39, 40, 41, 42, 43, 44, 45, 46, 47, 48, 49, 50, 51, 52, 53, 54, 55, 56, 57, 58, 59, 60, 61, 62, 63, 64, 65, 66, 67, 68, 69, 70, 71, 72, 73, 74, 75, 76, 77, 78, 79, 80, 81, 82, 83, 84, 85, 86, 87, 88, 89, 90, 91] (by decide +kernel) (by decide +kernel)) (goodIn_sub (fun _ h => List.mem_cons_of_mem _ (List.mem_append_left _ (List.mem_append_right _ h))) (by decide +kernel))) (goodIn_sub (fun _ h => List.mem_cons_of_mem _ (List.mem_append_right _ h)) (by decide +kernel))
set_option maxRecDepth 20000 in
theorem gL_ask_X6_ask : GoodIn wsL_ask (wsV RL 7 RX6 yX6_ask wsX6_ask) := goodIn_app (goodIn_of _ (by decide +kernel)) ggL_ask_X6_ask
theorem dL_ask_0 : decode cL_ask 0 = .ok (.aload 6, 2) := by decide +kernel
theorem dL_ask_2 : decode cL_ask 2 = .ok (.iconst 0, 1) := by decide +kernel
theorem dL_ask_3 : decode cL_ask 3 = .ok (.aload_n 0, 1) := by decide +kernel
theorem dL_ask_4 : decode cL_ask 4 = .ok (.iload_n 1, 1) := by decide +kernel
theorem dL_ask_5 : decode cL_ask 5 = .ok (.iload_n 2, 1) := by decide +kernel
theorem dL_ask_6 : decode cL_ask 6 = .ok (.iload_n 3, 1) := by decide +kernel
theorem dL_ask_7 : decode cL_ask 7 = .ok (.lload 4, 2) := by decide +kernel
theorem dL_ask_9 : decode cL_ask 9 = .ok (.invokevirtual 7, 3) := by decide +kernel
theorem dL_ask_12 : decode cL_ask 12 = .ok (.i2l, 1) := by decide +kernel
theorem dL_ask_13 : decode cL_ask 13 = .ok (.lastore, 1) := by decide +kernel
theorem dL_ask_14 : decode cL_ask 14 = .ok (.goto 11, 3) := by decide +kernel
theorem dL_ask_17 : decode cL_ask 17 = .ok (.astore 7, 2) := by decide +kernel
theorem dL_ask_19 : decode cL_ask 19 = .ok (.iconst 1, 1) := by decide +kernel
theorem dL_ask_20 : decode cL_ask 20 = .ok (.ireturn, 1) := by decide +kernel
theorem dL_ask_21 : decode cL_ask 21 = .ok (.astore 7, 2) := by decide +kernel
theorem dL_ask_23 : decode cL_ask 23 = .ok (.iconst 2, 1) := by decide +kernel
theorem dL_ask_24 : decode cL_ask 24 = .ok (.ireturn, 1) := by decide +kernel
theorem dL_ask_25 : decode cL_ask 25 = .ok (.iconst 0, 1) := by decide +kernel
theorem dL_ask_26 : decode cL_ask 26 = .ok (.ireturn, 1) := by decide +kernel
set_option maxRecDepth 20000 in
theorem ggL_give_X6_give : GoodIn wsL_give wsX6_give := goodIn_ca (goodIn_r _ [6, 7, 8, 9, 5, 10, 11, 12, 13, 14, 15, 16, 17, 18, 19, 20, 21, 22, 23, 24, 25, 26, 27, 28, 29, 30, 31, 32, 33, 34, 35, 36, 37, 38, 39, 40, 41, 42] (by decide +kernel) (by decide +kernel)) (goodIn_sub (fun _ h => List.mem_cons_of_mem _ (List.mem_append_right _ h)) (by decide +kernel))
set_option maxRecDepth 20000 in
theorem gL_give_X6_give : GoodIn wsL_give (wsV RL 17 RX6 yX6_give wsX6_give) := goodIn_app (goodIn_of _ (by decide +kernel)) ggL_give_X6_give
theorem dL_give_0 : decode cL_give 0 = .ok (.aload_n 2, 1) := by decide +kernel
theorem dL_give_1 : decode cL_give 1 = .ok (.iconst 0, 1) := by decide +kernel
theorem dL_give_2 : decode cL_give 2 = .ok (.aload_n 0, 1) := by decide +kernel
theorem dL_give_3 : decode cL_give 3 = .ok (.iload_n 1, 1) := by decide +kernel
theorem dL_give_4 : decode cL_give 4 = .ok (.invokevirtual 17, 3) := by decide +kernel
theorem dL_give_7 : decode cL_give 7 = .ok (.i2l, 1) := by decide +kernel
theorem dL_give_8 : decode cL_give 8 = .ok (.lastore, 1) := by decide +kernel
theorem dL_give_9 : decode cL_give 9 = .ok (.goto 6, 3) := by decide +kernel
theorem dL_give_12 : decode cL_give 12 = .ok (.astore_n 3, 1) := by decide +kernel
theorem dL_give_13 : decode cL_give 13 = .ok (.iconst 1, 1) := by decide +kernel
theorem dL_give_14 : decode cL_give 14 = .ok (.ireturn, 1) := by decide +kernel
theorem dL_give_15 : decode cL_give 15 = .ok (.iconst 0, 1) := by decide +kernel
theorem dL_give_16 : decode cL_give 16 = .ok (.ireturn, 1) := by decide +kernel
set_option maxRecDepth 20000 in
theorem ggL_plan_X6_plan : GoodIn wsL_plan wsX6_plan := goodIn_ca (goodIn_ca (goodIn_r _ [7, 8, 9, 10, 6, 11, 12, 13, 14, 15, 16, 17, 18, 19, 20, 21, 22, 23, 24, 25, 26, 27, 28, 29, 30, 31, 32, 33, 34, 35, 36, 37] (by decide +kernel) (by decide +kernel)) (goodIn_sub (fun _ h => List.mem_cons_of_mem _ (List.mem_append_left _ (List.mem_append_right _ h))) (by decide +kernel))) (goodIn_sub (fun _ h => List.mem_cons_of_mem _ (List.mem_append_right _ h)) (by decide +kernel))
set_option maxRecDepth 20000 in
theorem gL_plan_X6_plan : GoodIn wsL_plan (wsV RL 21 RX6 yX6_plan wsX6_plan) := goodIn_app (goodIn_of _ (by decide +kernel)) ggL_plan_X6_plan
theorem dL_plan_0 : decode cL_plan 0 = .ok (.aload_n 0, 1) := by decide +kernel
theorem dL_plan_1 : decode cL_plan 1 = .ok (.iload_n 1, 1) := by decide +kernel
theorem dL_plan_2 : decode cL_plan 2 = .ok (.iload_n 2, 1) := by decide +kernel
theorem dL_plan_3 : decode cL_plan 3 = .ok (.iload_n 3, 1) := by decide +kernel
theorem dL_plan_4 : decode cL_plan 4 = .ok (.iload 4, 2) := by decide +kernel
theorem dL_plan_6 : decode cL_plan 6 = .ok (.invokevirtual 21, 3) := by decide +kernel
theorem dL_plan_9 : decode cL_plan 9 = .ok (.goto 11, 3) := by decide +kernel
theorem dL_plan_12 : decode cL_plan 12 = .ok (.astore 5, 2) := by decide +kernel
theorem dL_plan_14 : decode cL_plan 14 = .ok (.iconst 1, 1) := by decide +kernel
theorem dL_plan_15 : decode cL_plan 15 = .ok (.ireturn, 1) := by decide +kernel
theorem dL_plan_16 : decode cL_plan 16 = .ok (.astore 5, 2) := by decide +kernel
theorem dL_plan_18 : decode cL_plan 18 = .ok (.iconst 2, 1) := by decide +kernel
theorem dL_plan_19 : decode cL_plan 19 = .ok (.ireturn, 1) := by decide +kernel
theorem dL_plan_20 : decode cL_plan 20 = .ok (.iconst 0, 1) := by decide +kernel
theorem dL_plan_21 : decode cL_plan 21 = .ok (.ireturn, 1) := by decide +kernel
set_option maxRecDepth 20000 in
theorem ggL_take_X6_take : GoodIn wsL_take wsX6_take := goodIn_ca (goodIn_r _ [6, 7, 8, 9, 5, 10, 11, 12, 13, 14, 15, 16, 17, 18, 19, 20, 21, 22, 23, 24, 25, 26, 27, 28, 29, 30, 31, 32, 33, 34, 35, 36, 37, 38, 39, 40, 41, 42, 43, 44, 45, 46, 47, 48, 49, 50, 51, 52, 53, 54, 55, 56, 57, 58, 59, 60, 61, 62, 63, 64, 65, 66, 67, 68, 69, 70, 71, 72, 73, 74, 75, 76, 77, 78, 79, 80, 81, 82, 83, 84, 85, 86, 87, 88, 89, 90, 91, 92, 93, 94, 95, 96, 97, 98, 99, 100, 101, 102, 103, 104, 105, 106, 107, 108, 109, 110, 111, 112, 113, 114, 115, 116, 117, 118, 119, 120, 121, 122, 123, 124, 125, 126, 127, 128, 129, 130, 131, 132, 133, 134, 135, 136, 137, 138, 139, 140, 141, 142, 143, 144, 145, 146, 147, 148, 149, 150, 151, 152, 153, 154, 155, 156, 157, 158, 159, 160, 161, 162, 163, 164, 165, 166, 167, 168, 169, 170, 171, 172, 173, 174, 175, 176, 177, 178] (by decide +kernel) (by decide +kernel)) (goodIn_sub (fun _ h => List.mem_cons_of_mem _ (List.mem_append_right _ h)) (by decide +kernel))
set_option maxRecDepth 20000 in
theorem gL_take_X6_take : GoodIn wsL_take (wsV RL 25 RX6 yX6_take wsX6_take) := goodIn_app (goodIn_of _ (by decide +kernel)) ggL_take_X6_take
theorem dL_take_0 : decode cL_take 0 = .ok (.aload_n 2, 1) := by decide +kernel
theorem dL_take_1 : decode cL_take 1 = .ok (.iconst 0, 1) := by decide +kernel
theorem dL_take_2 : decode cL_take 2 = .ok (.aload_n 0, 1) := by decide +kernel
theorem dL_take_3 : decode cL_take 3 = .ok (.iload_n 1, 1) := by decide +kernel
theorem dL_take_4 : decode cL_take 4 = .ok (.invokevirtual 25, 3) := by decide +kernel
theorem dL_take_7 : decode cL_take 7 = .ok (.i2l, 1) := by decide +kernel
theorem dL_take_8 : decode cL_take 8 = .ok (.lastore, 1) := by decide +kernel
theorem dL_take_9 : decode cL_take 9 = .ok (.goto 6, 3) := by decide +kernel
theorem dL_take_12 : decode cL_take 12 = .ok (.astore_n 3, 1) := by decide +kernel
theorem dL_take_13 : decode cL_take 13 = .ok (.iconst 1, 1) := by decide +kernel
theorem dL_take_14 : decode cL_take 14 = .ok (.ireturn, 1) := by decide +kernel
theorem dL_take_15 : decode cL_take 15 = .ok (.iconst 0, 1) := by decide +kernel
theorem dL_take_16 : decode cL_take 16 = .ok (.ireturn, 1) := by decide +kernel
set_option maxRecDepth 20000 in
theorem ggL_run_X6_run : GoodIn wsL_run wsX6_run := goodIn_ca (goodIn_r _ [6, 7, 8, 9, 5, 10, 11, 12, 13, 14, 15, 16, 17, 18, 19, 20, 21, 22, 23, 24, 25, 26, 27, 28, 29, 30, 31, 32, 33, 34, 35, 36, 37, 38, 39, 40, 41, 42, 43, 44, 45, 46, 47, 48, 49, 50, 51, 52, 53, 54, 55, 56, 57, 58, 59, 60, 61, 62, 63, 64, 65, 66, 67, 68, 69, 70, 71, 72, 73, 74, 75, 76, 77, 78, 79, 80, 81, 82, 83, 84, 85, 86, 87, 88, 89, 90, 91, 92, 93, 94, 95, 96, 97, 98, 99, 100, 101, 102, 103, 104, 105, 106, 107, 108, 109, 110, 111, 112, 113, 114, 115, 116, 117, 118, 119, 120, 121, 122, 123, 124, 125, 126, 127, 128, 129, 130, 131, 132, 133, 134, 135, 136, 137, 138, 139, 140, 141, 142, 143, 144, 145, 146, 147, 148, 149, 150, 151, 152, 153, 154, 155, 156, 157, 158, 159, 160, 161, 162, 163, 164, 165, 166, 167, 168, 169, 170, 171, 172, 173, 174, 175, 176, 177, 178] (by decide +kernel) (by decide +kernel)) (goodIn_sub (fun _ h => List.mem_cons_of_mem _ (List.mem_append_right _ h)) (by decide +kernel))
set_option maxRecDepth 20000 in
theorem gL_run_X6_run : GoodIn wsL_run (wsV RL 28 RX6 yX6_run wsX6_run) := goodIn_app (goodIn_of _ (by decide +kernel)) ggL_run_X6_run
theorem dL_run_0 : decode cL_run 0 = .ok (.aload_n 2, 1) := by decide +kernel
theorem dL_run_1 : decode cL_run 1 = .ok (.iconst 0, 1) := by decide +kernel
theorem dL_run_2 : decode cL_run 2 = .ok (.aload_n 0, 1) := by decide +kernel
theorem dL_run_3 : decode cL_run 3 = .ok (.iload_n 1, 1) := by decide +kernel
theorem dL_run_4 : decode cL_run 4 = .ok (.invokevirtual 28, 3) := by decide +kernel
theorem dL_run_7 : decode cL_run 7 = .ok (.i2l, 1) := by decide +kernel
theorem dL_run_8 : decode cL_run 8 = .ok (.lastore, 1) := by decide +kernel
theorem dL_run_9 : decode cL_run 9 = .ok (.goto 6, 3) := by decide +kernel
theorem dL_run_12 : decode cL_run 12 = .ok (.astore_n 3, 1) := by decide +kernel
theorem dL_run_13 : decode cL_run 13 = .ok (.iconst 1, 1) := by decide +kernel
theorem dL_run_14 : decode cL_run 14 = .ok (.ireturn, 1) := by decide +kernel
theorem dL_run_15 : decode cL_run 15 = .ok (.iconst 0, 1) := by decide +kernel
theorem dL_run_16 : decode cL_run 16 = .ok (.ireturn, 1) := by decide +kernel
set_option maxRecDepth 20000 in
theorem ggL_lose_X6_lose : GoodIn wsL_lose wsX6_lose := goodIn_ca (goodIn_r _ [6, 7, 8, 9, 5, 10, 11, 12, 13, 14, 15, 16, 17, 18, 19, 20, 21, 22, 23, 24, 25, 26, 27, 28, 29, 30, 31, 32, 33, 34] (by decide +kernel) (by decide +kernel)) (goodIn_sub (fun _ h => List.mem_cons_of_mem _ (List.mem_append_right _ h)) (by decide +kernel))
set_option maxRecDepth 20000 in
theorem gL_lose_X6_lose : GoodIn wsL_lose (wsV RL 31 RX6 yX6_lose wsX6_lose) := goodIn_app (goodIn_of _ (by decide +kernel)) ggL_lose_X6_lose
theorem dL_lose_0 : decode cL_lose 0 = .ok (.aload_n 2, 1) := by decide +kernel
theorem dL_lose_1 : decode cL_lose 1 = .ok (.iconst 0, 1) := by decide +kernel
theorem dL_lose_2 : decode cL_lose 2 = .ok (.aload_n 0, 1) := by decide +kernel
theorem dL_lose_3 : decode cL_lose 3 = .ok (.iload_n 1, 1) := by decide +kernel
theorem dL_lose_4 : decode cL_lose 4 = .ok (.invokevirtual 31, 3) := by decide +kernel
theorem dL_lose_7 : decode cL_lose 7 = .ok (.i2l, 1) := by decide +kernel
theorem dL_lose_8 : decode cL_lose 8 = .ok (.lastore, 1) := by decide +kernel
theorem dL_lose_9 : decode cL_lose 9 = .ok (.goto 6, 3) := by decide +kernel
theorem dL_lose_12 : decode cL_lose 12 = .ok (.astore_n 3, 1) := by decide +kernel
theorem dL_lose_13 : decode cL_lose 13 = .ok (.iconst 1, 1) := by decide +kernel
theorem dL_lose_14 : decode cL_lose 14 = .ok (.ireturn, 1) := by decide +kernel
theorem dL_lose_15 : decode cL_lose 15 = .ok (.iconst 0, 1) := by decide +kernel
theorem dL_lose_16 : decode cL_lose 16 = .ok (.ireturn, 1) := by decide +kernel
set_option maxRecDepth 20000 in
theorem ggL_twice_X6_twice : GoodIn wsL_twice wsX6_twice := goodIn_ca (goodIn_r _ [6, 7, 8, 9, 5, 10, 11, 12, 13, 14, 15, 16, 17, 18, 19, 20, 21, 22, 23, 24, 25, 26, 27, 28, 29, 30, 31, 32, 33, 34] (by decide +kernel) (by decide +kernel)) (goodIn_sub (fun _ h => List.mem_cons_of_mem _ (List.mem_append_right _ h)) (by decide +kernel))
set_option maxRecDepth 20000 in
theorem gL_twice_X6_twice : GoodIn wsL_twice (wsV RL 34 RX6 yX6_twice wsX6_twice) := goodIn_app (goodIn_of _ (by decide +kernel)) ggL_twice_X6_twice
theorem dL_twice_0 : decode cL_twice 0 = .ok (.aload_n 2, 1) := by decide +kernel
theorem dL_twice_1 : decode cL_twice 1 = .ok (.iconst 0, 1) := by decide +kernel
theorem dL_twice_2 : decode cL_twice 2 = .ok (.aload_n 0, 1) := by decide +kernel
theorem dL_twice_3 : decode cL_twice 3 = .ok (.iload_n 1, 1) := by decide +kernel
theorem dL_twice_4 : decode cL_twice 4 = .ok (.invokevirtual 34, 3) := by decide +kernel
theorem dL_twice_7 : decode cL_twice 7 = .ok (.i2l, 1) := by decide +kernel
theorem dL_twice_8 : decode cL_twice 8 = .ok (.lastore, 1) := by decide +kernel
theorem dL_twice_9 : decode cL_twice 9 = .ok (.goto 6, 3) := by decide +kernel
theorem dL_twice_12 : decode cL_twice 12 = .ok (.astore_n 3, 1) := by decide +kernel
theorem dL_twice_13 : decode cL_twice 13 = .ok (.iconst 1, 1) := by decide +kernel
theorem dL_twice_14 : decode cL_twice 14 = .ok (.ireturn, 1) := by decide +kernel
theorem dL_twice_15 : decode cL_twice 15 = .ok (.iconst 0, 1) := by decide +kernel
theorem dL_twice_16 : decode cL_twice 16 = .ok (.ireturn, 1) := by decide +kernel
set_option maxRecDepth 20000 in
theorem ggL_down_X6_down : GoodIn wsL_down wsX6_down := goodIn_ca (goodIn_r _ [6, 7, 8, 9, 5, 10, 11, 12, 13, 14, 15, 16, 17, 18, 19] (by decide +kernel) (by decide +kernel)) (goodIn_sub (fun _ h => List.mem_cons_of_mem _ (List.mem_append_right _ h)) (by decide +kernel))
set_option maxRecDepth 20000 in
theorem gL_down_X6_down : GoodIn wsL_down (wsV RL 37 RX6 yX6_down wsX6_down) := goodIn_app (goodIn_of _ (by decide +kernel)) ggL_down_X6_down
theorem dL_down_0 : decode cL_down 0 = .ok (.aload_n 3, 1) := by decide +kernel
theorem dL_down_1 : decode cL_down 1 = .ok (.iconst 0, 1) := by decide +kernel
theorem dL_down_2 : decode cL_down 2 = .ok (.aload_n 0, 1) := by decide +kernel
theorem dL_down_3 : decode cL_down 3 = .ok (.iload_n 1, 1) := by decide +kernel
theorem dL_down_4 : decode cL_down 4 = .ok (.iload_n 2, 1) := by decide +kernel
theorem dL_down_5 : decode cL_down 5 = .ok (.invokevirtual 37, 3) := by decide +kernel
theorem dL_down_8 : decode cL_down 8 = .ok (.ifCond .eq 7, 3) := by decide +kernel
theorem dL_down_11 : decode cL_down 11 = .ok (.lconst 1, 1) := by decide +kernel
theorem dL_down_12 : decode cL_down 12 = .ok (.goto 4, 3) := by decide +kernel
theorem dL_down_15 : decode cL_down 15 = .ok (.lconst 0, 1) := by decide +kernel
theorem dL_down_16 : decode cL_down 16 = .ok (.lastore, 1) := by decide +kernel
theorem dL_down_17 : decode cL_down 17 = .ok (.goto 7, 3) := by decide +kernel
theorem dL_down_20 : decode cL_down 20 = .ok (.astore 4, 2) := by decide +kernel
theorem dL_down_22 : decode cL_down 22 = .ok (.iconst 1, 1) := by decide +kernel
theorem dL_down_23 : decode cL_down 23 = .ok (.ireturn, 1) := by decide +kernel
theorem dL_down_24 : decode cL_down 24 = .ok (.iconst 0, 1) := by decide +kernel
theorem dL_down_25 : decode cL_down 25 = .ok (.ireturn, 1) := by decide +kernel
set_option maxRecDepth 20000 in
theorem ggL_copy_X6_copy : GoodIn wsL_copy wsX6_copy := goodIn_ca (goodIn_r _ [6, 7, 8, 5, 9, 10, 11, 12, 13, 14, 15, 16, 17, 18, 19, 20, 21, 22, 23, 24, 25, 26, 27, 28, 29, 30, 31, 32, 33, 34, 35, 36, 37] (by decide +kernel) (by decide +kernel)) (goodIn_sub (fun _ h => List.mem_cons_of_mem _ (List.mem_append_right _ h)) (by decide +kernel))
set_option maxRecDepth 20000 in
theorem gL_copy_X6_copy : GoodIn wsL_copy (wsV RL 41 RX6 yX6_copy wsX6_copy) := goodIn_app (goodIn_of _ (by decide +kernel)) ggL_copy_X6_copy
theorem dL_copy_0 : decode cL_copy 0 = .ok (.aload_n 3, 1) := by decide +kernel
theorem dL_copy_1 : decode cL_copy 1 = .ok (.iconst 0, 1) := by decide +kernel
theorem dL_copy_2 : decode cL_copy 2 = .ok (.aload_n 0, 1) := by decide +kernel
theorem dL_copy_3 : decode cL_copy 3 = .ok (.iload_n 1, 1) := by decide +kernel
theorem dL_copy_4 : decode cL_copy 4 = .ok (.iload_n 2, 1) := by decide +kernel
theorem dL_copy_5 : decode cL_copy 5 = .ok (.invokevirtual 41, 3) := by decide +kernel
theorem dL_copy_8 : decode cL_copy 8 = .ok (.i2l, 1) := by decide +kernel
theorem dL_copy_9 : decode cL_copy 9 = .ok (.lastore, 1) := by decide +kernel
theorem dL_copy_10 : decode cL_copy 10 = .ok (.goto 7, 3) := by decide +kernel
theorem dL_copy_13 : decode cL_copy 13 = .ok (.astore 4, 2) := by decide +kernel
theorem dL_copy_15 : decode cL_copy 15 = .ok (.iconst 1, 1) := by decide +kernel
theorem dL_copy_16 : decode cL_copy 16 = .ok (.ireturn, 1) := by decide +kernel
theorem dL_copy_17 : decode cL_copy 17 = .ok (.iconst 0, 1) := by decide +kernel
theorem dL_copy_18 : decode cL_copy 18 = .ok (.ireturn, 1) := by decide +kernel
set_option maxRecDepth 20000 in
theorem ggL_message_X6_message : GoodIn wsL_message wsX6_message := goodIn_ca (goodIn_r _ [6, 7, 8, 9, 10, 11, 5, 12, 13, 14, 15, 16, 17, 18, 19, 20, 21, 22, 23, 24, 25, 26, 27, 28, 29, 30, 31, 32, 33, 34, 35, 36, 37] (by decide +kernel) (by decide +kernel)) (goodIn_sub (fun _ h => List.mem_cons_of_mem _ (List.mem_append_right _ h)) (by decide +kernel))
set_option maxRecDepth 20000 in
theorem gL_message_X6_message : GoodIn wsL_message (wsV RL 45 RX6 yX6_message wsX6_message) := goodIn_app (goodIn_of _ (by decide +kernel)) ggL_message_X6_message
theorem dL_message_0 : decode cL_message 0 = .ok (.aload_n 3, 1) := by decide +kernel
theorem dL_message_1 : decode cL_message 1 = .ok (.iconst 0, 1) := by decide +kernel
theorem dL_message_2 : decode cL_message 2 = .ok (.aload_n 0, 1) := by decide +kernel
theorem dL_message_3 : decode cL_message 3 = .ok (.iload_n 1, 1) := by decide +kernel
theorem dL_message_4 : decode cL_message 4 = .ok (.iload_n 2, 1) := by decide +kernel
theorem dL_message_5 : decode cL_message 5 = .ok (.invokevirtual 45, 3) := by decide +kernel
theorem dL_message_8 : decode cL_message 8 = .ok (.i2l, 1) := by decide +kernel
theorem dL_message_9 : decode cL_message 9 = .ok (.lastore, 1) := by decide +kernel
theorem dL_message_10 : decode cL_message 10 = .ok (.goto 7, 3) := by decide +kernel
theorem dL_message_13 : decode cL_message 13 = .ok (.astore 4, 2) := by decide +kernel
theorem dL_message_15 : decode cL_message 15 = .ok (.iconst 1, 1) := by decide +kernel
theorem dL_message_16 : decode cL_message 16 = .ok (.ireturn, 1) := by decide +kernel
theorem dL_message_17 : decode cL_message 17 = .ok (.iconst 0, 1) := by decide +kernel
theorem dL_message_18 : decode cL_message 18 = .ok (.ireturn, 1) := by decide +kernel
set_option maxRecDepth 20000 in
theorem ggL_keeper_X6_keeper : GoodIn wsL_keeper wsX6_keeper := goodIn_ca (goodIn_r _ [6, 7, 8, 9, 10, 5, 11, 12, 13, 14, 15, 16, 17, 18, 19, 20, 21, 22, 23, 24, 25, 26, 27, 28, 29, 30, 31, 32, 33, 34, 35] (by decide +kernel) (by decide +kernel)) (goodIn_sub (fun _ h => List.mem_cons_of_mem _ (List.mem_append_right _ h)) (by decide +kernel))
set_option maxRecDepth 20000 in
theorem gL_keeper_X6_keeper : GoodIn wsL_keeper (wsV RL 48 RX6 yX6_keeper wsX6_keeper) := goodIn_app (goodIn_of _ (by decide +kernel)) ggL_keeper_X6_keeper
theorem dL_keeper_0 : decode cL_keeper 0 = .ok (.aload 4, 2) := by decide +kernel
theorem dL_keeper_2 : decode cL_keeper 2 = .ok (.iconst 0, 1) := by decide +kernel
theorem dL_keeper_3 : decode cL_keeper 3 = .ok (.aload_n 0, 1) := by decide +kernel
theorem dL_keeper_4 : decode cL_keeper 4 = .ok (.iload_n 1, 1) := by decide +kernel
theorem dL_keeper_5 : decode cL_keeper 5 = .ok (.iload_n 2, 1) := by decide +kernel
theorem dL_keeper_6 : decode cL_keeper 6 = .ok (.iload_n 3, 1) := by decide +kernel
theorem dL_keeper_7 : decode cL_keeper 7 = .ok (.invokevirtual 48, 3) := by decide +kernel
theorem dL_keeper_10 : decode cL_keeper 10 = .ok (.i2l, 1) := by decide +kernel
theorem dL_keeper_11 : decode cL_keeper 11 = .ok (.lastore, 1) := by decide +kernel
theorem dL_keeper_12 : decode cL_keeper 12 = .ok (.goto 7, 3) := by decide +kernel
theorem dL_keeper_15 : decode cL_keeper 15 = .ok (.astore 5, 2) := by decide +kernel
theorem dL_keeper_17 : decode cL_keeper 17 = .ok (.iconst 1, 1) := by decide +kernel
theorem dL_keeper_18 : decode cL_keeper 18 = .ok (.ireturn, 1) := by decide +kernel
theorem dL_keeper_19 : decode cL_keeper 19 = .ok (.iconst 0, 1) := by decide +kernel
theorem dL_keeper_20 : decode cL_keeper 20 = .ok (.ireturn, 1) := by decide +kernel
set_option maxRecDepth 20000 in
theorem ggL_kept_X6_kept : GoodIn wsL_kept wsX6_kept := goodIn_ca (goodIn_r _ [6, 7, 8, 5, 9, 10, 11, 12, 13, 14, 15, 16, 17, 18, 19, 20, 21, 22, 23, 24, 25, 26, 27, 28, 29] (by decide +kernel) (by decide +kernel)) (goodIn_sub (fun _ h => List.mem_cons_of_mem _ (List.mem_append_right _ h)) (by decide +kernel))
set_option maxRecDepth 20000 in
theorem gL_kept_X6_kept : GoodIn wsL_kept (wsV RL 52 RX6 yX6_kept wsX6_kept) := goodIn_app (goodIn_of _ (by decide +kernel)) ggL_kept_X6_kept
theorem dL_kept_0 : decode cL_kept 0 = .ok (.aload_n 3, 1) := by decide +kernel
theorem dL_kept_1 : decode cL_kept 1 = .ok (.iconst 0, 1) := by decide +kernel
theorem dL_kept_2 : decode cL_kept 2 = .ok (.aload_n 0, 1) := by decide +kernel
theorem dL_kept_3 : decode cL_kept 3 = .ok (.iload_n 1, 1) := by decide +kernel
theorem dL_kept_4 : decode cL_kept 4 = .ok (.iload_n 2, 1) := by decide +kernel
theorem dL_kept_5 : decode cL_kept 5 = .ok (.invokevirtual 52, 3) := by decide +kernel
theorem dL_kept_8 : decode cL_kept 8 = .ok (.lastore, 1) := by decide +kernel
theorem dL_kept_9 : decode cL_kept 9 = .ok (.goto 7, 3) := by decide +kernel
theorem dL_kept_12 : decode cL_kept 12 = .ok (.astore 4, 2) := by decide +kernel
theorem dL_kept_14 : decode cL_kept 14 = .ok (.iconst 1, 1) := by decide +kernel
theorem dL_kept_15 : decode cL_kept 15 = .ok (.ireturn, 1) := by decide +kernel
theorem dL_kept_16 : decode cL_kept 16 = .ok (.iconst 0, 1) := by decide +kernel
theorem dL_kept_17 : decode cL_kept 17 = .ok (.ireturn, 1) := by decide +kernel
set_option maxRecDepth 20000 in
theorem ggL_asker_X6_asker : GoodIn wsL_asker wsX6_asker := goodIn_ca (goodIn_r _ [6, 7, 8, 9, 10, 11, 5, 12, 13, 14, 15, 16, 17, 18, 19, 20, 21, 22, 23, 24, 25, 26, 27, 28, 29, 30, 31, 32, 33, 34, 35, 36, 37, 38, 39, 40, 41, 42, 43, 44, 45, 46, 47, 48, 49, 50, 51] (by decide +kernel) (by decide +kernel)) (goodIn_sub (fun _ h => List.mem_cons_of_mem _ (List.mem_append_right _ h)) (by decide +kernel))
set_option maxRecDepth 20000 in
theorem gL_asker_X6_asker : GoodIn wsL_asker (wsV RL 56 RX6 yX6_asker wsX6_asker) := goodIn_app (goodIn_of _ (by decide +kernel)) ggL_asker_X6_asker
theorem dL_asker_0 : decode cL_asker 0 = .ok (.aload_n 3, 1) := by decide +kernel
theorem dL_asker_1 : decode cL_asker 1 = .ok (.iconst 0, 1) := by decide +kernel
theorem dL_asker_2 : decode cL_asker 2 = .ok (.aload_n 0, 1) := by decide +kernel
theorem dL_asker_3 : decode cL_asker 3 = .ok (.iload_n 1, 1) := by decide +kernel
theorem dL_asker_4 : decode cL_asker 4 = .ok (.iload_n 2, 1) := by decide +kernel
theorem dL_asker_5 : decode cL_asker 5 = .ok (.invokevirtual 56, 3) := by decide +kernel
theorem dL_asker_8 : decode cL_asker 8 = .ok (.i2l, 1) := by decide +kernel
theorem dL_asker_9 : decode cL_asker 9 = .ok (.lastore, 1) := by decide +kernel
theorem dL_asker_10 : decode cL_asker 10 = .ok (.goto 7, 3) := by decide +kernel
theorem dL_asker_13 : decode cL_asker 13 = .ok (.astore 4, 2) := by decide +kernel
theorem dL_asker_15 : decode cL_asker 15 = .ok (.iconst 1, 1) := by decide +kernel
theorem dL_asker_16 : decode cL_asker 16 = .ok (.ireturn, 1) := by decide +kernel
theorem dL_asker_17 : decode cL_asker 17 = .ok (.iconst 0, 1) := by decide +kernel
theorem dL_asker_18 : decode cL_asker 18 = .ok (.ireturn, 1) := by decide +kernel
set_option maxRecDepth 20000 in
theorem ggL_request_X6_request : GoodIn wsL_request wsX6_request := goodIn_ca (goodIn_r _ [6, 7, 8, 9, 10, 11, 5, 12, 13, 14, 15, 16, 17, 18, 19, 20, 21, 22, 23, 24, 25, 26, 27, 28, 29, 30, 31, 32, 33, 34, 35, 36, 37, 38, 39, 40, 41, 42, 43, 44, 45, 46, 47, 48] (by decide +kernel) (by decide +kernel)) (goodIn_sub (fun _ h => List.mem_cons_of_mem _ (List.mem_append_right _ h)) (by decide +kernel))
set_option maxRecDepth 20000 in
theorem gL_request_X6_request : GoodIn wsL_request (wsV RL 59 RX6 yX6_request wsX6_request) := goodIn_app (goodIn_of _ (by decide +kernel)) ggL_request_X6_request
theorem dL_request_0 : decode cL_request 0 = .ok (.aload_n 3, 1) := by decide +kernel
theorem dL_request_1 : decode cL_request 1 = .ok (.iconst 0, 1) := by decide +kernel
theorem dL_request_2 : decode cL_request 2 = .ok (.aload_n 0, 1) := by decide +kernel
theorem dL_request_3 : decode cL_request 3 = .ok (.iload_n 1, 1) := by decide +kernel
theorem dL_request_4 : decode cL_request 4 = .ok (.iload_n 2, 1) := by decide +kernel
theorem dL_request_5 : decode cL_request 5 = .ok (.invokevirtual 59, 3) := by decide +kernel
theorem dL_request_8 : decode cL_request 8 = .ok (.i2l, 1) := by decide +kernel
theorem dL_request_9 : decode cL_request 9 = .ok (.lastore, 1) := by decide +kernel
theorem dL_request_10 : decode cL_request 10 = .ok (.goto 7, 3) := by decide +kernel
theorem dL_request_13 : decode cL_request 13 = .ok (.astore 4, 2) := by decide +kernel
theorem dL_request_15 : decode cL_request 15 = .ok (.iconst 1, 1) := by decide +kernel
theorem dL_request_16 : decode cL_request 16 = .ok (.ireturn, 1) := by decide +kernel
theorem dL_request_17 : decode cL_request 17 = .ok (.iconst 0, 1) := by decide +kernel
theorem dL_request_18 : decode cL_request 18 = .ok (.ireturn, 1) := by decide +kernel
set_option maxRecDepth 20000 in
theorem ggL_result_X6_result : GoodIn wsL_result wsX6_result := goodIn_ca (goodIn_r _ [6, 7, 8, 9, 5, 10, 11, 12, 13, 14, 15, 16, 17, 18, 19, 20, 21, 22, 23, 24, 25, 26, 27, 28, 29, 30, 31, 32, 33, 34, 35, 36, 37, 38, 39, 40, 41, 42] (by decide +kernel) (by decide +kernel)) (goodIn_sub (fun _ h => List.mem_cons_of_mem _ (List.mem_append_right _ h)) (by decide +kernel))
set_option maxRecDepth 20000 in
theorem gL_result_X6_result : GoodIn wsL_result (wsV RL 62 RX6 yX6_result wsX6_result) := goodIn_app (goodIn_of _ (by decide +kernel)) ggL_result_X6_result
theorem dL_result_0 : decode cL_result 0 = .ok (.aload_n 2, 1) := by decide +kernel
theorem dL_result_1 : decode cL_result 1 = .ok (.iconst 0, 1) := by decide +kernel
theorem dL_result_2 : decode cL_result 2 = .ok (.aload_n 0, 1) := by decide +kernel
theorem dL_result_3 : decode cL_result 3 = .ok (.iload_n 1, 1) := by decide +kernel
theorem dL_result_4 : decode cL_result 4 = .ok (.invokevirtual 62, 3) := by decide +kernel
theorem dL_result_7 : decode cL_result 7 = .ok (.lastore, 1) := by decide +kernel
theorem dL_result_8 : decode cL_result 8 = .ok (.goto 6, 3) := by decide +kernel
theorem dL_result_11 : decode cL_result 11 = .ok (.astore_n 3, 1) := by decide +kernel
theorem dL_result_12 : decode cL_result 12 = .ok (.iconst 1, 1) := by decide +kernel
theorem dL_result_13 : decode cL_result 13 = .ok (.ireturn, 1) := by decide +kernel
theorem dL_result_14 : decode cL_result 14 = .ok (.iconst 0, 1) := by decide +kernel
theorem dL_result_15 : decode cL_result 15 = .ok (.ireturn, 1) := by decide +kernel
set_option maxRecDepth 20000 in
theorem ggL_law_X6_init : GoodIn wsL_law wsX6_init := goodIn_r _ [10, 11, 12, 13, 14, 15, 16, 17, 18, 19, 20, 21, 22, 23, 24, 25, 26, 27, 28, 29, 30, 31, 32, 33, 34, 35, 36, 37, 38, 39, 40, 41, 42, 43, 44, 45, 46, 47, 48, 49, 50, 51, 52, 53, 54, 55, 56, 57, 58, 59, 60, 61, 62, 63, 64, 65, 66, 67, 537, 538, 539, 491, 492, 493, 494, 495, 496, 497, 540, 541, 542, 543, 544, 545, 546, 547, 548, 549, 550, 551, 552, 553, 554, 555, 556] (by decide +kernel) (by decide +kernel)
set_option maxRecDepth 20000 in
theorem gL_law_X6_init : GoodIn wsL_law (wsX6_init) := ggL_law_X6_init
set_option maxRecDepth 20000 in
theorem ggL_law_X7_init : GoodIn wsL_law wsX7_init := goodIn_r _ [70, 71, 12, 13, 51, 72, 73, 74, 75, 76, 22, 77, 78, 6, 79, 80, 81, 82, 83, 84, 85, 86, 87, 88, 89, 90, 91, 92, 93, 94, 95, 96, 97, 98, 99, 100, 101, 102, 103, 104, 105, 106, 107, 498, 499, 500, 501, 502, 503, 504, 505, 506, 507, 508, 509, 510, 511, 512, 513, 514, 515, 516, 517, 518, 519, 520, 521, 522, 523, 524, 525, 526, 527, 528, 529, 530, 531, 532, 533, 534, 535, 536] (by decide +kernel) (by decide +kernel)
set_option maxRecDepth 20000 in
theorem gL_law_X7_init : GoodIn wsL_law (wsX7_init) := ggL_law_X7_init
set_option maxRecDepth 20000 in
theorem ggL_law_L_ask : GoodIn wsL_law wsL_ask := goodIn_ca (goodIn_ca (goodIn_r _ [111, 112, 113, 114, 115, 116, 2, 117, 25, 34, 28, 118, 119, 17, 29, 120, 121, 122, 123, 124, 125, 126, 127, 128, 129, 130, 131, 132, 12, 13, 133, 134, 135, 136, 137, 138, 139, 140, 141, 142, 143, 144, 145, 146, 147, 148, 149, 150, 151, 33, 152, 32, 153, 154, 63, 60, 491, 492, 493, 494, 495, 496, 497, 543, 544, 545, 546, 547, 557, 558, 559, 560, 561, 562, 563, 564, 565, 566, 567, 568, 569, 570, 571, 548, 549, 550, 551, 552, 553, 554, 555, 556] (by decide +kernel) (by decide +kernel)) (goodIn_sub (fun _ h => List.mem_append_left _ (List.mem_append_right _ h)) (by decide +kernel))) (goodIn_sub (fun _ h => List.mem_append_right _ h) (by decide +kernel))
set_option maxRecDepth 20000 in
theorem gL_law_L_ask : GoodIn wsL_law (va_wsS RL 72 yL_ask wsL_ask) := goodIn_app (goodIn_of _ (by decide +kernel)) ggL_law_L_ask
set_option maxRecDepth 20000 in
theorem ggL_law_X7_ask : GoodIn wsL_law wsX7_ask := goodIn_r _ [158, 159, 91, 160, 86, 99, 100, 101, 102, 103, 92, 93, 94, 95, 96, 97, 89, 87, 90, 88, 161, 162, 5, 163, 164, 165, 166, 167, 168, 169, 170, 171, 72, 73, 74, 75, 76, 77, 78, 79, 498, 499, 500, 501, 502, 503, 504, 505, 506, 507, 508, 509, 510, 511, 512, 513, 514, 515, 516, 517, 518, 519, 520, 521, 522, 523, 524, 525, 526, 527, 528, 529, 530, 531, 532, 533, 534, 535, 536] (by decide +kernel) (by decide +kernel)
set_option maxRecDepth 20000 in
theorem gL_law_X7_ask : GoodIn wsL_law (wsV RL 77 RX7 yX7_ask wsX7_ask) := goodIn_app (goodIn_of _ (by decide +kernel)) ggL_law_X7_ask
set_option maxRecDepth 20000 in
theorem ggL_law_X7_thrown : GoodIn wsL_law wsX7_thrown := goodIn_r _ [175, 159, 498, 499, 500, 501, 502, 503, 504, 505, 506, 507, 508, 509, 510, 511, 512, 513, 514, 515, 516, 517, 518, 519, 520, 521, 522, 523, 524, 525, 526, 527, 528, 529, 530, 531, 532, 533, 534, 535, 536] (by decide +kernel) (by decide +kernel)
set_option maxRecDepth 20000 in
theorem gL_law_X7_thrown : GoodIn wsL_law (wsV RL 78 RX7 yX7_thrown wsX7_thrown) := goodIn_app (goodIn_of _ (by decide +kernel)) ggL_law_X7_thrown
set_option maxRecDepth 20000 in
theorem ggL_law_L_give : GoodIn wsL_law wsL_give := goodIn_ca (goodIn_r _ [178, 112, 179, 180, 181, 2, 182, 25, 120, 121, 122, 123, 124, 183, 184, 185, 491, 492, 493, 494, 495, 496, 497, 543, 544, 545, 546, 547, 557, 558, 559, 560, 561, 562, 563, 564, 565, 566, 567, 568, 569, 570, 571] (by decide +kernel) (by decide +kernel)) (goodIn_sub (fun _ h => List.mem_append_left _ (List.mem_append_right _ h)) (by decide +kernel))
set_option maxRecDepth 20000 in
theorem gL_law_L_give : GoodIn wsL_law (va_wsS RL 82 yL_give wsL_give) := goodIn_app (goodIn_of _ (by decide +kernel)) ggL_law_L_give
set_option maxRecDepth 20000 in
theorem ggL_law_X7_give : GoodIn wsL_law wsX7_give := goodIn_r _ [189, 159, 91, 161, 162, 5, 163, 190, 191, 192, 193, 103, 498, 499, 500, 501, 502, 503, 504, 505, 506, 507, 508, 509, 510, 511, 512, 513, 514, 515, 516, 517, 518, 519, 520, 521, 522, 523, 524, 525, 526, 527, 528, 529, 530, 531, 532, 533, 534, 535, 536] (by decide +kernel) (by decide +kernel)
set_option maxRecDepth 20000 in
theorem gL_law_X7_give : GoodIn wsL_law (wsV RL 85 RX7 yX7_give wsX7_give) := goodIn_app (goodIn_of _ (by decide +kernel)) ggL_law_X7_give
set_option maxRecDepth 20000 in
theorem ggL_law_L_plan : GoodIn wsL_law wsL_plan := goodIn_ca (goodIn_ca (goodIn_r _ [196, 112, 113, 197, 198, 199, 2, 200, 25, 120, 121, 122, 123, 124, 125, 126, 127, 128, 129, 201, 202, 203, 204, 205, 206, 207, 491, 492, 493, 494, 495, 496, 497, 543, 544, 545, 546, 547] (by decide +kernel) (by decide +kernel)) (goodIn_sub (fun _ h => List.mem_append_left _ (List.mem_append_right _ h)) (by decide +kernel))) (goodIn_sub (fun _ h => List.mem_append_right _ h) (by decide +kernel))
set_option maxRecDepth 20000 in
theorem gL_law_L_plan : GoodIn wsL_law (va_wsS RL 86 yL_plan wsL_plan) := goodIn_app (goodIn_of _ (by decide +kernel)) ggL_law_L_plan
set_option maxRecDepth 20000 in
theorem ggL_law_X7_plan : GoodIn wsL_law wsX7_plan := goodIn_r _ [211, 159, 87, 88, 161, 162, 5, 163, 212, 213, 214, 498, 499, 500, 501, 502, 503, 504, 505, 506, 507, 508, 509, 510, 511, 512, 513, 514, 515, 516, 517, 518, 519, 520, 521, 522, 523, 524, 525, 526, 527, 528, 529, 530, 531, 532, 533, 534, 535, 536] (by decide +kernel) (by decide +kernel)
set_option maxRecDepth 20000 in
theorem gL_law_X7_plan : GoodIn wsL_law (wsV RL 89 RX7 yX7_plan wsX7_plan) := goodIn_app (goodIn_of _ (by decide +kernel)) ggL_law_X7_plan
set_option maxRecDepth 20000 in
theorem ggL_law_L_take : GoodIn wsL_law wsL_take := goodIn_ca (goodIn_r _ [217, 112, 218, 219, 220, 2, 221, 33, 120, 121, 122, 123, 124, 222, 223, 224, 225, 226, 32, 227, 228, 60, 63, 229, 230, 231, 232, 23, 17, 233, 234, 235, 236, 19, 237, 21, 238, 239, 44, 45, 240, 241, 242, 243, 244, 245, 246, 247, 152, 153, 154, 248, 249, 250, 251, 252, 253, 254, 255, 25, 256, 119, 257, 258, 143, 259, 260, 261, 144, 145, 262, 263, 264, 265, 266, 267, 268, 202, 203, 204, 205, 206, 207, 269, 270, 271, 136, 137, 146, 142, 272, 16, 273, 274, 38, 39, 40, 275, 276, 277, 278, 15, 279, 280, 281, 282, 283, 284, 35, 36, 37, 12, 13, 148, 149, 150, 151, 285, 286, 287, 288, 289, 290, 291, 46, 292, 293, 294, 295, 183, 184, 185, 296, 297, 298, 299, 300, 491, 492, 493, 494, 495, 496, 497, 548, 549, 550, 551, 552, 553, 554, 555, 556, 540, 541, 542, 557, 558, 559, 560, 561, 562, 563, 564, 565, 566, 567, 568, 569, 570, 571, 543, 544, 545, 546, 547, 537, 538, 539] (by decide +kernel) (by decide +kernel)) (goodIn_sub (fun _ h => List.mem_append_left _ (List.mem_append_right _ h)) (by decide +kernel))
set_option maxRecDepth 20000 in
theorem gL_law_L_take : GoodIn wsL_law (va_wsS RL 90 yL_take wsL_take) := goodIn_app (goodIn_of _ (by decide +kernel)) ggL_law_L_take
set_option maxRecDepth 20000 in
theorem ggL_law_X7_take : GoodIn wsL_law wsX7_take := goodIn_r _ [304, 159, 305, 306, 307, 5, 308, 171, 309, 310, 311, 312, 72, 73, 74, 75, 76, 77, 78, 79, 80, 313, 314, 315, 316, 317, 318, 319, 320, 99, 81, 82, 83, 84, 85, 167, 168, 169, 170, 321, 322, 323, 324, 325, 326, 327, 328, 91, 92, 93, 94, 95, 96, 97, 90, 89, 102, 212, 213, 214, 329, 330, 331, 332, 101, 100, 98, 333, 334, 335, 336, 337, 338, 339, 340, 103, 104, 105, 106, 107, 341, 342, 343, 344, 86, 190, 191, 192, 193, 498, 499, 500, 501, 502, 503, 504, 505, 506, 507, 508, 509, 510, 511, 512, 513, 514, 515, 516, 517, 518, 519, 520, 521, 522, 523, 524, 525, 526, 527, 528, 529, 530, 531, 532, 533, 534, 535, 536] (by decide +kernel) (by decide +kernel)
set_option maxRecDepth 20000 in
theorem gL_law_X7_take : GoodIn wsL_law (wsV RL 92 RX7 yX7_take wsX7_take) := goodIn_app (goodIn_of _ (by decide +kernel)) ggL_law_X7_take
set_option maxRecDepth 20000 in
theorem ggL_law_L_run : GoodIn wsL_law wsL_run := goodIn_ca (goodIn_r _ [347, 113, 348, 349, 350, 2, 351, 33, 125, 126, 127, 128, 129, 222, 223, 224, 225, 226, 32, 227, 228, 60, 63, 229, 230, 231, 232, 23, 17, 233, 234, 235, 236, 19, 237, 21, 238, 239, 44, 45, 240, 241, 242, 243, 244, 245, 246, 247, 152, 153, 154, 248, 249, 250, 251, 252, 253, 254, 255, 25, 256, 119, 257, 258, 143, 259, 260, 261, 144, 145, 262, 263, 264, 265, 266, 267, 268, 202, 203, 204, 205, 206, 207, 269, 270, 271, 136, 137, 146, 142, 272, 16, 273, 274, 38, 39, 40, 275, 276, 277, 278, 15, 279, 280, 281, 282, 283, 284, 35, 36, 37, 12, 13, 148, 149, 150, 151, 285, 286, 287, 288, 289, 290, 291, 46, 292, 293, 294, 295, 183, 184, 185, 296, 297, 298, 299, 300, 491, 492, 493, 494, 495, 496, 497, 548, 549, 550, 551, 552, 553, 554, 555, 556, 540, 541, 542, 557, 558, 559, 560, 561, 562, 563, 564, 565, 566, 567, 568, 569, 570, 571, 543, 544, 545, 546, 547, 537, 538, 539] (by decide +kernel) (by decide +kernel)) (goodIn_sub (fun _ h => List.mem_append_right _ h) (by decide +kernel))
set_option maxRecDepth 20000 in
theorem gL_law_L_run : GoodIn wsL_law (va_wsS RL 93 yL_run wsL_run) := goodIn_app (goodIn_of _ (by decide +kernel)) ggL_law_L_run
set_option maxRecDepth 20000 in
theorem ggL_law_X7_run : GoodIn wsL_law wsX7_run := goodIn_r _ [355, 159, 171, 309, 310, 311, 5, 312, 72, 73, 74, 75, 76, 77, 78, 79, 80, 313, 314, 315, 316, 317, 318, 319, 320, 99, 81, 82, 83, 84, 85, 167, 168, 169, 170, 321, 322, 323, 324, 325, 326, 327, 328, 91, 92, 93, 94, 95, 96, 97, 90, 89, 102, 212, 213, 214, 329, 330, 331, 332, 101, 100, 98, 333, 334, 335, 336, 337, 338, 339, 340, 103, 104, 105, 106, 107, 341, 342, 343, 344, 86, 190, 191, 192, 193, 498, 499, 500, 501, 502, 503, 504, 505, 506, 507, 508, 509, 510, 511, 512, 513, 514, 515, 516, 517, 518, 519, 520, 521, 522, 523, 524, 525, 526, 527, 528, 529, 530, 531, 532, 533, 534, 535, 536] (by decide +kernel) (by decide +kernel)
set_option maxRecDepth 20000 in
theorem gL_law_X7_run : GoodIn wsL_law (wsV RL 95 RX7 yX7_run wsX7_run) := goodIn_app (goodIn_of _ (by decide +kernel)) ggL_law_X7_run
set_option maxRecDepth 20000 in
theorem ggL_law_L_lose : GoodIn wsL_law wsL_lose := goodIn_ca (goodIn_r _ [358, 112, 359, 360, 361, 2, 362, 33, 120, 121, 122, 123, 124, 226, 32, 227, 228, 60, 63, 491, 492, 493, 494, 495, 496, 497, 548, 549, 550, 551, 552, 553, 554, 555, 556] (by decide +kernel) (by decide +kernel)) (goodIn_sub (fun _ h => List.mem_append_left _ (List.mem_append_right _ h)) (by decide +kernel))
set_option maxRecDepth 20000 in
theorem gL_law_L_lose : GoodIn wsL_law (va_wsS RL 96 yL_lose wsL_lose) := goodIn_app (goodIn_of _ (by decide +kernel)) ggL_law_L_lose
set_option maxRecDepth 20000 in
theorem ggL_law_X7_lose : GoodIn wsL_law wsX7_lose := goodIn_r _ [366, 159, 72, 305, 306, 307, 5, 308, 171, 313, 314, 315, 316, 73, 74, 75, 76, 77, 78, 79, 498, 499, 500, 501, 502, 503, 504, 505, 506, 507, 508, 509, 510, 511, 512, 513, 514, 515, 516, 517, 518, 519, 520, 521, 522, 523, 524, 525, 526, 527, 528, 529, 530, 531, 532, 533, 534, 535, 536] (by decide +kernel) (by decide +kernel)
set_option maxRecDepth 20000 in
theorem gL_law_X7_lose : GoodIn wsL_law (wsV RL 98 RX7 yX7_lose wsX7_lose) := goodIn_app (goodIn_of _ (by decide +kernel)) ggL_law_X7_lose
set_option maxRecDepth 20000 in
theorem ggL_law_L_twice : GoodIn wsL_law wsL_twice := goodIn_ca (goodIn_r _ [369, 112, 370, 371, 372, 2, 373, 33, 120, 121, 122, 123, 124, 152, 32, 153, 154, 63, 60, 491, 492, 493, 494, 495, 496, 497, 548, 549, 550, 551, 552, 553, 554, 555, 556] (by decide +kernel) (by decide +kernel)) (goodIn_sub (fun _ h => List.mem_append_left _ (List.mem_append_right _ h)) (by decide +kernel))
set_option maxRecDepth 20000 in
theorem gL_law_L_twice : GoodIn wsL_law (va_wsS RL 99 yL_twice wsL_twice) := goodIn_app (goodIn_of _ (by decide +kernel)) ggL_law_L_twice
set_option maxRecDepth 20000 in
theorem ggL_law_X7_twice : GoodIn wsL_law wsX7_twice := goodIn_r _ [377, 159, 171, 72, 73, 74, 75, 76, 77, 78, 79, 305, 306, 307, 5, 308, 167, 168, 169, 170, 498, 499, 500, 501, 502, 503, 504, 505, 506, 507, 508, 509, 510, 511, 512, 513, 514, 515, 516, 517, 518, 519, 520, 521, 522, 523, 524, 525, 526, 527, 528, 529, 530, 531, 532, 533, 534, 535, 536] (by decide +kernel) (by decide +kernel)
set_option maxRecDepth 20000 in
theorem gL_law_X7_twice : GoodIn wsL_law (wsV RL 101 RX7 yX7_twice wsX7_twice) := goodIn_app (goodIn_of _ (by decide +kernel)) ggL_law_X7_twice
set_option maxRecDepth 20000 in
theorem ggL_law_L_down : GoodIn wsL_law wsL_down := goodIn_ca (goodIn_r _ [380, 112, 381, 382, 383, 2, 384, 23, 120, 121, 122, 123, 124, 491, 492, 493, 494, 495, 496, 497] (by decide +kernel) (by decide +kernel)) (goodIn_sub (fun _ h => List.mem_append_left _ (List.mem_append_right _ h)) (by decide +kernel))
set_option maxRecDepth 20000 in
theorem gL_law_L_down : GoodIn wsL_law (va_wsS RL 102 yL_down wsL_down) := goodIn_app (goodIn_of _ (by decide +kernel)) ggL_law_L_down
set_option maxRecDepth 20000 in
theorem ggL_law_X7_down : GoodIn wsL_law wsX7_down := goodIn_r _ [388, 159, 80, 389, 390, 5, 391, 498, 499, 500, 501, 502, 503, 504, 505, 506, 507, 508, 509, 510, 511, 512, 513, 514, 515, 516, 517, 518, 519, 520, 521, 522, 523, 524, 525, 526, 527, 528, 529, 530, 531, 532, 533, 534, 535, 536] (by decide +kernel) (by decide +kernel)
set_option maxRecDepth 20000 in
theorem gL_law_X7_down : GoodIn wsL_law (wsV RL 105 RX7 yX7_down wsX7_down) := goodIn_app (goodIn_of _ (by decide +kernel)) ggL_law_X7_down
set_option maxRecDepth 20000 in
theorem ggL_law_L_copy : GoodIn wsL_law wsL_copy := goodIn_ca (goodIn_r _ [394, 112, 395, 396, 397, 2, 398, 120, 121, 122, 123, 124, 233, 234, 235, 236, 19, 399, 21, 400, 401, 45, 46, 44, 240, 241, 242, 243, 491, 492, 493, 494, 495, 496, 497, 540, 541, 542] (by decide +kernel) (by decide +kernel)) (goodIn_sub (fun _ h => List.mem_append_left _ (List.mem_append_right _ h)) (by decide +kernel))
set_option maxRecDepth 20000 in
theorem gL_law_L_copy : GoodIn wsL_law (va_wsS RL 106 yL_copy wsL_copy) := goodIn_app (goodIn_of _ (by decide +kernel)) ggL_law_L_copy
set_option maxRecDepth 20000 in
theorem ggL_law_X7_copy : GoodIn wsL_law wsX7_copy := goodIn_r _ [405, 159, 82, 81, 83, 84, 85, 389, 390, 5, 391, 498, 499, 500, 501, 502, 503, 504, 505, 506, 507, 508, 509, 510, 511, 512, 513, 514, 515, 516, 517, 518, 519, 520, 521, 522, 523, 524, 525, 526, 527, 528, 529, 530, 531, 532, 533, 534, 535, 536] (by decide +kernel) (by decide +kernel)
set_option maxRecDepth 20000 in
theorem gL_law_X7_copy : GoodIn wsL_law (wsV RL 109 RX7 yX7_copy wsX7_copy) := goodIn_app (goodIn_of _ (by decide +kernel)) ggL_law_X7_copy
set_option maxRecDepth 20000 in
theorem ggL_law_X6_messages : GoodIn wsL_law wsX6_messages := goodIn_r _ [409, 33, 491, 492, 493, 494, 495, 496, 497, 548, 549] (by decide +kernel) (by decide +kernel)
set_option maxRecDepth 20000 in
theorem gL_law_X6_messages : GoodIn wsL_law (wsV RL 110 RX6 yX6_messages wsX6_messages) := goodIn_app (goodIn_of _ (by decide +kernel)) ggL_law_X6_messages
set_option maxRecDepth 20000 in
theorem ggL_law_X7_messages : GoodIn wsL_law wsX7_messages := goodIn_r _ [413, 159, 171, 498, 499, 500, 501, 502, 503, 504, 505, 506, 507, 508, 509, 510, 511, 512, 513, 514, 515, 516, 517, 518, 519, 520, 521, 522, 523, 524, 525, 526, 527, 528, 529, 530, 531, 532, 533, 534, 535, 536] (by decide +kernel) (by decide +kernel)
set_option maxRecDepth 20000 in
theorem gL_law_X7_messages : GoodIn wsL_law (wsV RL 113 RX7 yX7_messages wsX7_messages) := goodIn_app (goodIn_of _ (by decide +kernel)) ggL_law_X7_messages
set_option maxRecDepth 20000 in
theorem ggL_law_L_message : GoodIn wsL_law wsL_message := goodIn_ca (goodIn_r _ [416, 112, 417, 418, 419, 2, 420, 123, 124, 33, 120, 121, 122, 421, 16, 422, 423, 38, 39, 491, 492, 493, 494, 495, 496, 497, 548, 549, 550, 551, 552, 553, 554, 555, 556, 537, 538, 539] (by decide +kernel) (by decide +kernel)) (goodIn_sub (fun _ h => List.mem_append_left _ (List.mem_append_right _ h)) (by decide +kernel))
set_option maxRecDepth 20000 in
theorem gL_law_L_message : GoodIn wsL_law (va_wsS RL 114 yL_message wsL_message) := goodIn_app (goodIn_of _ (by decide +kernel)) ggL_law_L_message
set_option maxRecDepth 20000 in
theorem ggL_law_X7_message : GoodIn wsL_law wsX7_message := goodIn_r _ [427, 159, 72, 73, 74, 75, 76, 77, 78, 305, 306, 307, 5, 308, 171, 498, 499, 500, 501, 502, 503, 504, 505, 506, 507, 508, 509, 510, 511, 512, 513, 514, 515, 516, 517, 518, 519, 520, 521, 522, 523, 524, 525, 526, 527, 528, 529, 530, 531, 532, 533, 534, 535, 536] (by decide +kernel) (by decide +kernel)
set_option maxRecDepth 20000 in
theorem gL_law_X7_message : GoodIn wsL_law (wsV RL 116 RX7 yX7_message wsX7_message) := goodIn_app (goodIn_of _ (by decide +kernel)) ggL_law_X7_message
set_option maxRecDepth 20000 in
theorem ggL_law_L_keeper : GoodIn wsL_law wsL_keeper := goodIn_ca (goodIn_r _ [430, 112, 431, 432, 433, 2, 434, 123, 124, 120, 121, 122, 233, 234, 235, 236, 19, 421, 16, 422, 423, 38, 39, 540, 541, 542, 491, 492, 493, 494, 495, 496, 497, 537, 538, 539] (by decide +kernel) (by decide +kernel)) (goodIn_sub (fun _ h => List.mem_append_left _ (List.mem_append_right _ h)) (by decide +kernel))
set_option maxRecDepth 20000 in
theorem gL_law_L_keeper : GoodIn wsL_law (va_wsS RL 117 yL_keeper wsL_keeper) := goodIn_app (goodIn_of _ (by decide +kernel)) ggL_law_L_keeper
set_option maxRecDepth 20000 in
theorem ggL_law_X7_keeper : GoodIn wsL_law wsX7_keeper := goodIn_r _ [438, 159, 81, 82, 83, 84, 389, 390, 5, 391, 164, 165, 166, 498, 499, 500, 501, 502, 503, 504, 505, 506, 507, 508, 509, 510, 511, 512, 513, 514, 515, 516, 517, 518, 519, 520, 521, 522, 523, 524, 525, 526, 527, 528, 529, 530, 531, 532, 533, 534, 535, 536] (by decide +kernel) (by decide +kernel)
set_option maxRecDepth 20000 in
theorem gL_law_X7_keeper : GoodIn wsL_law (wsV RL 120 RX7 yX7_keeper wsX7_keeper) := goodIn_app (goodIn_of _ (by decide +kernel)) ggL_law_X7_keeper
set_option maxRecDepth 20000 in
theorem ggL_law_L_kept : GoodIn wsL_law wsL_kept := goodIn_ca (goodIn_r _ [441, 112, 442, 443, 444, 2, 445, 120, 121, 122, 123, 124, 233, 234, 235, 236, 19, 540, 541, 542, 537, 538, 539, 491, 492, 493, 494, 495, 496, 497] (by decide +kernel) (by decide +kernel)) (goodIn_sub (fun _ h => List.mem_append_left _ (List.mem_append_right _ h)) (by decide +kernel))
set_option maxRecDepth 20000 in
theorem gL_law_L_kept : GoodIn wsL_law (va_wsS RL 121 yL_kept wsL_kept) := goodIn_app (goodIn_of _ (by decide +kernel)) ggL_law_L_kept
set_option maxRecDepth 20000 in
theorem ggL_law_X7_kept : GoodIn wsL_law wsX7_kept := goodIn_r _ [449, 159, 83, 85, 389, 390, 5, 391, 164, 165, 166, 498, 499, 500, 501, 502, 503, 504, 505, 506, 507, 508, 509, 510, 511, 512, 513, 514, 515, 516, 517, 518, 519, 520, 521, 522, 523, 524, 525, 526, 527, 528, 529, 530, 531, 532, 533, 534, 535, 536] (by decide +kernel) (by decide +kernel)
set_option maxRecDepth 20000 in
theorem gL_law_X7_kept : GoodIn wsL_law (wsV RL 123 RX7 yX7_kept wsX7_kept) := goodIn_app (goodIn_of _ (by decide +kernel)) ggL_law_X7_kept
set_option maxRecDepth 20000 in
theorem ggL_law_L_asker : GoodIn wsL_law wsL_asker := goodIn_ca (goodIn_r _ [452, 112, 453, 454, 455, 2, 456, 123, 124, 25, 120, 121, 122, 265, 119, 266, 267, 143, 268, 202, 203, 204, 205, 206, 207, 491, 492, 493, 494, 495, 496, 497, 543, 544, 545, 546, 547, 557, 558, 559, 560, 561, 562, 563, 564, 565, 566, 567, 568, 569, 570, 571] (by decide +kernel) (by decide +kernel)) (goodIn_sub (fun _ h => List.mem_append_left _ (List.mem_append_right _ h)) (by decide +kernel))
set_option maxRecDepth 20000 in
theorem gL_law_L_asker : GoodIn wsL_law (va_wsS RL 124 yL_asker wsL_asker) := goodIn_app (goodIn_of _ (by decide +kernel)) ggL_law_L_asker
set_option maxRecDepth 20000 in
theorem ggL_law_X7_asker : GoodIn wsL_law wsX7_asker := goodIn_r _ [460, 159, 91, 86, 92, 93, 161, 162, 5, 163, 212, 213, 214, 498, 499, 500, 501, 502, 503, 504, 505, 506, 507, 508, 509, 510, 511, 512, 513, 514, 515, 516, 517, 518, 519, 520, 521, 522, 523, 524, 525, 526, 527, 528, 529, 530, 531, 532, 533, 534, 535, 536] (by decide +kernel) (by decide +kernel)
set_option maxRecDepth 20000 in
theorem gL_law_X7_asker : GoodIn wsL_law (wsV RL 126 RX7 yX7_asker wsX7_asker) := goodIn_app (goodIn_of _ (by decide +kernel)) ggL_law_X7_asker
set_option maxRecDepth 20000 in
theorem ggL_law_L_request : GoodIn wsL_law wsL_request := goodIn_ca (goodIn_r _ [463, 112, 464, 465, 466, 2, 467, 123, 124, 468, 469, 470, 471, 34, 29, 120, 121, 122, 421, 16, 422, 423, 38, 39, 557, 558, 559, 560, 561, 562, 563, 564, 565, 566, 567, 568, 569, 570, 571, 491, 492, 493, 494, 495, 496, 497, 537, 538, 539] (by decide +kernel) (by decide +kernel)) (goodIn_sub (fun _ h => List.mem_append_left _ (List.mem_append_right _ h)) (by decide +kernel))
set_option maxRecDepth 20000 in
theorem gL_law_L_request : GoodIn wsL_law (va_wsS RL 127 yL_request wsL_request) := goodIn_app (goodIn_of _ (by decide +kernel)) ggL_law_L_request
set_option maxRecDepth 20000 in
theorem ggL_law_X7_request : GoodIn wsL_law wsX7_request := goodIn_r _ [475, 159, 103, 104, 105, 106, 102, 476, 477, 478, 5, 479, 160, 498, 499, 500, 501, 502, 503, 504, 505, 506, 507, 508, 509, 510, 511, 512, 513, 514, 515, 516, 517, 518, 519, 520, 521, 522, 523, 524, 525, 526, 527, 528, 529, 530, 531, 532, 533, 534, 535, 536] (by decide +kernel) (by decide +kernel)
set_option maxRecDepth 20000 in
theorem gL_law_X7_request : GoodIn wsL_law (wsV RL 129 RX7 yX7_request wsX7_request) := goodIn_app (goodIn_of _ (by decide +kernel)) ggL_law_X7_request
set_option maxRecDepth 20000 in
theorem ggL_law_L_result : GoodIn wsL_law wsL_result := goodIn_ca (goodIn_r _ [482, 112, 483, 484, 485, 2, 486, 468, 469, 470, 471, 123, 124, 34, 29, 120, 121, 122, 557, 558, 559, 560, 561, 562, 563, 564, 565, 566, 567, 568, 569, 570, 571, 537, 538, 539, 491, 492, 493, 494, 495, 496, 497] (by decide +kernel) (by decide +kernel)) (goodIn_sub (fun _ h => List.mem_append_left _ (List.mem_append_right _ h)) (by decide +kernel))
set_option maxRecDepth 20000 in
theorem gL_law_L_result : GoodIn wsL_law (va_wsS RL 130 yL_result wsL_result) := goodIn_app (goodIn_of _ (by decide +kernel)) ggL_law_L_result
set_option maxRecDepth 20000 in
theorem ggL_law_X7_result : GoodIn wsL_law wsX7_result := goodIn_r _ [490, 159, 103, 105, 107, 476, 477, 478, 5, 479, 160, 498, 499, 500, 501, 502, 503, 504, 505, 506, 507, 508, 509, 510, 511, 512, 513, 514, 515, 516, 517, 518, 519, 520, 521, 522, 523, 524, 525, 526, 527, 528, 529, 530, 531, 532, 533, 534, 535, 536] (by decide +kernel) (by decide +kernel)
set_option maxRecDepth 20000 in
theorem gL_law_X7_result : GoodIn wsL_law (wsV RL 132 RX7 yX7_result wsX7_result) := goodIn_app (goodIn_of _ (by decide +kernel)) ggL_law_X7_result
theorem dL_law_0 : decode cL_law 0 = .ok (.new 8, 3) := by decide +kernel
theorem dL_law_3 : decode cL_law 3 = .ok (.dup, 1) := by decide +kernel
theorem dL_law_4 : decode cL_law 4 = .ok (.invokespecial 66, 3) := by decide +kernel
theorem dL_law_7 : decode cL_law 7 = .ok (.astore_n 1, 1) := by decide +kernel
theorem dL_law_8 : decode cL_law 8 = .ok (.new 67, 3) := by decide +kernel
theorem dL_law_11 : decode cL_law 11 = .ok (.dup, 1) := by decide +kernel
theorem dL_law_12 : decode cL_law 12 = .ok (.invokespecial 69, 3) := by decide +kernel
theorem dL_law_15 : decode cL_law 15 = .ok (.astore_n 2, 1) := by decide +kernel
theorem dL_law_16 : decode cL_law 16 = .ok (.iconst 1, 1) := by decide +kernel
theorem dL_law_17 : decode cL_law 17 = .ok (.newarray .long, 2) := by decide +kernel
theorem dL_law_19 : decode cL_law 19 = .ok (.astore_n 3, 1) := by decide +kernel
theorem dL_law_20 : decode cL_law 20 = .ok (.iconst 0, 1) := by decide +kernel
theorem dL_law_21 : decode cL_law 21 = .ok (.istore 4, 2) := by decide +kernel
theorem dL_law_23 : decode cL_law 23 = .ok (.iload 4, 2) := by decide +kernel
theorem dL_law_25 : decode cL_law 25 = .ok (.aload_n 0, 1) := by decide +kernel
theorem dL_law_26 : decode cL_law 26 = .ok (.arraylength, 1) := by decide +kernel
theorem dL_law_27 : decode cL_law 27 = .ok (.bipush 6, 2) := by decide +kernel
theorem dL_law_29 : decode cL_law 29 = .ok (.isub, 1) := by decide +kernel
theorem dL_law_30 : decode cL_law 30 = .ok (.if_icmp .gt 1150, 3) := by decide +kernel
theorem dL_law_33 : decode cL_law 33 = .ok (.aload_n 0, 1) := by decide +kernel
theorem dL_law_34 : decode cL_law 34 = .ok (.iload 4, 2) := by decide +kernel
theorem dL_law_36 : decode cL_law 36 = .ok (.iaload, 1) := by decide +kernel
theorem dL_law_37 : decode cL_law 37 = .ok (.bipush 15, 2) := by decide +kernel
theorem dL_law_39 : decode cL_law 39 = .ok (.iand, 1) := by decide +kernel
theorem dL_law_40 : decode cL_law 40 = .ok (.tableswitch 1134 0 15 #[80, 204, 260, 332, 388, 444, 500, 556, 647, 715, 728, 796, 876, 943, 1011, 1079], 80) := by decide +kernel
theorem dL_law_120 : decode cL_law 120 = .ok (.aload_n 1, 1) := by decide +kernel
theorem dL_law_121 : decode cL_law 121 = .ok (.aload_n 0, 1) := by decide +kernel
theorem dL_law_122 : decode cL_law 122 = .ok (.iload 4, 2) := by decide +kernel
theorem dL_law_124 : decode cL_law 124 = .ok (.iconst 1, 1) := by decide +kernel
theorem dL_law_125 : decode cL_law 125 = .ok (.iadd, 1) := by decide +kernel
theorem dL_law_126 : decode cL_law 126 = .ok (.iaload, 1) := by decide +kernel
theorem dL_law_127 : decode cL_law 127 = .ok (.aload_n 0, 1) := by decide +kernel
theorem dL_law_128 : decode cL_law 128 = .ok (.iload 4, 2) := by decide +kernel
theorem dL_law_130 : decode cL_law 130 = .ok (.iconst 2, 1) := by decide +kernel
theorem dL_law_131 : decode cL_law 131 = .ok (.iadd, 1) := by decide +kernel
theorem dL_law_132 : decode cL_law 132 = .ok (.iaload, 1) := by decide +kernel
theorem dL_law_133 : decode cL_law 133 = .ok (.aload_n 0, 1) := by decide +kernel
theorem dL_law_134 : decode cL_law 134 = .ok (.iload 4, 2) := by decide +kernel
theorem dL_law_136 : decode cL_law 136 = .ok (.iconst 3, 1) := by decide +kernel
theorem dL_law_137 : decode cL_law 137 = .ok (.iadd, 1) := by decide +kernel
theorem dL_law_138 : decode cL_law 138 = .ok (.iaload, 1) := by decide +kernel
theorem dL_law_139 : decode cL_law 139 = .ok (.aload_n 0, 1) := by decide +kernel
theorem dL_law_140 : decode cL_law 140 = .ok (.iload 4, 2) := by decide +kernel
theorem dL_law_142 : decode cL_law 142 = .ok (.iconst 4, 1) := by decide +kernel
theorem dL_law_143 : decode cL_law 143 = .ok (.iadd, 1) := by decide +kernel
theorem dL_law_144 : decode cL_law 144 = .ok (.iaload, 1) := by decide +kernel
theorem dL_law_145 : decode cL_law 145 = .ok (.i2l, 1) := by decide +kernel
theorem dL_law_146 : decode cL_law 146 = .ok (.bipush 32, 2) := by decide +kernel
theorem dL_law_148 : decode cL_law 148 = .ok (.lshl, 1) := by decide +kernel
theorem dL_law_149 : decode cL_law 149 = .ok (.aload_n 0, 1) := by decide +kernel
theorem dL_law_150 : decode cL_law 150 = .ok (.iload 4, 2) := by decide +kernel
theorem dL_law_152 : decode cL_law 152 = .ok (.iconst 5, 1) := by decide +kernel
theorem dL_law_153 : decode cL_law 153 = .ok (.iadd, 1) := by decide +kernel
theorem dL_law_154 : decode cL_law 154 = .ok (.iaload, 1) := by decide +kernel
theorem dL_law_155 : decode cL_law 155 = .ok (.i2l, 1) := by decide +kernel
theorem dL_law_156 : decode cL_law 156 = .ok (.ldc2_w 70, 3) := by decide +kernel
theorem dL_law_159 : decode cL_law 159 = .ok (.land, 1) := by decide +kernel
theorem dL_law_160 : decode cL_law 160 = .ok (.lor, 1) := by decide +kernel
theorem dL_law_161 : decode cL_law 161 = .ok (.aload_n 3, 1) := by decide +kernel
theorem dL_law_162 : decode cL_law 162 = .ok (.invokestatic 72, 3) := by decide +kernel
theorem dL_law_165 : decode cL_law 165 = .ok (.istore 5, 2) := by decide +kernel
theorem dL_law_167 : decode cL_law 167 = .ok (.aload_n 2, 1) := by decide +kernel
theorem dL_law_168 : decode cL_law 168 = .ok (.aload_n 0, 1) := by decide +kernel
theorem dL_law_169 : decode cL_law 169 = .ok (.iload 4, 2) := by decide +kernel
theorem dL_law_171 : decode cL_law 171 = .ok (.iconst 1, 1) := by decide +kernel
theorem dL_law_172 : decode cL_law 172 = .ok (.iadd, 1) := by decide +kernel
theorem dL_law_173 : decode cL_law 173 = .ok (.iaload, 1) := by decide +kernel
theorem dL_law_174 : decode cL_law 174 = .ok (.aload_n 0, 1) := by decide +kernel
theorem dL_law_175 : decode cL_law 175 = .ok (.iload 4, 2) := by decide +kernel
theorem dL_law_177 : decode cL_law 177 = .ok (.iconst 2, 1) := by decide +kernel
theorem dL_law_178 : decode cL_law 178 = .ok (.iadd, 1) := by decide +kernel
theorem dL_law_179 : decode cL_law 179 = .ok (.iaload, 1) := by decide +kernel
theorem dL_law_180 : decode cL_law 180 = .ok (.aload_n 0, 1) := by decide +kernel
theorem dL_law_181 : decode cL_law 181 = .ok (.iload 4, 2) := by decide +kernel
theorem dL_law_183 : decode cL_law 183 = .ok (.iconst 3, 1) := by decide +kernel
theorem dL_law_184 : decode cL_law 184 = .ok (.iadd, 1) := by decide +kernel
theorem dL_law_185 : decode cL_law 185 = .ok (.iaload, 1) := by decide +kernel
theorem dL_law_186 : decode cL_law 186 = .ok (.aload_n 0, 1) := by decide +kernel
theorem dL_law_187 : decode cL_law 187 = .ok (.iload 4, 2) := by decide +kernel
theorem dL_law_189 : decode cL_law 189 = .ok (.iconst 4, 1) := by decide +kernel
theorem dL_law_190 : decode cL_law 190 = .ok (.iadd, 1) := by decide +kernel
theorem dL_law_191 : decode cL_law 191 = .ok (.iaload, 1) := by decide +kernel
theorem dL_law_192 : decode cL_law 192 = .ok (.i2l, 1) := by decide +kernel
theorem dL_law_193 : decode cL_law 193 = .ok (.bipush 32, 2) := by decide +kernel
theorem dL_law_195 : decode cL_law 195 = .ok (.lshl, 1) := by decide +kernel
theorem dL_law_196 : decode cL_law 196 = .ok (.aload_n 0, 1) := by decide +kernel
theorem dL_law_197 : decode cL_law 197 = .ok (.iload 4, 2) := by decide +kernel
theorem dL_law_199 : decode cL_law 199 = .ok (.iconst 5, 1) := by decide +kernel
theorem dL_law_200 : decode cL_law 200 = .ok (.iadd, 1) := by decide +kernel
theorem dL_law_201 : decode cL_law 201 = .ok (.iaload, 1) := by decide +kernel
theorem dL_law_202 : decode cL_law 202 = .ok (.i2l, 1) := by decide +kernel
theorem dL_law_203 : decode cL_law 203 = .ok (.ldc2_w 70, 3) := by decide +kernel
theorem dL_law_206 : decode cL_law 206 = .ok (.land, 1) := by decide +kernel
theorem dL_law_207 : decode cL_law 207 = .ok (.lor, 1) := by decide +kernel
theorem dL_law_208 : decode cL_law 208 = .ok (.invokevirtual 77, 3) := by decide +kernel
theorem dL_law_211 : decode cL_law 211 = .ok (.istore 6, 2) := by decide +kernel
theorem dL_law_213 : decode cL_law 213 = .ok (.aload_n 2, 1) := by decide +kernel
theorem dL_law_214 : decode cL_law 214 = .ok (.invokevirtual 78, 3) := by decide +kernel
theorem dL_law_217 : decode cL_law 217 = .ok (.iload 5, 2) := by decide +kernel
theorem dL_law_219 : decode cL_law 219 = .ok (.if_icmp .eq 5, 3) := by decide +kernel
theorem dL_law_222 : decode cL_law 222 = .ok (.iconst 0, 1) := by decide +kernel
theorem dL_law_223 : decode cL_law 223 = .ok (.ireturn, 1) := by decide +kernel
theorem dL_law_224 : decode cL_law 224 = .ok (.iload 5, 2) := by decide +kernel
theorem dL_law_226 : decode cL_law 226 = .ok (.ifCond .ne 15, 3) := by decide +kernel
theorem dL_law_229 : decode cL_law 229 = .ok (.aload_n 3, 1) := by decide +kernel
theorem dL_law_230 : decode cL_law 230 = .ok (.iconst 0, 1) := by decide +kernel
theorem dL_law_231 : decode cL_law 231 = .ok (.laload, 1) := by decide +kernel
theorem dL_law_232 : decode cL_law 232 = .ok (.iload 6, 2) := by decide +kernel
theorem dL_law_234 : decode cL_law 234 = .ok (.i2l, 1) := by decide +kernel
theorem dL_law_235 : decode cL_law 235 = .ok (.lcmp, 1) := by decide +kernel
theorem dL_law_236 : decode cL_law 236 = .ok (.ifCond .eq 5, 3) := by decide +kernel
theorem dL_law_239 : decode cL_law 239 = .ok (.iconst 0, 1) := by decide +kernel
theorem dL_law_240 : decode cL_law 240 = .ok (.ireturn, 1) := by decide +kernel
theorem dL_law_241 : decode cL_law 241 = .ok (.goto 933, 3) := by decide +kernel
theorem dL_law_244 : decode cL_law 244 = .ok (.aload_n 1, 1) := by decide +kernel
theorem dL_law_245 : decode cL_law 245 = .ok (.aload_n 0, 1) := by decide +kernel
theorem dL_law_246 : decode cL_law 246 = .ok (.iload 4, 2) := by decide +kernel
theorem dL_law_248 : decode cL_law 248 = .ok (.iconst 1, 1) := by decide +kernel
theorem dL_law_249 : decode cL_law 249 = .ok (.iadd, 1) := by decide +kernel
theorem dL_law_250 : decode cL_law 250 = .ok (.iaload, 1) := by decide +kernel
theorem dL_law_251 : decode cL_law 251 = .ok (.aload_n 3, 1) := by decide +kernel
theorem dL_law_252 : decode cL_law 252 = .ok (.invokestatic 82, 3) := by decide +kernel
theorem dL_law_255 : decode cL_law 255 = .ok (.istore 5, 2) := by decide +kernel
theorem dL_law_257 : decode cL_law 257 = .ok (.aload_n 2, 1) := by decide +kernel
theorem dL_law_258 : decode cL_law 258 = .ok (.aload_n 0, 1) := by decide +kernel
theorem dL_law_259 : decode cL_law 259 = .ok (.iload 4, 2) := by decide +kernel
theorem dL_law_261 : decode cL_law 261 = .ok (.iconst 1, 1) := by decide +kernel
theorem dL_law_262 : decode cL_law 262 = .ok (.iadd, 1) := by decide +kernel
theorem dL_law_263 : decode cL_law 263 = .ok (.iaload, 1) := by decide +kernel
theorem dL_law_264 : decode cL_law 264 = .ok (.invokevirtual 85, 3) := by decide +kernel
theorem dL_law_267 : decode cL_law 267 = .ok (.istore 6, 2) := by decide +kernel
theorem dL_law_269 : decode cL_law 269 = .ok (.aload_n 2, 1) := by decide +kernel
theorem dL_law_270 : decode cL_law 270 = .ok (.invokevirtual 78, 3) := by decide +kernel
theorem dL_law_273 : decode cL_law 273 = .ok (.iload 5, 2) := by decide +kernel
theorem dL_law_275 : decode cL_law 275 = .ok (.if_icmp .eq 5, 3) := by decide +kernel
theorem dL_law_278 : decode cL_law 278 = .ok (.iconst 0, 1) := by decide +kernel
theorem dL_law_279 : decode cL_law 279 = .ok (.ireturn, 1) := by decide +kernel
theorem dL_law_280 : decode cL_law 280 = .ok (.iload 5, 2) := by decide +kernel
theorem dL_law_282 : decode cL_law 282 = .ok (.ifCond .ne 15, 3) := by decide +kernel
theorem dL_law_285 : decode cL_law 285 = .ok (.aload_n 3, 1) := by decide +kernel
theorem dL_law_286 : decode cL_law 286 = .ok (.iconst 0, 1) := by decide +kernel
theorem dL_law_287 : decode cL_law 287 = .ok (.laload, 1) := by decide +kernel
theorem dL_law_288 : decode cL_law 288 = .ok (.iload 6, 2) := by decide +kernel
theorem dL_law_290 : decode cL_law 290 = .ok (.i2l, 1) := by decide +kernel
theorem dL_law_291 : decode cL_law 291 = .ok (.lcmp, 1) := by decide +kernel
theorem dL_law_292 : decode cL_law 292 = .ok (.ifCond .eq 5, 3) := by decide +kernel
theorem dL_law_295 : decode cL_law 295 = .ok (.iconst 0, 1) := by decide +kernel
theorem dL_law_296 : decode cL_law 296 = .ok (.ireturn, 1) := by decide +kernel
theorem dL_law_297 : decode cL_law 297 = .ok (.goto 877, 3) := by decide +kernel
theorem dL_law_300 : decode cL_law 300 = .ok (.aload_n 1, 1) := by decide +kernel
theorem dL_law_301 : decode cL_law 301 = .ok (.aload_n 0, 1) := by decide +kernel
theorem dL_law_302 : decode cL_law 302 = .ok (.iload 4, 2) := by decide +kernel
theorem dL_law_304 : decode cL_law 304 = .ok (.iconst 1, 1) := by decide +kernel
theorem dL_law_305 : decode cL_law 305 = .ok (.iadd, 1) := by decide +kernel
theorem dL_law_306 : decode cL_law 306 = .ok (.iaload, 1) := by decide +kernel
theorem dL_law_307 : decode cL_law 307 = .ok (.aload_n 0, 1) := by decide +kernel
theorem dL_law_308 : decode cL_law 308 = .ok (.iload 4, 2) := by decide +kernel
theorem dL_law_310 : decode cL_law 310 = .ok (.iconst 2, 1) := by decide +kernel
theorem dL_law_311 : decode cL_law 311 = .ok (.iadd, 1) := by decide +kernel
theorem dL_law_312 : decode cL_law 312 = .ok (.iaload, 1) := by decide +kernel
theorem dL_law_313 : decode cL_law 313 = .ok (.aload_n 0, 1) := by decide +kernel
theorem dL_law_314 : decode cL_law 314 = .ok (.iload 4, 2) := by decide +kernel
theorem dL_law_316 : decode cL_law 316 = .ok (.iconst 3, 1) := by decide +kernel
theorem dL_law_317 : decode cL_law 317 = .ok (.iadd, 1) := by decide +kernel
theorem dL_law_318 : decode cL_law 318 = .ok (.iaload, 1) := by decide +kernel
theorem dL_law_319 : decode cL_law 319 = .ok (.aload_n 0, 1) := by decide +kernel
theorem dL_law_320 : decode cL_law 320 = .ok (.iload 4, 2) := by decide +kernel
theorem dL_law_322 : decode cL_law 322 = .ok (.iconst 4, 1) := by decide +kernel
theorem dL_law_323 : decode cL_law 323 = .ok (.iadd, 1) := by decide +kernel
theorem dL_law_324 : decode cL_law 324 = .ok (.iaload, 1) := by decide +kernel
theorem dL_law_325 : decode cL_law 325 = .ok (.invokestatic 86, 3) := by decide +kernel
theorem dL_law_328 : decode cL_law 328 = .ok (.istore 5, 2) := by decide +kernel
theorem dL_law_330 : decode cL_law 330 = .ok (.aload_n 2, 1) := by decide +kernel
theorem dL_law_331 : decode cL_law 331 = .ok (.aload_n 0, 1) := by decide +kernel
theorem dL_law_332 : decode cL_law 332 = .ok (.iload 4, 2) := by decide +kernel
theorem dL_law_334 : decode cL_law 334 = .ok (.iconst 1, 1) := by decide +kernel
theorem dL_law_335 : decode cL_law 335 = .ok (.iadd, 1) := by decide +kernel
theorem dL_law_336 : decode cL_law 336 = .ok (.iaload, 1) := by decide +kernel
theorem dL_law_337 : decode cL_law 337 = .ok (.aload_n 0, 1) := by decide +kernel
theorem dL_law_338 : decode cL_law 338 = .ok (.iload 4, 2) := by decide +kernel
theorem dL_law_340 : decode cL_law 340 = .ok (.iconst 2, 1) := by decide +kernel
theorem dL_law_341 : decode cL_law 341 = .ok (.iadd, 1) := by decide +kernel
theorem dL_law_342 : decode cL_law 342 = .ok (.iaload, 1) := by decide +kernel
theorem dL_law_343 : decode cL_law 343 = .ok (.aload_n 0, 1) := by decide +kernel
theorem dL_law_344 : decode cL_law 344 = .ok (.iload 4, 2) := by decide +kernel
theorem dL_law_346 : decode cL_law 346 = .ok (.iconst 3, 1) := by decide +kernel
theorem dL_law_347 : decode cL_law 347 = .ok (.iadd, 1) := by decide +kernel
theorem dL_law_348 : decode cL_law 348 = .ok (.iaload, 1) := by decide +kernel
theorem dL_law_349 : decode cL_law 349 = .ok (.aload_n 0, 1) := by decide +kernel
theorem dL_law_350 : decode cL_law 350 = .ok (.iload 4, 2) := by decide +kernel
theorem dL_law_352 : decode cL_law 352 = .ok (.iconst 4, 1) := by decide +kernel
theorem dL_law_353 : decode cL_law 353 = .ok (.iadd, 1) := by decide +kernel
theorem dL_law_354 : decode cL_law 354 = .ok (.iaload, 1) := by decide +kernel
theorem dL_law_355 : decode cL_law 355 = .ok (.invokevirtual 89, 3) := by decide +kernel
theorem dL_law_358 : decode cL_law 358 = .ok (.aload_n 2, 1) := by decide +kernel
theorem dL_law_359 : decode cL_law 359 = .ok (.invokevirtual 78, 3) := by decide +kernel
theorem dL_law_362 : decode cL_law 362 = .ok (.iload 5, 2) := by decide +kernel
theorem dL_law_364 : decode cL_law 364 = .ok (.if_icmp .eq 5, 3) := by decide +kernel
theorem dL_law_367 : decode cL_law 367 = .ok (.iconst 0, 1) := by decide +kernel
theorem dL_law_368 : decode cL_law 368 = .ok (.ireturn, 1) := by decide +kernel
theorem dL_law_369 : decode cL_law 369 = .ok (.goto 805, 3) := by decide +kernel
theorem dL_law_372 : decode cL_law 372 = .ok (.aload_n 1, 1) := by decide +kernel
theorem dL_law_373 : decode cL_law 373 = .ok (.aload_n 0, 1) := by decide +kernel
theorem dL_law_374 : decode cL_law 374 = .ok (.iload 4, 2) := by decide +kernel
theorem dL_law_376 : decode cL_law 376 = .ok (.iconst 1, 1) := by decide +kernel
theorem dL_law_377 : decode cL_law 377 = .ok (.iadd, 1) := by decide +kernel
theorem dL_law_378 : decode cL_law 378 = .ok (.iaload, 1) := by decide +kernel
theorem dL_law_379 : decode cL_law 379 = .ok (.aload_n 3, 1) := by decide +kernel
theorem dL_law_380 : decode cL_law 380 = .ok (.invokestatic 90, 3) := by decide +kernel
theorem dL_law_383 : decode cL_law 383 = .ok (.istore 5, 2) := by decide +kernel
theorem dL_law_385 : decode cL_law 385 = .ok (.aload_n 2, 1) := by decide +kernel
theorem dL_law_386 : decode cL_law 386 = .ok (.aload_n 0, 1) := by decide +kernel
theorem dL_law_387 : decode cL_law 387 = .ok (.iload 4, 2) := by decide +kernel
theorem dL_law_389 : decode cL_law 389 = .ok (.iconst 1, 1) := by decide +kernel
theorem dL_law_390 : decode cL_law 390 = .ok (.iadd, 1) := by decide +kernel
theorem dL_law_391 : decode cL_law 391 = .ok (.iaload, 1) := by decide +kernel
theorem dL_law_392 : decode cL_law 392 = .ok (.invokevirtual 92, 3) := by decide +kernel
theorem dL_law_395 : decode cL_law 395 = .ok (.istore 6, 2) := by decide +kernel
theorem dL_law_397 : decode cL_law 397 = .ok (.aload_n 2, 1) := by decide +kernel
theorem dL_law_398 : decode cL_law 398 = .ok (.invokevirtual 78, 3) := by decide +kernel
theorem dL_law_401 : decode cL_law 401 = .ok (.iload 5, 2) := by decide +kernel
theorem dL_law_403 : decode cL_law 403 = .ok (.if_icmp .eq 5, 3) := by decide +kernel
theorem dL_law_406 : decode cL_law 406 = .ok (.iconst 0, 1) := by decide +kernel
theorem dL_law_407 : decode cL_law 407 = .ok (.ireturn, 1) := by decide +kernel
theorem dL_law_408 : decode cL_law 408 = .ok (.iload 5, 2) := by decide +kernel
theorem dL_law_410 : decode cL_law 410 = .ok (.ifCond .ne 15, 3) := by decide +kernel
theorem dL_law_413 : decode cL_law 413 = .ok (.aload_n 3, 1) := by decide +kernel
theorem dL_law_414 : decode cL_law 414 = .ok (.iconst 0, 1) := by decide +kernel
theorem dL_law_415 : decode cL_law 415 = .ok (.laload, 1) := by decide +kernel
theorem dL_law_416 : decode cL_law 416 = .ok (.iload 6, 2) := by decide +kernel
theorem dL_law_418 : decode cL_law 418 = .ok (.i2l, 1) := by decide +kernel
theorem dL_law_419 : decode cL_law 419 = .ok (.lcmp, 1) := by decide +kernel
theorem dL_law_420 : decode cL_law 420 = .ok (.ifCond .eq 5, 3) := by decide +kernel
theorem dL_law_423 : decode cL_law 423 = .ok (.iconst 0, 1) := by decide +kernel
theorem dL_law_424 : decode cL_law 424 = .ok (.ireturn, 1) := by decide +kernel
theorem dL_law_425 : decode cL_law 425 = .ok (.goto 749, 3) := by decide +kernel
theorem dL_law_428 : decode cL_law 428 = .ok (.aload_n 1, 1) := by decide +kernel
theorem dL_law_429 : decode cL_law 429 = .ok (.aload_n 0, 1) := by decide +kernel
theorem dL_law_430 : decode cL_law 430 = .ok (.iload 4, 2) := by decide +kernel
theorem dL_law_432 : decode cL_law 432 = .ok (.iconst 1, 1) := by decide +kernel
theorem dL_law_433 : decode cL_law 433 = .ok (.iadd, 1) := by decide +kernel
theorem dL_law_434 : decode cL_law 434 = .ok (.iaload, 1) := by decide +kernel
theorem dL_law_435 : decode cL_law 435 = .ok (.aload_n 3, 1) := by decide +kernel
theorem dL_law_436 : decode cL_law 436 = .ok (.invokestatic 93, 3) := by decide +kernel
theorem dL_law_439 : decode cL_law 439 = .ok (.istore 5, 2) := by decide +kernel
theorem dL_law_441 : decode cL_law 441 = .ok (.aload_n 2, 1) := by decide +kernel
theorem dL_law_442 : decode cL_law 442 = .ok (.aload_n 0, 1) := by decide +kernel
theorem dL_law_443 : decode cL_law 443 = .ok (.iload 4, 2) := by decide +kernel
theorem dL_law_445 : decode cL_law 445 = .ok (.iconst 1, 1) := by decide +kernel
theorem dL_law_446 : decode cL_law 446 = .ok (.iadd, 1) := by decide +kernel
theorem dL_law_447 : decode cL_law 447 = .ok (.iaload, 1) := by decide +kernel
theorem dL_law_448 : decode cL_law 448 = .ok (.invokevirtual 95, 3) := by decide +kernel
theorem dL_law_451 : decode cL_law 451 = .ok (.istore 6, 2) := by decide +kernel
theorem dL_law_453 : decode cL_law 453 = .ok (.aload_n 2, 1) := by decide +kernel
theorem dL_law_454 : decode cL_law 454 = .ok (.invokevirtual 78, 3) := by decide +kernel
theorem dL_law_457 : decode cL_law 457 = .ok (.iload 5, 2) := by decide +kernel
theorem dL_law_459 : decode cL_law 459 = .ok (.if_icmp .eq 5, 3) := by decide +kernel
theorem dL_law_462 : decode cL_law 462 = .ok (.iconst 0, 1) := by decide +kernel
theorem dL_law_463 : decode cL_law 463 = .ok (.ireturn, 1) := by decide +kernel
theorem dL_law_464 : decode cL_law 464 = .ok (.iload 5, 2) := by decide +kernel
theorem dL_law_466 : decode cL_law 466 = .ok (.ifCond .ne 15, 3) := by decide +kernel
theorem dL_law_469 : decode cL_law 469 = .ok (.aload_n 3, 1) := by decide +kernel
theorem dL_law_470 : decode cL_law 470 = .ok (.iconst 0, 1) := by decide +kernel
theorem dL_law_471 : decode cL_law 471 = .ok (.laload, 1) := by decide +kernel
theorem dL_law_472 : decode cL_law 472 = .ok (.iload 6, 2) := by decide +kernel
theorem dL_law_474 : decode cL_law 474 = .ok (.i2l, 1) := by decide +kernel
theorem dL_law_475 : decode cL_law 475 = .ok (.lcmp, 1) := by decide +kernel
theorem dL_law_476 : decode cL_law 476 = .ok (.ifCond .eq 5, 3) := by decide +kernel
theorem dL_law_479 : decode cL_law 479 = .ok (.iconst 0, 1) := by decide +kernel
theorem dL_law_480 : decode cL_law 480 = .ok (.ireturn, 1) := by decide +kernel
theorem dL_law_481 : decode cL_law 481 = .ok (.goto 693, 3) := by decide +kernel
theorem dL_law_484 : decode cL_law 484 = .ok (.aload_n 1, 1) := by decide +kernel
theorem dL_law_485 : decode cL_law 485 = .ok (.aload_n 0, 1) := by decide +kernel
theorem dL_law_486 : decode cL_law 486 = .ok (.iload 4, 2) := by decide +kernel
theorem dL_law_488 : decode cL_law 488 = .ok (.iconst 1, 1) := by decide +kernel
theorem dL_law_489 : decode cL_law 489 = .ok (.iadd, 1) := by decide +kernel
theorem dL_law_490 : decode cL_law 490 = .ok (.iaload, 1) := by decide +kernel
theorem dL_law_491 : decode cL_law 491 = .ok (.aload_n 3, 1) := by decide +kernel
theorem dL_law_492 : decode cL_law 492 = .ok (.invokestatic 96, 3) := by decide +kernel
theorem dL_law_495 : decode cL_law 495 = .ok (.istore 5, 2) := by decide +kernel
theorem dL_law_497 : decode cL_law 497 = .ok (.aload_n 2, 1) := by decide +kernel
theorem dL_law_498 : decode cL_law 498 = .ok (.aload_n 0, 1) := by decide +kernel
theorem dL_law_499 : decode cL_law 499 = .ok (.iload 4, 2) := by decide +kernel
theorem dL_law_501 : decode cL_law 501 = .ok (.iconst 1, 1) := by decide +kernel
theorem dL_law_502 : decode cL_law 502 = .ok (.iadd, 1) := by decide +kernel
theorem dL_law_503 : decode cL_law 503 = .ok (.iaload, 1) := by decide +kernel
theorem dL_law_504 : decode cL_law 504 = .ok (.invokevirtual 98, 3) := by decide +kernel
theorem dL_law_507 : decode cL_law 507 = .ok (.istore 6, 2) := by decide +kernel
theorem dL_law_509 : decode cL_law 509 = .ok (.aload_n 2, 1) := by decide +kernel
theorem dL_law_510 : decode cL_law 510 = .ok (.invokevirtual 78, 3) := by decide +kernel
theorem dL_law_513 : decode cL_law 513 = .ok (.iload 5, 2) := by decide +kernel
theorem dL_law_515 : decode cL_law 515 = .ok (.if_icmp .eq 5, 3) := by decide +kernel
theorem dL_law_518 : decode cL_law 518 = .ok (.iconst 0, 1) := by decide +kernel
theorem dL_law_519 : decode cL_law 519 = .ok (.ireturn, 1) := by decide +kernel
theorem dL_law_520 : decode cL_law 520 = .ok (.iload 5, 2) := by decide +kernel
theorem dL_law_522 : decode cL_law 522 = .ok (.ifCond .ne 15, 3) := by decide +kernel
theorem dL_law_525 : decode cL_law 525 = .ok (.aload_n 3, 1) := by decide +kernel
theorem dL_law_526 : decode cL_law 526 = .ok (.iconst 0, 1) := by decide +kernel
theorem dL_law_527 : decode cL_law 527 = .ok (.laload, 1) := by decide +kernel
theorem dL_law_528 : decode cL_law 528 = .ok (.iload 6, 2) := by decide +kernel
theorem dL_law_530 : decode cL_law 530 = .ok (.i2l, 1) := by decide +kernel
theorem dL_law_531 : decode cL_law 531 = .ok (.lcmp, 1) := by decide +kernel
theorem dL_law_532 : decode cL_law 532 = .ok (.ifCond .eq 5, 3) := by decide +kernel
theorem dL_law_535 : decode cL_law 535 = .ok (.iconst 0, 1) := by decide +kernel
theorem dL_law_536 : decode cL_law 536 = .ok (.ireturn, 1) := by decide +kernel
theorem dL_law_537 : decode cL_law 537 = .ok (.goto 637, 3) := by decide +kernel
theorem dL_law_540 : decode cL_law 540 = .ok (.aload_n 1, 1) := by decide +kernel
theorem dL_law_541 : decode cL_law 541 = .ok (.aload_n 0, 1) := by decide +kernel
theorem dL_law_542 : decode cL_law 542 = .ok (.iload 4, 2) := by decide +kernel
theorem dL_law_544 : decode cL_law 544 = .ok (.iconst 1, 1) := by decide +kernel
theorem dL_law_545 : decode cL_law 545 = .ok (.iadd, 1) := by decide +kernel
theorem dL_law_546 : decode cL_law 546 = .ok (.iaload, 1) := by decide +kernel
theorem dL_law_547 : decode cL_law 547 = .ok (.aload_n 3, 1) := by decide +kernel
theorem dL_law_548 : decode cL_law 548 = .ok (.invokestatic 99, 3) := by decide +kernel
theorem dL_law_551 : decode cL_law 551 = .ok (.istore 5, 2) := by decide +kernel
theorem dL_law_553 : decode cL_law 553 = .ok (.aload_n 2, 1) := by decide +kernel
theorem dL_law_554 : decode cL_law 554 = .ok (.aload_n 0, 1) := by decide +kernel
theorem dL_law_555 : decode cL_law 555 = .ok (.iload 4, 2) := by decide +kernel
theorem dL_law_557 : decode cL_law 557 = .ok (.iconst 1, 1) := by decide +kernel
theorem dL_law_558 : decode cL_law 558 = .ok (.iadd, 1) := by decide +kernel
theorem dL_law_559 : decode cL_law 559 = .ok (.iaload, 1) := by decide +kernel
theorem dL_law_560 : decode cL_law 560 = .ok (.invokevirtual 101, 3) := by decide +kernel
theorem dL_law_563 : decode cL_law 563 = .ok (.istore 6, 2) := by decide +kernel
theorem dL_law_565 : decode cL_law 565 = .ok (.aload_n 2, 1) := by decide +kernel
theorem dL_law_566 : decode cL_law 566 = .ok (.invokevirtual 78, 3) := by decide +kernel
theorem dL_law_569 : decode cL_law 569 = .ok (.iload 5, 2) := by decide +kernel
theorem dL_law_571 : decode cL_law 571 = .ok (.if_icmp .eq 5, 3) := by decide +kernel
theorem dL_law_574 : decode cL_law 574 = .ok (.iconst 0, 1) := by decide +kernel
theorem dL_law_575 : decode cL_law 575 = .ok (.ireturn, 1) := by decide +kernel
theorem dL_law_576 : decode cL_law 576 = .ok (.iload 5, 2) := by decide +kernel
theorem dL_law_578 : decode cL_law 578 = .ok (.ifCond .ne 15, 3) := by decide +kernel
theorem dL_law_581 : decode cL_law 581 = .ok (.aload_n 3, 1) := by decide +kernel
theorem dL_law_582 : decode cL_law 582 = .ok (.iconst 0, 1) := by decide +kernel
theorem dL_law_583 : decode cL_law 583 = .ok (.laload, 1) := by decide +kernel
theorem dL_law_584 : decode cL_law 584 = .ok (.iload 6, 2) := by decide +kernel
theorem dL_law_586 : decode cL_law 586 = .ok (.i2l, 1) := by decide +kernel
theorem dL_law_587 : decode cL_law 587 = .ok (.lcmp, 1) := by decide +kernel
theorem dL_law_588 : decode cL_law 588 = .ok (.ifCond .eq 5, 3) := by decide +kernel
theorem dL_law_591 : decode cL_law 591 = .ok (.iconst 0, 1) := by decide +kernel
theorem dL_law_592 : decode cL_law 592 = .ok (.ireturn, 1) := by decide +kernel
theorem dL_law_593 : decode cL_law 593 = .ok (.goto 581, 3) := by decide +kernel
theorem dL_law_596 : decode cL_law 596 = .ok (.aload_n 1, 1) := by decide +kernel
theorem dL_law_597 : decode cL_law 597 = .ok (.aload_n 0, 1) := by decide +kernel
theorem dL_law_598 : decode cL_law 598 = .ok (.iload 4, 2) := by decide +kernel
theorem dL_law_600 : decode cL_law 600 = .ok (.iconst 1, 1) := by decide +kernel
theorem dL_law_601 : decode cL_law 601 = .ok (.iadd, 1) := by decide +kernel
theorem dL_law_602 : decode cL_law 602 = .ok (.iaload, 1) := by decide +kernel
theorem dL_law_603 : decode cL_law 603 = .ok (.aload_n 0, 1) := by decide +kernel
theorem dL_law_604 : decode cL_law 604 = .ok (.iload 4, 2) := by decide +kernel
theorem dL_law_606 : decode cL_law 606 = .ok (.iconst 2, 1) := by decide +kernel
theorem dL_law_607 : decode cL_law 607 = .ok (.iadd, 1) := by decide +kernel
theorem dL_law_608 : decode cL_law 608 = .ok (.iaload, 1) := by decide +kernel
theorem dL_law_609 : decode cL_law 609 = .ok (.ifCond .eq 7, 3) := by decide +kernel
theorem dL_law_612 : decode cL_law 612 = .ok (.iconst 1, 1) := by decide +kernel
theorem dL_law_613 : decode cL_law 613 = .ok (.goto 4, 3) := by decide +kernel
theorem dL_law_616 : decode cL_law 616 = .ok (.iconst 0, 1) := by decide +kernel
theorem dL_law_617 : decode cL_law 617 = .ok (.aload_n 3, 1) := by decide +kernel
theorem dL_law_618 : decode cL_law 618 = .ok (.invokestatic 102, 3) := by decide +kernel
theorem dL_law_621 : decode cL_law 621 = .ok (.istore 5, 2) := by decide +kernel
theorem dL_law_623 : decode cL_law 623 = .ok (.aload_n 2, 1) := by decide +kernel
theorem dL_law_624 : decode cL_law 624 = .ok (.aload_n 0, 1) := by decide +kernel
theorem dL_law_625 : decode cL_law 625 = .ok (.iload 4, 2) := by decide +kernel
theorem dL_law_627 : decode cL_law 627 = .ok (.iconst 1, 1) := by decide +kernel
theorem dL_law_628 : decode cL_law 628 = .ok (.iadd, 1) := by decide +kernel
theorem dL_law_629 : decode cL_law 629 = .ok (.iaload, 1) := by decide +kernel
theorem dL_law_630 : decode cL_law 630 = .ok (.aload_n 0, 1) := by decide +kernel
theorem dL_law_631 : decode cL_law 631 = .ok (.iload 4, 2) := by decide +kernel
theorem dL_law_633 : decode cL_law 633 = .ok (.iconst 2, 1) := by decide +kernel
theorem dL_law_634 : decode cL_law 634 = .ok (.iadd, 1) := by decide +kernel
theorem dL_law_635 : decode cL_law 635 = .ok (.iaload, 1) := by decide +kernel
theorem dL_law_636 : decode cL_law 636 = .ok (.ifCond .eq 7, 3) := by decide +kernel
theorem dL_law_639 : decode cL_law 639 = .ok (.iconst 1, 1) := by decide +kernel
theorem dL_law_640 : decode cL_law 640 = .ok (.goto 4, 3) := by decide +kernel
theorem dL_law_643 : decode cL_law 643 = .ok (.iconst 0, 1) := by decide +kernel
theorem dL_law_644 : decode cL_law 644 = .ok (.invokevirtual 105, 3) := by decide +kernel
theorem dL_law_647 : decode cL_law 647 = .ok (.istore 6, 2) := by decide +kernel
theorem dL_law_649 : decode cL_law 649 = .ok (.aload_n 2, 1) := by decide +kernel
theorem dL_law_650 : decode cL_law 650 = .ok (.invokevirtual 78, 3) := by decide +kernel
theorem dL_law_653 : decode cL_law 653 = .ok (.iload 5, 2) := by decide +kernel
theorem dL_law_655 : decode cL_law 655 = .ok (.if_icmp .eq 5, 3) := by decide +kernel
theorem dL_law_658 : decode cL_law 658 = .ok (.iconst 0, 1) := by decide +kernel
theorem dL_law_659 : decode cL_law 659 = .ok (.ireturn, 1) := by decide +kernel
theorem dL_law_660 : decode cL_law 660 = .ok (.iload 5, 2) := by decide +kernel
theorem dL_law_662 : decode cL_law 662 = .ok (.ifCond .ne 22, 3) := by decide +kernel
theorem dL_law_665 : decode cL_law 665 = .ok (.aload_n 3, 1) := by decide +kernel
theorem dL_law_666 : decode cL_law 666 = .ok (.iconst 0, 1) := by decide +kernel
theorem dL_law_667 : decode cL_law 667 = .ok (.laload, 1) := by decide +kernel
theorem dL_law_668 : decode cL_law 668 = .ok (.iload 6, 2) := by decide +kernel
theorem dL_law_670 : decode cL_law 670 = .ok (.ifCond .eq 7, 3) := by decide +kernel
theorem dL_law_673 : decode cL_law 673 = .ok (.lconst 1, 1) := by decide +kernel
theorem dL_law_674 : decode cL_law 674 = .ok (.goto 4, 3) := by decide +kernel
theorem dL_law_677 : decode cL_law 677 = .ok (.lconst 0, 1) := by decide +kernel
theorem dL_law_678 : decode cL_law 678 = .ok (.lcmp, 1) := by decide +kernel
theorem dL_law_679 : decode cL_law 679 = .ok (.ifCond .eq 5, 3) := by decide +kernel
theorem dL_law_682 : decode cL_law 682 = .ok (.iconst 0, 1) := by decide +kernel
theorem dL_law_683 : decode cL_law 683 = .ok (.ireturn, 1) := by decide +kernel
theorem dL_law_684 : decode cL_law 684 = .ok (.goto 490, 3) := by decide +kernel
theorem dL_law_687 : decode cL_law 687 = .ok (.aload_n 1, 1) := by decide +kernel
theorem dL_law_688 : decode cL_law 688 = .ok (.aload_n 0, 1) := by decide +kernel
theorem dL_law_689 : decode cL_law 689 = .ok (.iload 4, 2) := by decide +kernel
theorem dL_law_691 : decode cL_law 691 = .ok (.iconst 1, 1) := by decide +kernel
theorem dL_law_692 : decode cL_law 692 = .ok (.iadd, 1) := by decide +kernel
theorem dL_law_693 : decode cL_law 693 = .ok (.iaload, 1) := by decide +kernel
theorem dL_law_694 : decode cL_law 694 = .ok (.aload_n 0, 1) := by decide +kernel
theorem dL_law_695 : decode cL_law 695 = .ok (.iload 4, 2) := by decide +kernel
theorem dL_law_697 : decode cL_law 697 = .ok (.iconst 2, 1) := by decide +kernel
theorem dL_law_698 : decode cL_law 698 = .ok (.iadd, 1) := by decide +kernel
theorem dL_law_699 : decode cL_law 699 = .ok (.iaload, 1) := by decide +kernel
theorem dL_law_700 : decode cL_law 700 = .ok (.aload_n 3, 1) := by decide +kernel
theorem dL_law_701 : decode cL_law 701 = .ok (.invokestatic 106, 3) := by decide +kernel
theorem dL_law_704 : decode cL_law 704 = .ok (.istore 5, 2) := by decide +kernel
theorem dL_law_706 : decode cL_law 706 = .ok (.aload_n 2, 1) := by decide +kernel
theorem dL_law_707 : decode cL_law 707 = .ok (.aload_n 0, 1) := by decide +kernel
theorem dL_law_708 : decode cL_law 708 = .ok (.iload 4, 2) := by decide +kernel
theorem dL_law_710 : decode cL_law 710 = .ok (.iconst 1, 1) := by decide +kernel
theorem dL_law_711 : decode cL_law 711 = .ok (.iadd, 1) := by decide +kernel
theorem dL_law_712 : decode cL_law 712 = .ok (.iaload, 1) := by decide +kernel
theorem dL_law_713 : decode cL_law 713 = .ok (.aload_n 0, 1) := by decide +kernel
theorem dL_law_714 : decode cL_law 714 = .ok (.iload 4, 2) := by decide +kernel
theorem dL_law_716 : decode cL_law 716 = .ok (.iconst 2, 1) := by decide +kernel
theorem dL_law_717 : decode cL_law 717 = .ok (.iadd, 1) := by decide +kernel
theorem dL_law_718 : decode cL_law 718 = .ok (.iaload, 1) := by decide +kernel
theorem dL_law_719 : decode cL_law 719 = .ok (.invokevirtual 109, 3) := by decide +kernel
theorem dL_law_722 : decode cL_law 722 = .ok (.istore 6, 2) := by decide +kernel
theorem dL_law_724 : decode cL_law 724 = .ok (.aload_n 2, 1) := by decide +kernel
theorem dL_law_725 : decode cL_law 725 = .ok (.invokevirtual 78, 3) := by decide +kernel
theorem dL_law_728 : decode cL_law 728 = .ok (.iload 5, 2) := by decide +kernel
theorem dL_law_730 : decode cL_law 730 = .ok (.if_icmp .eq 5, 3) := by decide +kernel
theorem dL_law_733 : decode cL_law 733 = .ok (.iconst 0, 1) := by decide +kernel
theorem dL_law_734 : decode cL_law 734 = .ok (.ireturn, 1) := by decide +kernel
theorem dL_law_735 : decode cL_law 735 = .ok (.iload 5, 2) := by decide +kernel
theorem dL_law_737 : decode cL_law 737 = .ok (.ifCond .ne 15, 3) := by decide +kernel
theorem dL_law_740 : decode cL_law 740 = .ok (.aload_n 3, 1) := by decide +kernel
theorem dL_law_741 : decode cL_law 741 = .ok (.iconst 0, 1) := by decide +kernel
theorem dL_law_742 : decode cL_law 742 = .ok (.laload, 1) := by decide +kernel
theorem dL_law_743 : decode cL_law 743 = .ok (.iload 6, 2) := by decide +kernel
theorem dL_law_745 : decode cL_law 745 = .ok (.i2l, 1) := by decide +kernel
theorem dL_law_746 : decode cL_law 746 = .ok (.lcmp, 1) := by decide +kernel
theorem dL_law_747 : decode cL_law 747 = .ok (.ifCond .eq 5, 3) := by decide +kernel
theorem dL_law_750 : decode cL_law 750 = .ok (.iconst 0, 1) := by decide +kernel
theorem dL_law_751 : decode cL_law 751 = .ok (.ireturn, 1) := by decide +kernel
theorem dL_law_752 : decode cL_law 752 = .ok (.goto 422, 3) := by decide +kernel
theorem dL_law_755 : decode cL_law 755 = .ok (.aload_n 1, 1) := by decide +kernel
theorem dL_law_756 : decode cL_law 756 = .ok (.invokevirtual 110, 3) := by decide +kernel
theorem dL_law_759 : decode cL_law 759 = .ok (.aload_n 2, 1) := by decide +kernel
theorem dL_law_760 : decode cL_law 760 = .ok (.invokevirtual 113, 3) := by decide +kernel
theorem dL_law_763 : decode cL_law 763 = .ok (.if_icmp .eq 411, 3) := by decide +kernel
theorem dL_law_766 : decode cL_law 766 = .ok (.iconst 0, 1) := by decide +kernel
theorem dL_law_767 : decode cL_law 767 = .ok (.ireturn, 1) := by decide +kernel
theorem dL_law_768 : decode cL_law 768 = .ok (.aload_n 1, 1) := by decide +kernel
theorem dL_law_769 : decode cL_law 769 = .ok (.aload_n 0, 1) := by decide +kernel
theorem dL_law_770 : decode cL_law 770 = .ok (.iload 4, 2) := by decide +kernel
theorem dL_law_772 : decode cL_law 772 = .ok (.iconst 1, 1) := by decide +kernel
theorem dL_law_773 : decode cL_law 773 = .ok (.iadd, 1) := by decide +kernel
theorem dL_law_774 : decode cL_law 774 = .ok (.iaload, 1) := by decide +kernel
theorem dL_law_775 : decode cL_law 775 = .ok (.aload_n 0, 1) := by decide +kernel
theorem dL_law_776 : decode cL_law 776 = .ok (.iload 4, 2) := by decide +kernel
theorem dL_law_778 : decode cL_law 778 = .ok (.iconst 2, 1) := by decide +kernel
theorem dL_law_779 : decode cL_law 779 = .ok (.iadd, 1) := by decide +kernel
theorem dL_law_780 : decode cL_law 780 = .ok (.iaload, 1) := by decide +kernel
theorem dL_law_781 : decode cL_law 781 = .ok (.aload_n 3, 1) := by decide +kernel
theorem dL_law_782 : decode cL_law 782 = .ok (.invokestatic 114, 3) := by decide +kernel
theorem dL_law_785 : decode cL_law 785 = .ok (.istore 5, 2) := by decide +kernel
theorem dL_law_787 : decode cL_law 787 = .ok (.aload_n 2, 1) := by decide +kernel
theorem dL_law_788 : decode cL_law 788 = .ok (.aload_n 0, 1) := by decide +kernel
theorem dL_law_789 : decode cL_law 789 = .ok (.iload 4, 2) := by decide +kernel
theorem dL_law_791 : decode cL_law 791 = .ok (.iconst 1, 1) := by decide +kernel
theorem dL_law_792 : decode cL_law 792 = .ok (.iadd, 1) := by decide +kernel
theorem dL_law_793 : decode cL_law 793 = .ok (.iaload, 1) := by decide +kernel
theorem dL_law_794 : decode cL_law 794 = .ok (.aload_n 0, 1) := by decide +kernel
theorem dL_law_795 : decode cL_law 795 = .ok (.iload 4, 2) := by decide +kernel
theorem dL_law_797 : decode cL_law 797 = .ok (.iconst 2, 1) := by decide +kernel
theorem dL_law_798 : decode cL_law 798 = .ok (.iadd, 1) := by decide +kernel
theorem dL_law_799 : decode cL_law 799 = .ok (.iaload, 1) := by decide +kernel
theorem dL_law_800 : decode cL_law 800 = .ok (.invokevirtual 116, 3) := by decide +kernel
theorem dL_law_803 : decode cL_law 803 = .ok (.istore 6, 2) := by decide +kernel
theorem dL_law_805 : decode cL_law 805 = .ok (.aload_n 2, 1) := by decide +kernel
theorem dL_law_806 : decode cL_law 806 = .ok (.invokevirtual 78, 3) := by decide +kernel
theorem dL_law_809 : decode cL_law 809 = .ok (.iload 5, 2) := by decide +kernel
theorem dL_law_811 : decode cL_law 811 = .ok (.if_icmp .eq 5, 3) := by decide +kernel
theorem dL_law_814 : decode cL_law 814 = .ok (.iconst 0, 1) := by decide +kernel
theorem dL_law_815 : decode cL_law 815 = .ok (.ireturn, 1) := by decide +kernel
theorem dL_law_816 : decode cL_law 816 = .ok (.iload 5, 2) := by decide +kernel
theorem dL_law_818 : decode cL_law 818 = .ok (.ifCond .ne 15, 3) := by decide +kernel
theorem dL_law_821 : decode cL_law 821 = .ok (.aload_n 3, 1) := by decide +kernel
theorem dL_law_822 : decode cL_law 822 = .ok (.iconst 0, 1) := by decide +kernel
theorem dL_law_823 : decode cL_law 823 = .ok (.laload, 1) := by decide +kernel
theorem dL_law_824 : decode cL_law 824 = .ok (.iload 6, 2) := by decide +kernel
theorem dL_law_826 : decode cL_law 826 = .ok (.i2l, 1) := by decide +kernel
theorem dL_law_827 : decode cL_law 827 = .ok (.lcmp, 1) := by decide +kernel
theorem dL_law_828 : decode cL_law 828 = .ok (.ifCond .eq 5, 3) := by decide +kernel
theorem dL_law_831 : decode cL_law 831 = .ok (.iconst 0, 1) := by decide +kernel
theorem dL_law_832 : decode cL_law 832 = .ok (.ireturn, 1) := by decide +kernel
theorem dL_law_833 : decode cL_law 833 = .ok (.goto 341, 3) := by decide +kernel
theorem dL_law_836 : decode cL_law 836 = .ok (.aload_n 1, 1) := by decide +kernel
theorem dL_law_837 : decode cL_law 837 = .ok (.aload_n 0, 1) := by decide +kernel
theorem dL_law_838 : decode cL_law 838 = .ok (.iload 4, 2) := by decide +kernel
theorem dL_law_840 : decode cL_law 840 = .ok (.iconst 1, 1) := by decide +kernel
theorem dL_law_841 : decode cL_law 841 = .ok (.iadd, 1) := by decide +kernel
theorem dL_law_842 : decode cL_law 842 = .ok (.iaload, 1) := by decide +kernel
theorem dL_law_843 : decode cL_law 843 = .ok (.aload_n 0, 1) := by decide +kernel
theorem dL_law_844 : decode cL_law 844 = .ok (.iload 4, 2) := by decide +kernel
theorem dL_law_846 : decode cL_law 846 = .ok (.iconst 2, 1) := by decide +kernel
theorem dL_law_847 : decode cL_law 847 = .ok (.iadd, 1) := by decide +kernel
theorem dL_law_848 : decode cL_law 848 = .ok (.iaload, 1) := by decide +kernel
theorem dL_law_849 : decode cL_law 849 = .ok (.aload_n 0, 1) := by decide +kernel
theorem dL_law_850 : decode cL_law 850 = .ok (.iload 4, 2) := by decide +kernel
theorem dL_law_852 : decode cL_law 852 = .ok (.iconst 3, 1) := by decide +kernel
theorem dL_law_853 : decode cL_law 853 = .ok (.iadd, 1) := by decide +kernel
theorem dL_law_854 : decode cL_law 854 = .ok (.iaload, 1) := by decide +kernel
theorem dL_law_855 : decode cL_law 855 = .ok (.aload_n 3, 1) := by decide +kernel
theorem dL_law_856 : decode cL_law 856 = .ok (.invokestatic 117, 3) := by decide +kernel
theorem dL_law_859 : decode cL_law 859 = .ok (.istore 5, 2) := by decide +kernel
theorem dL_law_861 : decode cL_law 861 = .ok (.aload_n 2, 1) := by decide +kernel
theorem dL_law_862 : decode cL_law 862 = .ok (.aload_n 0, 1) := by decide +kernel
theorem dL_law_863 : decode cL_law 863 = .ok (.iload 4, 2) := by decide +kernel
theorem dL_law_865 : decode cL_law 865 = .ok (.iconst 1, 1) := by decide +kernel
theorem dL_law_866 : decode cL_law 866 = .ok (.iadd, 1) := by decide +kernel
theorem dL_law_867 : decode cL_law 867 = .ok (.iaload, 1) := by decide +kernel
theorem dL_law_868 : decode cL_law 868 = .ok (.aload_n 0, 1) := by decide +kernel
theorem dL_law_869 : decode cL_law 869 = .ok (.iload 4, 2) := by decide +kernel
theorem dL_law_871 : decode cL_law 871 = .ok (.iconst 2, 1) := by decide +kernel
theorem dL_law_872 : decode cL_law 872 = .ok (.iadd, 1) := by decide +kernel
theorem dL_law_873 : decode cL_law 873 = .ok (.iaload, 1) := by decide +kernel
theorem dL_law_874 : decode cL_law 874 = .ok (.aload_n 0, 1) := by decide +kernel
theorem dL_law_875 : decode cL_law 875 = .ok (.iload 4, 2) := by decide +kernel
theorem dL_law_877 : decode cL_law 877 = .ok (.iconst 3, 1) := by decide +kernel
theorem dL_law_878 : decode cL_law 878 = .ok (.iadd, 1) := by decide +kernel
theorem dL_law_879 : decode cL_law 879 = .ok (.iaload, 1) := by decide +kernel
theorem dL_law_880 : decode cL_law 880 = .ok (.invokevirtual 120, 3) := by decide +kernel
theorem dL_law_883 : decode cL_law 883 = .ok (.istore 6, 2) := by decide +kernel
theorem dL_law_885 : decode cL_law 885 = .ok (.aload_n 2, 1) := by decide +kernel
theorem dL_law_886 : decode cL_law 886 = .ok (.invokevirtual 78, 3) := by decide +kernel
theorem dL_law_889 : decode cL_law 889 = .ok (.iload 5, 2) := by decide +kernel
theorem dL_law_891 : decode cL_law 891 = .ok (.if_icmp .eq 5, 3) := by decide +kernel
theorem dL_law_894 : decode cL_law 894 = .ok (.iconst 0, 1) := by decide +kernel
theorem dL_law_895 : decode cL_law 895 = .ok (.ireturn, 1) := by decide +kernel
theorem dL_law_896 : decode cL_law 896 = .ok (.iload 5, 2) := by decide +kernel
theorem dL_law_898 : decode cL_law 898 = .ok (.ifCond .ne 15, 3) := by decide +kernel
theorem dL_law_901 : decode cL_law 901 = .ok (.aload_n 3, 1) := by decide +kernel
theorem dL_law_902 : decode cL_law 902 = .ok (.iconst 0, 1) := by decide +kernel
theorem dL_law_903 : decode cL_law 903 = .ok (.laload, 1) := by decide +kernel
theorem dL_law_904 : decode cL_law 904 = .ok (.iload 6, 2) := by decide +kernel
theorem dL_law_906 : decode cL_law 906 = .ok (.i2l, 1) := by decide +kernel
theorem dL_law_907 : decode cL_law 907 = .ok (.lcmp, 1) := by decide +kernel
theorem dL_law_908 : decode cL_law 908 = .ok (.ifCond .eq 5, 3) := by decide +kernel
theorem dL_law_911 : decode cL_law 911 = .ok (.iconst 0, 1) := by decide +kernel
theorem dL_law_912 : decode cL_law 912 = .ok (.ireturn, 1) := by decide +kernel
theorem dL_law_913 : decode cL_law 913 = .ok (.goto 261, 3) := by decide +kernel
theorem dL_law_916 : decode cL_law 916 = .ok (.aload_n 1, 1) := by decide +kernel
theorem dL_law_917 : decode cL_law 917 = .ok (.aload_n 0, 1) := by decide +kernel
theorem dL_law_918 : decode cL_law 918 = .ok (.iload 4, 2) := by decide +kernel
theorem dL_law_920 : decode cL_law 920 = .ok (.iconst 1, 1) := by decide +kernel
theorem dL_law_921 : decode cL_law 921 = .ok (.iadd, 1) := by decide +kernel
theorem dL_law_922 : decode cL_law 922 = .ok (.iaload, 1) := by decide +kernel
theorem dL_law_923 : decode cL_law 923 = .ok (.aload_n 0, 1) := by decide +kernel
theorem dL_law_924 : decode cL_law 924 = .ok (.iload 4, 2) := by decide +kernel
theorem dL_law_926 : decode cL_law 926 = .ok (.iconst 2, 1) := by decide +kernel
theorem dL_law_927 : decode cL_law 927 = .ok (.iadd, 1) := by decide +kernel
theorem dL_law_928 : decode cL_law 928 = .ok (.iaload, 1) := by decide +kernel
theorem dL_law_929 : decode cL_law 929 = .ok (.aload_n 3, 1) := by decide +kernel
theorem dL_law_930 : decode cL_law 930 = .ok (.invokestatic 121, 3) := by decide +kernel
theorem dL_law_933 : decode cL_law 933 = .ok (.istore 5, 2) := by decide +kernel
theorem dL_law_935 : decode cL_law 935 = .ok (.aload_n 2, 1) := by decide +kernel
theorem dL_law_936 : decode cL_law 936 = .ok (.aload_n 0, 1) := by decide +kernel
theorem dL_law_937 : decode cL_law 937 = .ok (.iload 4, 2) := by decide +kernel
theorem dL_law_939 : decode cL_law 939 = .ok (.iconst 1, 1) := by decide +kernel
theorem dL_law_940 : decode cL_law 940 = .ok (.iadd, 1) := by decide +kernel
theorem dL_law_941 : decode cL_law 941 = .ok (.iaload, 1) := by decide +kernel
theorem dL_law_942 : decode cL_law 942 = .ok (.aload_n 0, 1) := by decide +kernel
theorem dL_law_943 : decode cL_law 943 = .ok (.iload 4, 2) := by decide +kernel
theorem dL_law_945 : decode cL_law 945 = .ok (.iconst 2, 1) := by decide +kernel
theorem dL_law_946 : decode cL_law 946 = .ok (.iadd, 1) := by decide +kernel
theorem dL_law_947 : decode cL_law 947 = .ok (.iaload, 1) := by decide +kernel
theorem dL_law_948 : decode cL_law 948 = .ok (.invokevirtual 123, 3) := by decide +kernel
theorem dL_law_951 : decode cL_law 951 = .ok (.lstore 6, 2) := by decide +kernel
theorem dL_law_953 : decode cL_law 953 = .ok (.aload_n 2, 1) := by decide +kernel
theorem dL_law_954 : decode cL_law 954 = .ok (.invokevirtual 78, 3) := by decide +kernel
theorem dL_law_957 : decode cL_law 957 = .ok (.iload 5, 2) := by decide +kernel
theorem dL_law_959 : decode cL_law 959 = .ok (.if_icmp .eq 5, 3) := by decide +kernel
theorem dL_law_962 : decode cL_law 962 = .ok (.iconst 0, 1) := by decide +kernel
theorem dL_law_963 : decode cL_law 963 = .ok (.ireturn, 1) := by decide +kernel
theorem dL_law_964 : decode cL_law 964 = .ok (.iload 5, 2) := by decide +kernel
theorem dL_law_966 : decode cL_law 966 = .ok (.ifCond .ne 14, 3) := by decide +kernel
theorem dL_law_969 : decode cL_law 969 = .ok (.aload_n 3, 1) := by decide +kernel
theorem dL_law_970 : decode cL_law 970 = .ok (.iconst 0, 1) := by decide +kernel
theorem dL_law_971 : decode cL_law 971 = .ok (.laload, 1) := by decide +kernel
theorem dL_law_972 : decode cL_law 972 = .ok (.lload 6, 2) := by decide +kernel
theorem dL_law_974 : decode cL_law 974 = .ok (.lcmp, 1) := by decide +kernel
theorem dL_law_975 : decode cL_law 975 = .ok (.ifCond .eq 5, 3) := by decide +kernel
theorem dL_law_978 : decode cL_law 978 = .ok (.iconst 0, 1) := by decide +kernel
theorem dL_law_979 : decode cL_law 979 = .ok (.ireturn, 1) := by decide +kernel
theorem dL_law_980 : decode cL_law 980 = .ok (.goto 194, 3) := by decide +kernel
theorem dL_law_983 : decode cL_law 983 = .ok (.aload_n 1, 1) := by decide +kernel
theorem dL_law_984 : decode cL_law 984 = .ok (.aload_n 0, 1) := by decide +kernel
theorem dL_law_985 : decode cL_law 985 = .ok (.iload 4, 2) := by decide +kernel
theorem dL_law_987 : decode cL_law 987 = .ok (.iconst 1, 1) := by decide +kernel
theorem dL_law_988 : decode cL_law 988 = .ok (.iadd, 1) := by decide +kernel
theorem dL_law_989 : decode cL_law 989 = .ok (.iaload, 1) := by decide +kernel
theorem dL_law_990 : decode cL_law 990 = .ok (.aload_n 0, 1) := by decide +kernel
theorem dL_law_991 : decode cL_law 991 = .ok (.iload 4, 2) := by decide +kernel
theorem dL_law_993 : decode cL_law 993 = .ok (.iconst 2, 1) := by decide +kernel
theorem dL_law_994 : decode cL_law 994 = .ok (.iadd, 1) := by decide +kernel
theorem dL_law_995 : decode cL_law 995 = .ok (.iaload, 1) := by decide +kernel
theorem dL_law_996 : decode cL_law 996 = .ok (.aload_n 3, 1) := by decide +kernel
theorem dL_law_997 : decode cL_law 997 = .ok (.invokestatic 124, 3) := by decide +kernel
theorem dL_law_1000 : decode cL_law 1000 = .ok (.istore 5, 2) := by decide +kernel
theorem dL_law_1002 : decode cL_law 1002 = .ok (.aload_n 2, 1) := by decide +kernel
theorem dL_law_1003 : decode cL_law 1003 = .ok (.aload_n 0, 1) := by decide +kernel
theorem dL_law_1004 : decode cL_law 1004 = .ok (.iload 4, 2) := by decide +kernel
theorem dL_law_1006 : decode cL_law 1006 = .ok (.iconst 1, 1) := by decide +kernel
theorem dL_law_1007 : decode cL_law 1007 = .ok (.iadd, 1) := by decide +kernel
theorem dL_law_1008 : decode cL_law 1008 = .ok (.iaload, 1) := by decide +kernel
theorem dL_law_1009 : decode cL_law 1009 = .ok (.aload_n 0, 1) := by decide +kernel
theorem dL_law_1010 : decode cL_law 1010 = .ok (.iload 4, 2) := by decide +kernel
theorem dL_law_1012 : decode cL_law 1012 = .ok (.iconst 2, 1) := by decide +kernel
theorem dL_law_1013 : decode cL_law 1013 = .ok (.iadd, 1) := by decide +kernel
theorem dL_law_1014 : decode cL_law 1014 = .ok (.iaload, 1) := by decide +kernel
theorem dL_law_1015 : decode cL_law 1015 = .ok (.invokevirtual 126, 3) := by decide +kernel
theorem dL_law_1018 : decode cL_law 1018 = .ok (.istore 6, 2) := by decide +kernel
theorem dL_law_1020 : decode cL_law 1020 = .ok (.aload_n 2, 1) := by decide +kernel
theorem dL_law_1021 : decode cL_law 1021 = .ok (.invokevirtual 78, 3) := by decide +kernel
theorem dL_law_1024 : decode cL_law 1024 = .ok (.iload 5, 2) := by decide +kernel
theorem dL_law_1026 : decode cL_law 1026 = .ok (.if_icmp .eq 5, 3) := by decide +kernel
theorem dL_law_1029 : decode cL_law 1029 = .ok (.iconst 0, 1) := by decide +kernel
theorem dL_law_1030 : decode cL_law 1030 = .ok (.ireturn, 1) := by decide +kernel
theorem dL_law_1031 : decode cL_law 1031 = .ok (.iload 5, 2) := by decide +kernel
theorem dL_law_1033 : decode cL_law 1033 = .ok (.ifCond .ne 15, 3) := by decide +kernel
theorem dL_law_1036 : decode cL_law 1036 = .ok (.aload_n 3, 1) := by decide +kernel
theorem dL_law_1037 : decode cL_law 1037 = .ok (.iconst 0, 1) := by decide +kernel
theorem dL_law_1038 : decode cL_law 1038 = .ok (.laload, 1) := by decide +kernel
theorem dL_law_1039 : decode cL_law 1039 = .ok (.iload 6, 2) := by decide +kernel
theorem dL_law_1041 : decode cL_law 1041 = .ok (.i2l, 1) := by decide +kernel
theorem dL_law_1042 : decode cL_law 1042 = .ok (.lcmp, 1) := by decide +kernel
theorem dL_law_1043 : decode cL_law 1043 = .ok (.ifCond .eq 5, 3) := by decide +kernel
theorem dL_law_1046 : decode cL_law 1046 = .ok (.iconst 0, 1) := by decide +kernel
theorem dL_law_1047 : decode cL_law 1047 = .ok (.ireturn, 1) := by decide +kernel
theorem dL_law_1048 : decode cL_law 1048 = .ok (.goto 126, 3) := by decide +kernel
theorem dL_law_1051 : decode cL_law 1051 = .ok (.aload_n 1, 1) := by decide +kernel
theorem dL_law_1052 : decode cL_law 1052 = .ok (.aload_n 0, 1) := by decide +kernel
theorem dL_law_1053 : decode cL_law 1053 = .ok (.iload 4, 2) := by decide +kernel
theorem dL_law_1055 : decode cL_law 1055 = .ok (.iconst 1, 1) := by decide +kernel
theorem dL_law_1056 : decode cL_law 1056 = .ok (.iadd, 1) := by decide +kernel
theorem dL_law_1057 : decode cL_law 1057 = .ok (.iaload, 1) := by decide +kernel
theorem dL_law_1058 : decode cL_law 1058 = .ok (.aload_n 0, 1) := by decide +kernel
theorem dL_law_1059 : decode cL_law 1059 = .ok (.iload 4, 2) := by decide +kernel
theorem dL_law_1061 : decode cL_law 1061 = .ok (.iconst 2, 1) := by decide +kernel
theorem dL_law_1062 : decode cL_law 1062 = .ok (.iadd, 1) := by decide +kernel
theorem dL_law_1063 : decode cL_law 1063 = .ok (.iaload, 1) := by decide +kernel
theorem dL_law_1064 : decode cL_law 1064 = .ok (.aload_n 3, 1) := by decide +kernel
theorem dL_law_1065 : decode cL_law 1065 = .ok (.invokestatic 127, 3) := by decide +kernel
theorem dL_law_1068 : decode cL_law 1068 = .ok (.istore 5, 2) := by decide +kernel
theorem dL_law_1070 : decode cL_law 1070 = .ok (.aload_n 2, 1) := by decide +kernel
theorem dL_law_1071 : decode cL_law 1071 = .ok (.aload_n 0, 1) := by decide +kernel
theorem dL_law_1072 : decode cL_law 1072 = .ok (.iload 4, 2) := by decide +kernel
theorem dL_law_1074 : decode cL_law 1074 = .ok (.iconst 1, 1) := by decide +kernel
theorem dL_law_1075 : decode cL_law 1075 = .ok (.iadd, 1) := by decide +kernel
theorem dL_law_1076 : decode cL_law 1076 = .ok (.iaload, 1) := by decide +kernel
theorem dL_law_1077 : decode cL_law 1077 = .ok (.aload_n 0, 1) := by decide +kernel
theorem dL_law_1078 : decode cL_law 1078 = .ok (.iload 4, 2) := by decide +kernel
theorem dL_law_1080 : decode cL_law 1080 = .ok (.iconst 2, 1) := by decide +kernel
theorem dL_law_1081 : decode cL_law 1081 = .ok (.iadd, 1) := by decide +kernel
theorem dL_law_1082 : decode cL_law 1082 = .ok (.iaload, 1) := by decide +kernel
theorem dL_law_1083 : decode cL_law 1083 = .ok (.invokevirtual 129, 3) := by decide +kernel
theorem dL_law_1086 : decode cL_law 1086 = .ok (.istore 6, 2) := by decide +kernel
theorem dL_law_1088 : decode cL_law 1088 = .ok (.aload_n 2, 1) := by decide +kernel
theorem dL_law_1089 : decode cL_law 1089 = .ok (.invokevirtual 78, 3) := by decide +kernel
theorem dL_law_1092 : decode cL_law 1092 = .ok (.iload 5, 2) := by decide +kernel
theorem dL_law_1094 : decode cL_law 1094 = .ok (.if_icmp .eq 5, 3) := by decide +kernel
theorem dL_law_1097 : decode cL_law 1097 = .ok (.iconst 0, 1) := by decide +kernel
theorem dL_law_1098 : decode cL_law 1098 = .ok (.ireturn, 1) := by decide +kernel
theorem dL_law_1099 : decode cL_law 1099 = .ok (.iload 5, 2) := by decide +kernel
theorem dL_law_1101 : decode cL_law 1101 = .ok (.ifCond .ne 15, 3) := by decide +kernel
theorem dL_law_1104 : decode cL_law 1104 = .ok (.aload_n 3, 1) := by decide +kernel
theorem dL_law_1105 : decode cL_law 1105 = .ok (.iconst 0, 1) := by decide +kernel
theorem dL_law_1106 : decode cL_law 1106 = .ok (.laload, 1) := by decide +kernel
theorem dL_law_1107 : decode cL_law 1107 = .ok (.iload 6, 2) := by decide +kernel
theorem dL_law_1109 : decode cL_law 1109 = .ok (.i2l, 1) := by decide +kernel
theorem dL_law_1110 : decode cL_law 1110 = .ok (.lcmp, 1) := by decide +kernel
theorem dL_law_1111 : decode cL_law 1111 = .ok (.ifCond .eq 5, 3) := by decide +kernel
theorem dL_law_1114 : decode cL_law 1114 = .ok (.iconst 0, 1) := by decide +kernel
theorem dL_law_1115 : decode cL_law 1115 = .ok (.ireturn, 1) := by decide +kernel
theorem dL_law_1116 : decode cL_law 1116 = .ok (.goto 58, 3) := by decide +kernel
theorem dL_law_1119 : decode cL_law 1119 = .ok (.aload_n 1, 1) := by decide +kernel
theorem dL_law_1120 : decode cL_law 1120 = .ok (.aload_n 0, 1) := by decide +kernel
theorem dL_law_1121 : decode cL_law 1121 = .ok (.iload 4, 2) := by decide +kernel
theorem dL_law_1123 : decode cL_law 1123 = .ok (.iconst 1, 1) := by decide +kernel
theorem dL_law_1124 : decode cL_law 1124 = .ok (.iadd, 1) := by decide +kernel
theorem dL_law_1125 : decode cL_law 1125 = .ok (.iaload, 1) := by decide +kernel
theorem dL_law_1126 : decode cL_law 1126 = .ok (.aload_n 3, 1) := by decide +kernel
theorem dL_law_1127 : decode cL_law 1127 = .ok (.invokestatic 130, 3) := by decide +kernel
theorem dL_law_1130 : decode cL_law 1130 = .ok (.istore 5, 2) := by decide +kernel
theorem dL_law_1132 : decode cL_law 1132 = .ok (.aload_n 2, 1) := by decide +kernel
theorem dL_law_1133 : decode cL_law 1133 = .ok (.aload_n 0, 1) := by decide +kernel
theorem dL_law_1134 : decode cL_law 1134 = .ok (.iload 4, 2) := by decide +kernel
theorem dL_law_1136 : decode cL_law 1136 = .ok (.iconst 1, 1) := by decide +kernel
theorem dL_law_1137 : decode cL_law 1137 = .ok (.iadd, 1) := by decide +kernel
theorem dL_law_1138 : decode cL_law 1138 = .ok (.iaload, 1) := by decide +kernel
theorem dL_law_1139 : decode cL_law 1139 = .ok (.invokevirtual 132, 3) := by decide +kernel
theorem dL_law_1142 : decode cL_law 1142 = .ok (.lstore 6, 2) := by decide +kernel
theorem dL_law_1144 : decode cL_law 1144 = .ok (.aload_n 2, 1) := by decide +kernel
theorem dL_law_1145 : decode cL_law 1145 = .ok (.invokevirtual 78, 3) := by decide +kernel
theorem dL_law_1148 : decode cL_law 1148 = .ok (.iload 5, 2) := by decide +kernel
theorem dL_law_1150 : decode cL_law 1150 = .ok (.if_icmp .eq 5, 3) := by decide +kernel
theorem dL_law_1153 : decode cL_law 1153 = .ok (.iconst 0, 1) := by decide +kernel
theorem dL_law_1154 : decode cL_law 1154 = .ok (.ireturn, 1) := by decide +kernel
theorem dL_law_1155 : decode cL_law 1155 = .ok (.iload 5, 2) := by decide +kernel
theorem dL_law_1157 : decode cL_law 1157 = .ok (.ifCond .ne 14, 3) := by decide +kernel
theorem dL_law_1160 : decode cL_law 1160 = .ok (.aload_n 3, 1) := by decide +kernel
theorem dL_law_1161 : decode cL_law 1161 = .ok (.iconst 0, 1) := by decide +kernel
theorem dL_law_1162 : decode cL_law 1162 = .ok (.laload, 1) := by decide +kernel
theorem dL_law_1163 : decode cL_law 1163 = .ok (.lload 6, 2) := by decide +kernel
theorem dL_law_1165 : decode cL_law 1165 = .ok (.lcmp, 1) := by decide +kernel
theorem dL_law_1166 : decode cL_law 1166 = .ok (.ifCond .eq 5, 3) := by decide +kernel
theorem dL_law_1169 : decode cL_law 1169 = .ok (.iconst 0, 1) := by decide +kernel
theorem dL_law_1170 : decode cL_law 1170 = .ok (.ireturn, 1) := by decide +kernel
theorem dL_law_1171 : decode cL_law 1171 = .ok (.goto 3, 3) := by decide +kernel
theorem dL_law_1174 : decode cL_law 1174 = .ok (.iinc 4 6, 3) := by decide +kernel
theorem dL_law_1177 : decode cL_law 1177 = .ok (.goto (-1154), 3) := by decide +kernel
theorem dL_law_1180 : decode cL_law 1180 = .ok (.iconst 1, 1) := by decide +kernel
theorem dL_law_1181 : decode cL_law 1181 = .ok (.ireturn, 1) := by decide +kernel
end
section
/-! A WORLD NAMED BY KINDS AND NUMBERS: the thing number i of kind k lies at the address ad k i and holds cell k i; N k things of kind k are there. -/
def up2 {α : Type} (f : Nat → Nat → α) (k i : Nat) (v : α) : Nat → Nat → α := fun k' i' => if k' = k ∧ i' = i then v else f k' i'
theorem up2_s {α : Type} (f : Nat → Nat → α) (k i : Nat) (v : α) : up2 f k i v k i = v := by simp [up2]
theorem up2_n {α : Type} {f : Nat → Nat → α} {k i k' i' : Nat} {v : α} (h : ¬ (k' = k ∧ i' = i)) : up2 f k i v k' i' = f k' i' := by simp [up2, h]
theorem up2_k {α : Type} {f : Nat → Nat → α} {k i k' i' : Nat} {v : α} (h : k' ≠ k) : up2 f k i v k' i' = f k' i' := by simp [up2, h]
theorem up2_i {α : Type} {f : Nat → Nat → α} {k i k' i' : Nat} {v : α} (h : i' ≠ i) : up2 f k i v k' i' = f k' i' := by simp [up2, h]
def gw (D : va_G) (A : Nat → Prop) (ad : Nat → Nat → Nat) (N : Nat → Nat) (cell : Nat → Nat → va_E) (H : Heap) : Prop :=
  (∀ k i : Nat, i < N k → va_at D vwCl (ad k i, cell k i) H ∧ A (ad k i)) ∧ ∀ k i k' i' : Nat, i < N k → i' < N k' → ad k i = ad k' i' → k = k' ∧ i = i'
/-- the addresses of a world, and all from sz on -/
def gA (ad : Nat → Nat → Nat) (N : Nat → Nat) (sz : Nat) : Nat → Prop := fun q => (∃ k i : Nat, i < N k ∧ q = ad k i) ∨ sz ≤ q
section GW
variable {D : va_G} {A B : Nat → Prop} {ad ad' : Nat → Nat → Nat} {N N' : Nat → Nat} {cell cell' : Nat → Nat → va_E} {H H0 H1 : Heap} {locs : List Loc}
theorem gw.at (h : gw D A ad N cell H) {k i : Nat} (hi : i < N k) : va_at D vwCl (ad k i, cell k i) H := (h.1 k i hi).1
theorem gw.inA (h : gw D A ad N cell H) {k i : Nat} (hi : i < N k) : A (ad k i) := (h.1 k i hi).2
theorem gw.lt (h : gw D A ad N cell H) {k i : Nat} (hi : i < N k) : ad k i < H.size := (h.at hi).lt
theorem gw.ne (h : gw D A ad N cell H) {k i k' i' : Nat} (hi : i < N k) (hi' : i' < N k') (hn : ¬ (k' = k ∧ i' = i)) : ad k' i' ≠ ad k i := fun e => hn (h.2 k' i' k i hi' hi e)
theorem gw.upd (h : gw D A ad N cell H) {k i : Nat} (hi : i < N k) (hnew : va_at D vwCl (ad k i, cell' k i) H1) (oq : ∀ q : Nat, q ≠ ad k i → H1[q]? = H[q]?) (ho : ∀ k' i' : Nat, i' < N k' → ¬ (k' = k ∧ i' = i) → cell' k' i' = cell k' i') : gw D A ad N cell' H1 := by
  refine ⟨fun k' i' hi' => ?_, h.2⟩
  by_cases hq : k' = k ∧ i' = i
  · obtain ⟨rfl, rfl⟩ := hq
    exact ⟨hnew, h.inA hi'⟩
  · rw [ho k' i' hi' hq]
    exact ⟨(h.at hi').kept (oq _ (h.ne hi hi' hq)), h.inA hi'⟩
theorem gw.eq (h : gw D A ad N cell H) (he : ∀ k i : Nat, i < N k → cell' k i = cell k i) : gw D A ad N cell' H := ⟨fun k i hi => by rw [he k i hi]; exact h.1 k i hi, h.2⟩
theorem gw.kept (h : gw D A ad N cell H) (hk : ∀ k i : Nat, i < N k → H1[ad k i]? = H[ad k i]?) : gw D A ad N cell H1 := ⟨fun k i hi => ⟨(h.at hi).kept (hk k i hi), h.inA hi⟩, h.2⟩
theorem gw.weaken (h : gw D A ad N cell H) (hAB : ∀ q, A q → B q) : gw D B ad N cell H := ⟨fun k i hi => ⟨h.at hi, hAB _ (h.inA hi)⟩, h.2⟩
theorem gw.all (h : gw D A ad N cell H) : gw D (fun _ => True) ad N cell H := h.weaken (fun _ _ => trivial)
theorem gw.self {sz : Nat} (h : gw D A ad N cell H) : gw D (gA ad N sz) ad N cell H := ⟨fun k i hi => ⟨h.at hi, Or.inl ⟨k, i, hi, rfl⟩⟩, h.2⟩
theorem gw.free (h : gw D A ad N cell H) (hS : va_S A H0 H locs) (hA : ∀ q, H0.size ≤ q → A q) : ∀ q, gA ad N H.size q → A q := by
  intro q hq
  rcases hq with ⟨k, i, hi, rfl⟩ | hq
  · exact h.inA hi
  · exact hA q (Nat.le_trans hS.1 hq)
/-- one thing more of kind k -/
theorem gw.push (h : gw D A ad N cell H) {k : Nat} {e : va_E} (o1 : ∀ q : Nat, q < H.size → H1[q]? = H[q]?) (hA : A H.size) (hnew : va_at D vwCl (H.size, e) H1) :
    gw D A (up2 ad k (N k) H.size) (va_up N k (N k + 1)) (up2 cell k (N k) e) H1 := by
  have hcase : ∀ k' i' : Nat, i' < va_up N k (N k + 1) k' → (k' = k ∧ i' = N k) ∨ (i' < N k' ∧ ¬ (k' = k ∧ i' = N k)) := by
    intro k' i' hi
    by_cases hk : k' = k
    · subst hk
      rw [show va_up N k' (N k' + 1) k' = N k' + 1 from if_pos rfl] at hi
      by_cases hz : i' = N k'
      · exact Or.inl ⟨rfl, hz⟩
      · exact Or.inr ⟨by omega, fun q => hz q.2⟩
    · rw [va_up_ne _ _ hk] at hi
      exact Or.inr ⟨hi, fun q => hk q.1⟩
  refine ⟨fun k' i' hi => ?_, fun k1 i1 k2 i2 h1 h2 he => ?_⟩
  · rcases hcase k' i' hi with ⟨rfl, rfl⟩ | ⟨h1, h2⟩
    · rw [up2_s, up2_s]
      exact ⟨hnew, hA⟩
    · rw [up2_n h2, up2_n h2]
      exact ⟨(h.at h1).kept (o1 _ (h.lt h1)), h.inA h1⟩
  · rcases hcase k1 i1 h1 with ⟨rfl, rfl⟩ | ⟨a1, a2⟩ <;> rcases hcase k2 i2 h2 with ⟨b1, b2⟩ | ⟨b1, b2⟩
    · exact ⟨b1.symm, b2.symm⟩
    · rw [up2_s, up2_n b2] at he
      exact absurd (h.lt b1) (by omega)
    · obtain ⟨rfl, rfl⟩ := And.intro b1 b2
      rw [up2_s, up2_n a2] at he
      exact absurd (h.lt a1) (by omega)
    · rw [up2_n a2, up2_n b2] at he
      exact h.2 _ _ _ _ a1 b1 he
end GW
section GR
variable {p : Program} {l : Launch} {e : Env} {R : Room} {s : State} {m : MethodId} {args : Array Value} {below : List Frame} {meth : Method} {c : Code} {H : Heap} {locs : List Loc} {cells slots : Nat} {Q : State → Prop}
variable {cc : ByteArray} {pc : Nat} {ls : Array Slot} {rest : List Value} {D : va_G} {A : Nat → Prop} {ad : Nat → Nat → Nat} {N : Nat → Nat} {cell : Nat → Nat → va_E} {tys : List (ClassId × FieldType)} {H0 : Heap}
theorem gw_one (h : gw D A ad N cell H) {k i : Nat} (hi : i < N k) : va_P D vwCl [(ad k i, cell k i)] H := by
  intro j q hj
  match j, hj with
  | 0, hj => cases hj; exact h.at hi
  | j + 1, hj => simp at hj
theorem gw_get (hexec : p.tables.exec = Jvm.exec) (hb : c.code = cc) {own ref C : String} {T : u_T} {Nf ci index : Nat} {Ts : List Cond} (hts : ∀ w ∈ Ts, w.before args s = true) (hin : ∀ w ∈ u_ws C T Nf, w ∈ Ts) (hown : s.vm.findClass own = some m.cls) (hK : va_K D vwCl tys s) (hW : gw D A ad N cell H) {k i : Nat} (hi : i < N k) {fs : List Value} (he : cell k i = .inr (ci, fs)) (hc : vwCl[ci]? = some (C, T, Nf)) (f : Nat) (hf : f < Nf) (hlink : (Cond.fieldLink own index ref (T f).2.1 (T f).2.2.1).before args s = true) (hsame : ∀ x, s.fieldFound? (T f).1 (T f).2.1 (T f).2.2.1 = some x → s.fieldFound? ref (T f).2.1 (T f).2.2.1 = some x) {v : Value} (hv : fs[f]? = some v) (hdg : decode cc pc = .ok (.getfield index, 3))
    (kk : W p l e R s m args below meth c H locs cells slots Q (F0 m (pc + 3) ls (v :: rest))) : W p l e R s m args below meth c H locs cells slots Q (F0 m pc ls (.ref (ad k i) :: rest)) :=
  va_get hexec hb hts hin hown hK (gw_one hW hi) 0 (fs := fs) (by rw [he]; rfl) hc f hf hlink hsame hv hdg kk
theorem gw_getN (hexec : p.tables.exec = Jvm.exec) (hb : c.code = cc) {own ref C host : String} {T : u_T} {Nf ci index : Nat} {Ts : List Cond} (hts : ∀ w ∈ Ts, w.before args s = true) (hin : ∀ w ∈ u_ws C T Nf, w ∈ Ts) (hown : s.vm.findClass own = some m.cls) (hK : va_K D vwCl tys s) (hW : gw D A ad N cell H) {k i : Nat} (hi : i < N k) {fs : List Value} (he : cell k i = .inr (ci, fs)) (hc : vwCl[ci]? = some (C, T, Nf)) (f : Nat) (hf : f < Nf) (hlink : va_Nw (.fieldLinkNest own index ref (T f).2.1 (T f).2.2.1 host) s) (hsame : ∀ x, s.fieldFound? (T f).1 (T f).2.1 (T f).2.2.1 = some x → s.fieldFound? ref (T f).2.1 (T f).2.2.1 = some x) {v : Value} (hv : fs[f]? = some v) (hdg : decode cc pc = .ok (.getfield index, 3))
    (kk : W p l e R s m args below meth c H locs cells slots Q (F0 m (pc + 3) ls (v :: rest))) : W p l e R s m args below meth c H locs cells slots Q (F0 m pc ls (.ref (ad k i) :: rest)) :=
  va_getN hexec hb hts hin hown hK (gw_one hW hi) 0 (fs := fs) (by rw [he]; rfl) hc f hf (va_Nw.use rfl hlink) hsame hv hdg kk
theorem gw_put (hexec : p.tables.exec = Jvm.exec) (hb : c.code = cc) {own ref C : String} {T : u_T} {Nf ci index : Nat} {Ts : List Cond} (hts : ∀ w ∈ Ts, w.before args s = true) (hin : ∀ w ∈ u_ws C T Nf, w ∈ Ts) (ty0 : Nat → FieldType) (hty : ∀ k, k < Nf → parseFieldDescriptor (T k).2.2.1 = some (ty0 k)) (hnm : ∀ a, a < Nf → ∀ b, b < Nf → a ≠ b → (T a).2.1 ≠ (T b).2.1) (hown : s.vm.findClass own = some m.cls) (hK : va_K D vwCl tys s) (hW : gw D A ad N cell H) (hS0 : va_S A H0 H locs) {k i : Nat} (hi : i < N k) {fs : List Value} (he : cell k i = .inr (ci, fs)) (hc : vwCl[ci]? = some (C, T, Nf)) (f : Nat) (hf : f < Nf) (hlink : (Cond.fieldLink own index ref (T f).2.1 (T f).2.2.1).before args s = true) (hsame : ∀ x, s.fieldFound? (T f).1 (T f).2.1 (T f).2.2.1 = some x → s.fieldFound? ref (T f).2.1 (T f).2.2.1 = some x) (hfin : (T f).2.2.2 = false) {ty : FieldType} {v : Value} (hd : parseFieldDescriptor (T f).2.2.1 = some ty) (hn : narrow ty v = v) (hfit : fits ty v = true) (hl : f < fs.length) (hdg : decode cc pc = .ok (.putfield index, 3))
    {cell' : Nat → Nat → va_E} (hc1 : cell' k i = .inr (ci, fs.set f v)) (hc2 : ∀ k' i' : Nat, i' < N k' → ¬ (k' = k ∧ i' = i) → cell' k' i' = cell k' i')
    (kk : ∀ (H1 : Heap) (locs1 : List Loc), gw D A ad N cell' H1 → va_S A H0 H1 locs1 → W p l e R s m args below meth c H1 locs1 cells slots Q (F0 m (pc + 3) ls rest)) : W p l e R s m args below meth c H locs cells slots Q (F0 m pc ls (v :: .ref (ad k i) :: rest)) := by
  have hap := va_apart (own := own) hts hin ty0 hty hnm hK hc
  have hat := hW.at hi
  rw [he] at hat
  obtain ⟨r, h1, cell0, q1, q2, q3, q4⟩ := hat
  have hr : r = (C, T, Nf) := Option.some.inj (h1.symm.trans hc)
  subst hr
  obtain ⟨hS, hfc, kC, hkC, hkind⟩ := hK.1 ci _ hc
  obtain ⟨cf, kf, fi, fd, hfi, hsl⟩ := hS f hf
  have hlay := hts _ (hin _ (u_in_lay hf))
  unfold u_lay at hlay
  rw [if_neg (by rw [hfin]; decide)] at hlay
  have hst := (u_facts hfc hkC (u_lays hts hin hf) hfi).1
  have h6 := u_store hfc hkC hkind hlay hfi hd hn hfit
  refine W.putK hexec hb (f := fd) ⟨hown, hlink, ⟨_, _, _, hsame _ hfi⟩, hst⟩ (by rw [q2]; exact h6) q1 q3 (by rw [hsl]; exact k2_hasslot (q4 f hf)) rfl rfl hdg fun H' e1 e2 e3 => ?_
  rw [hsl] at e1 ⊢
  refine kk H' _ (hW.upd hi ?_ e3 hc2) (hS0.put e2 e3 (hW.inA hi))
  rw [hc1]
  exact ⟨_, hc, t_OB.to (V := updV (vp_V fs) f v) ⟨_, e1, q2, q3, t_set q4 hap hf v⟩ (fun j _ => vp_updV_set hl v j)⟩
theorem gw_putF (hexec : p.tables.exec = Jvm.exec) (hb : c.code = cc) {own ref C : String} {T : u_T} {Nf ci index : Nat} {Ts : List Cond} (hts : ∀ w ∈ Ts, w.before args s = true) (hin : ∀ w ∈ u_ws C T Nf, w ∈ Ts) (ty0 : Nat → FieldType) (hty : ∀ k, k < Nf → parseFieldDescriptor (T k).2.2.1 = some (ty0 k)) (hnm : ∀ a, a < Nf → ∀ b, b < Nf → a ≠ b → (T a).2.1 ≠ (T b).2.1) (hown : s.vm.findClass own = some m.cls) (hK : va_K D vwCl tys s) (hW : gw D A ad N cell H) (hS0 : va_S A H0 H locs) {k i : Nat} (hi : i < N k) {fs : List Value} (he : cell k i = .inr (ci, fs)) (hc : vwCl[ci]? = some (C, T, Nf)) (f : Nat) (hf : f < Nf) (hlink : (Cond.fieldLink own index ref (T f).2.1 (T f).2.2.1).before args s = true) (hsame : ∀ x, s.fieldFound? (T f).1 (T f).2.1 (T f).2.2.1 = some x → s.fieldFound? ref (T f).2.1 (T f).2.2.1 = some x) (hfin : (T f).2.2.2 = true) (hin2 : meth.name = "<init>") (hdecl : (T f).1 = own) {ty : FieldType} {v : Value} (hd : parseFieldDescriptor (T f).2.2.1 = some ty) (hn : narrow ty v = v) (hfit : fits ty v = true) (hl : f < fs.length) (hdg : decode cc pc = .ok (.putfield index, 3))
    {cell' : Nat → Nat → va_E} (hc1 : cell' k i = .inr (ci, fs.set f v)) (hc2 : ∀ k' i' : Nat, i' < N k' → ¬ (k' = k ∧ i' = i) → cell' k' i' = cell k' i')
    (kk : ∀ (H1 : Heap) (locs1 : List Loc), gw D A ad N cell' H1 → va_S A H0 H1 locs1 → W p l e R s m args below meth c H1 locs1 cells slots Q (F0 m (pc + 3) ls rest)) : W p l e R s m args below meth c H locs cells slots Q (F0 m pc ls (v :: .ref (ad k i) :: rest)) := by
  have hap := va_apart (own := own) hts hin ty0 hty hnm hK hc
  have hat := hW.at hi
  rw [he] at hat
  obtain ⟨r, h1, cell0, q1, q2, q3, q4⟩ := hat
  have hr : r = (C, T, Nf) := Option.some.inj (h1.symm.trans hc)
  subst hr
  obtain ⟨hS, hfc, kC, hkC, hkind⟩ := hK.1 ci _ hc
  obtain ⟨cf, kf, fi, fd, hfi, hsl⟩ := hS f hf
  have hlay := hts _ (hin _ (u_in_lay hf))
  unfold u_lay at hlay
  rw [if_pos hfin] at hlay
  have hst := (u_facts hfc hkC (u_lays hts hin hf) hfi).1
  have hcf : m.cls = cf := by
    obtain ⟨_, _, c', _, _, _, -, -, hf', -, -, -, hown2, -⟩ := Cond.laysFinal_spec hlay
    have e1 : c' = cf := by have := hfi.symm.trans hf'; simp at this; exact this.1.symm
    rw [hdecl] at hown2
    rw [← e1]; exact Option.some.inj (hown.symm.trans hown2)
  have h6 := u_fits hfc hkC hkind (Or.inr hlay) hfi hd hn hfit
  refine W.putFinK hexec hb hown hlink (hsame _ hfi) hst hcf hin2 (by rw [q2]; exact h6) q1 q3 (by rw [hsl]; exact k2_hasslot (q4 f hf)) rfl rfl hdg fun H' e1 e2 e3 => ?_
  rw [hsl] at e1 ⊢
  refine kk H' _ (hW.upd hi ?_ e3 hc2) (hS0.put e2 e3 (hW.inA hi))
  rw [hc1]
  exact ⟨_, hc, t_OB.to (V := updV (vp_V fs) f v) ⟨_, e1, q2, q3, t_set q4 hap hf v⟩ (fun j _ => vp_updV_set hl v j)⟩
theorem gw_new (hexec : p.tables.exec = Jvm.exec) (hb : c.code = cc) {own C : String} {T : u_T} {Nf ci index : Nat} {Ts : List Cond} (hts : ∀ w ∈ Ts, w.before args s = true) (hin : ∀ w ∈ u_ws C T Nf, w ∈ Ts) (ty : Nat → FieldType) (hty : ∀ k, k < Nf → parseFieldDescriptor (T k).2.2.1 = some (ty k)) (hown : s.vm.findClass own = some m.cls) (hcl : (Cond.classLink own index C).before args s = true) (hinst : (Cond.instantiable C Nf).before args s = true) (hini : (Cond.initialized C).before args s = true)
    (hK : va_K D vwCl tys s) (hW : gw D A ad N cell H) (hS : va_S A H0 H locs) (hA : ∀ q, H0.size ≤ q → A q) (hc : vwCl[ci]? = some (C, T, Nf)) {fs : List Value} (hfs : ∀ j, j < Nf → defaultValue (ty j) = vp_V fs j) (hcells : cells + 1 ≤ R.cells) (hslots : slots + Nf ≤ R.slots) (hdg : decode cc pc = .ok (.new index, 3)) (k : Nat)
    (kk : ∀ (q : Nat) (H1 : Heap), gw D A (up2 ad k (N k) q) (va_up N k (N k + 1)) (up2 cell k (N k) (.inr (ci, fs))) H1 → va_S A H0 H1 locs →
      W p l e R s m args below meth c H1 locs (cells + 1) (slots + Nf) Q (F0 m (pc + 3) ls (.ref q :: rest))) : W p l e R s m args below meth c H locs cells slots Q (F0 m pc ls rest) := by
  have hKn := hK.1 ci _ hc
  refine W.newcK hexec hb hown hcl hinst hini rfl hdg hcells hslots hKn.2.1 rfl fun H1 kC hkC e1 z1 o1 => ?_
  refine kk H.size H1 (hW.push o1 (hA _ hS.1) ⟨_, hc, (u_born ty hts hin hKn hkC e1 hty).to hfs⟩) ⟨Nat.le_trans hS.1 (by omega), fun x h1 h2 => (o1 x (Nat.lt_of_lt_of_le h1 hS.1)).trans (hS.2.1 x h1 h2), hS.2.2⟩
theorem gw_putN (hexec : p.tables.exec = Jvm.exec) (hb : c.code = cc) {own ref C host : String} {T : u_T} {Nf ci index : Nat} {Ts : List Cond} (hts : ∀ w ∈ Ts, w.before args s = true) (hin : ∀ w ∈ u_ws C T Nf, w ∈ Ts) (ty0 : Nat → FieldType) (hty : ∀ k, k < Nf → parseFieldDescriptor (T k).2.2.1 = some (ty0 k)) (hnm : ∀ a, a < Nf → ∀ b, b < Nf → a ≠ b → (T a).2.1 ≠ (T b).2.1) (hown : s.vm.findClass own = some m.cls) (hK : va_K D vwCl tys s) (hW : gw D A ad N cell H) (hS0 : va_S A H0 H locs) {k i : Nat} (hi : i < N k) {fs : List Value} (he : cell k i = .inr (ci, fs)) (hc : vwCl[ci]? = some (C, T, Nf)) (f : Nat) (hf : f < Nf) (hlink : va_Nw (.fieldLinkNest own index ref (T f).2.1 (T f).2.2.1 host) s) (hsame : ∀ x, s.fieldFound? (T f).1 (T f).2.1 (T f).2.2.1 = some x → s.fieldFound? ref (T f).2.1 (T f).2.2.1 = some x) (hfin : (T f).2.2.2 = false) {ty : FieldType} {v : Value} (hd : parseFieldDescriptor (T f).2.2.1 = some ty) (hn : narrow ty v = v) (hfit : fits ty v = true) (hl : f < fs.length) (hdg : decode cc pc = .ok (.putfield index, 3))
    {cell' : Nat → Nat → va_E} (hc1 : cell' k i = .inr (ci, fs.set f v)) (hc2 : ∀ k' i' : Nat, i' < N k' → ¬ (k' = k ∧ i' = i) → cell' k' i' = cell k' i')
    (kk : ∀ (H1 : Heap) (locs1 : List Loc), gw D A ad N cell' H1 → va_S A H0 H1 locs1 → W p l e R s m args below meth c H1 locs1 cells slots Q (F0 m (pc + 3) ls rest)) : W p l e R s m args below meth c H locs cells slots Q (F0 m pc ls (v :: .ref (ad k i) :: rest)) := by
  have hap := va_apart (own := own) hts hin ty0 hty hnm hK hc
  have hat := hW.at hi
  rw [he] at hat
  obtain ⟨r, h1, cell0, q1, q2, q3, q4⟩ := hat
  have hr : r = (C, T, Nf) := Option.some.inj (h1.symm.trans hc)
  subst hr
  obtain ⟨hS, hfc, kC, hkC, hkind⟩ := hK.1 ci _ hc
  obtain ⟨cf, kf, fi, fd, hfi, hsl⟩ := hS f hf
  have hlay := hts _ (hin _ (u_in_lay hf))
  unfold u_lay at hlay
  rw [if_neg (by rw [hfin]; decide)] at hlay
  have hst := (u_facts hfc hkC (u_lays hts hin hf) hfi).1
  have h6 := u_store hfc hkC hkind hlay hfi hd hn hfit
  refine va_WputK hexec hb (f := fd) hown (va_Nw.use rfl hlink) (hsame _ hfi) hst (by rw [q2]; exact h6) q1 q3 (by rw [hsl]; exact k2_hasslot (q4 f hf)) rfl rfl hdg fun H' e1 e2 e3 => ?_
  rw [hsl] at e1 ⊢
  refine kk H' _ (hW.upd hi ?_ e3 hc2) (hS0.put e2 e3 (hW.inA hi))
  rw [hc1]
  exact ⟨_, hc, t_OB.to (V := updV (vp_V fs) f v) ⟨_, e1, q2, q3, t_set q4 hap hf v⟩ (fun j _ => vp_updV_set hl v j)⟩
theorem gw_len (hexec : p.tables.exec = Jvm.exec) (hb : c.code = cc) (hK : va_K D vwCl tys s) (hW : gw D A ad N cell H) {k i : Nat} (hi : i < N k) (t0 : Nat) {cA : ClassId} {x : vp_A} (ha : cell k i = .inl (cA, x)) {ty : FieldType} (ht : tys[t0]? = some (cA, ty)) {v : Int32} (hv : Int32.ofNat x.1 = v) (hdg : decode cc pc = .ok (.arraylength, 1))
    (kk : W p l e R s m args below meth c H locs cells slots Q (F0 m (pc + 1) ls (.int v :: rest))) : W p l e R s m args below meth c H locs cells slots Q (F0 m pc ls (.ref (ad k i) :: rest)) :=
  va_alen hexec hb hK (gw_one hW hi) 0 t0 (by rw [ha]; rfl) ht hv hdg kk
theorem gw_iald (hexec : p.tables.exec = Jvm.exec) (hb : c.code = cc) (hK : va_K D vwCl tys s) (hW : gw D A ad N cell H) {k i : Nat} (hi : i < N k) (t0 : Nat) {cA : ClassId} {n : Nat} {f : Nat → Int32} (ha : cell k i = .inl (cA, n, .inl f)) (ht : tys[t0]? = some (cA, .int)) {j : Int32} (hin : vp_in j n) (hdg : decode cc pc = .ok (.iaload, 1))
    (kk : W p l e R s m args below meth c H locs cells slots Q (F0 m (pc + 1) ls (.int (f j.toNatClampNeg) :: rest))) : W p l e R s m args below meth c H locs cells slots Q (F0 m pc ls (.int j :: .ref (ad k i) :: rest)) :=
  va_iald hexec hb hK (gw_one hW hi) 0 t0 (by rw [ha]; rfl) ht hin hdg kk
theorem gw_zald (hexec : p.tables.exec = Jvm.exec) (hb : c.code = cc) (hK : va_K D vwCl tys s) (hW : gw D A ad N cell H) {k i : Nat} (hi : i < N k) (t0 : Nat) {cA : ClassId} {n : Nat} {f : Nat → Int32} (ha : cell k i = .inl (cA, n, .inl f)) (ht : tys[t0]? = some (cA, .boolean)) {j : Int32} (hin : vp_in j n) (hdg : decode cc pc = .ok (.baload, 1))
    (kk : W p l e R s m args below meth c H locs cells slots Q (F0 m (pc + 1) ls (.int (f j.toNatClampNeg) :: rest))) : W p l e R s m args below meth c H locs cells slots Q (F0 m pc ls (.int j :: .ref (ad k i) :: rest)) :=
  va_zald hexec hb hK (gw_one hW hi) 0 t0 (by rw [ha]; rfl) ht hin hdg kk
theorem gw_lald (hexec : p.tables.exec = Jvm.exec) (hb : c.code = cc) (hK : va_K D vwCl tys s) (hW : gw D A ad N cell H) {k i : Nat} (hi : i < N k) (t0 : Nat) {cA : ClassId} {n : Nat} {f : Nat → Int64} (ha : cell k i = .inl (cA, n, .inr (.inl f))) (ht : tys[t0]? = some (cA, .long)) {j : Int32} (hin : vp_in j n) (hdg : decode cc pc = .ok (.laload, 1))
    (kk : W p l e R s m args below meth c H locs cells slots Q (F0 m (pc + 1) ls (.long (f j.toNatClampNeg) :: rest))) : W p l e R s m args below meth c H locs cells slots Q (F0 m pc ls (.int j :: .ref (ad k i) :: rest)) :=
  va_lald hexec hb hK (gw_one hW hi) 0 t0 (by rw [ha]; rfl) ht hin hdg kk
theorem gw_aald (hexec : p.tables.exec = Jvm.exec) (hb : c.code = cc) (hK : va_K D vwCl tys s) (hW : gw D A ad N cell H) {k i : Nat} (hi : i < N k) (t0 : Nat) {cA : ClassId} {C : String} {n : Nat} {f : Nat → Option Nat} (ha : cell k i = .inl (cA, n, .inr (.inr (.inr (.inr f))))) (ht : tys[t0]? = some (cA, .object C)) {j : Int32} (hin : vp_in j n) (hdg : decode cc pc = .ok (.aaload, 1))
    (kk : W p l e R s m args below meth c H locs cells slots Q (F0 m (pc + 1) ls (va_rf (f j.toNatClampNeg) :: rest))) : W p l e R s m args below meth c H locs cells slots Q (F0 m pc ls (.int j :: .ref (ad k i) :: rest)) :=
  va_aldq hexec hb hK (gw_one hW hi) 0 t0 (by rw [ha]; rfl) ht hin hdg kk
theorem gw_iast (hexec : p.tables.exec = Jvm.exec) (hb : c.code = cc) (hK : va_K D vwCl tys s) (hW : gw D A ad N cell H) (hS : va_S A H0 H locs) {k i : Nat} (hi : i < N k) (t0 : Nat) {cA : ClassId} {n : Nat} {f : Nat → Int32} (ha : cell k i = .inl (cA, n, .inl f)) (ht : tys[t0]? = some (cA, .int)) {j x : Int32} (hin : vp_in j n) (hdg : decode cc pc = .ok (.iastore, 1))
    {cell' : Nat → Nat → va_E} {f' : Nat → Int32} (hc1 : cell' k i = .inl (cA, n, .inl f')) (hf : ∀ q, f' q = if q = j.toNatClampNeg then x else f q) (hc2 : ∀ k' i' : Nat, i' < N k' → ¬ (k' = k ∧ i' = i) → cell' k' i' = cell k' i')
    (kk : ∀ (H1 : Heap) (locs1 : List Loc), gw D A ad N cell' H1 → va_S A H0 H1 locs1 → W p l e R s m args below meth c H1 locs1 cells slots Q (F0 m (pc + 1) ls rest)) : W p l e R s m args below meth c H locs cells slots Q (F0 m pc ls (.int x :: .int j :: .ref (ad k i) :: rest)) := by
  have hat := hW.at hi
  rw [ha] at hat
  refine W.iast hexec hb hat ((hK.2 t0 _ ht).1 n (fun j => .int (f j))) (fun q => by cases q) (by show ¬ (j < 0 ∨ (arrV _ _ _).slots.size ≤ _); rw [arrV_size]; exact hin) rfl rfl hdg fun H1 e z oq => ?_
  refine kk H1 _ (hW.upd hi ?_ oq hc2) (hS.put z oq (hW.inA hi))
  rw [hc1]
  show H1[ad k i]? = some (vp_cell _ _)
  rw [e]
  rw [vp_cell_i, vp_cell_i, arrV_store]
  congr 2
  funext q
  by_cases hq : q = j.toNatClampNeg
  · subst hq
    simp [updV, hf]
  · simp [updV, hf, hq]
theorem gw_zast (hexec : p.tables.exec = Jvm.exec) (hb : c.code = cc) (hK : va_K D vwCl tys s) (hW : gw D A ad N cell H) (hS : va_S A H0 H locs) {k i : Nat} (hi : i < N k) (t0 : Nat) {cA : ClassId} {n : Nat} {f : Nat → Int32} (ha : cell k i = .inl (cA, n, .inl f)) (ht : tys[t0]? = some (cA, .boolean)) {j x : Int32} (hin : vp_in j n) (hdg : decode cc pc = .ok (.bastore, 1)) (hx : vp_nar .boolean x = x)
    {cell' : Nat → Nat → va_E} {f' : Nat → Int32} (hc1 : cell' k i = .inl (cA, n, .inl f')) (hf : ∀ q, f' q = if q = j.toNatClampNeg then x else f q) (hc2 : ∀ k' i' : Nat, i' < N k' → ¬ (k' = k ∧ i' = i) → cell' k' i' = cell k' i')
    (kk : ∀ (H1 : Heap) (locs1 : List Loc), gw D A ad N cell' H1 → va_S A H0 H1 locs1 → W p l e R s m args below meth c H1 locs1 cells slots Q (F0 m (pc + 1) ls rest)) : W p l e R s m args below meth c H locs cells slots Q (F0 m pc ls (.int x :: .int j :: .ref (ad k i) :: rest)) := by
  have hat := hW.at hi
  rw [ha] at hat
  refine W.zast hexec hb hat ((hK.2 t0 _ ht).1 n (fun j => .int (f j))) (fun q => by cases q) (by show ¬ (j < 0 ∨ (arrV _ _ _).slots.size ≤ _); rw [arrV_size]; exact hin) rfl rfl hdg fun H1 e z oq => ?_
  refine kk H1 _ (hW.upd hi ?_ oq hc2) (hS.put z oq (hW.inA hi))
  rw [hc1]
  show H1[ad k i]? = some (vp_cell _ _)
  rw [e]
  rw [vp_cell_i, vp_cell_i, arrV_store]
  congr 2
  funext q
  by_cases hq : q = j.toNatClampNeg
  · subst hq
    have h2 : narrow .boolean (.int x) = .int x := by
      have h3 := hx
      unfold vp_nar at h3
      cases h4 : narrow .boolean (.int x) <;> simp_all [narrow]
    simp [updV, hf, h2]
  · simp [updV, hf, hq]
theorem gw_last (hexec : p.tables.exec = Jvm.exec) (hb : c.code = cc) (hK : va_K D vwCl tys s) (hW : gw D A ad N cell H) (hS : va_S A H0 H locs) {k i : Nat} (hi : i < N k) (t0 : Nat) {cA : ClassId} {n : Nat} {f : Nat → Int64} (ha : cell k i = .inl (cA, n, .inr (.inl f))) (ht : tys[t0]? = some (cA, .long)) {j : Int32} {x : Int64} (hin : vp_in j n) (hdg : decode cc pc = .ok (.lastore, 1))
    {cell' : Nat → Nat → va_E} {f' : Nat → Int64} (hc1 : cell' k i = .inl (cA, n, .inr (.inl f'))) (hf : ∀ q, f' q = if q = j.toNatClampNeg then x else f q) (hc2 : ∀ k' i' : Nat, i' < N k' → ¬ (k' = k ∧ i' = i) → cell' k' i' = cell k' i')
    (kk : ∀ (H1 : Heap) (locs1 : List Loc), gw D A ad N cell' H1 → va_S A H0 H1 locs1 → W p l e R s m args below meth c H1 locs1 cells slots Q (F0 m (pc + 1) ls rest)) : W p l e R s m args below meth c H locs cells slots Q (F0 m pc ls (.long x :: .int j :: .ref (ad k i) :: rest)) := by
  have hat := hW.at hi
  rw [ha] at hat
  refine W.last hexec hb hat ((hK.2 t0 _ ht).1 n (fun j => .long (f j))) (fun q => by cases q) (by show ¬ (j < 0 ∨ (arrV _ _ _).slots.size ≤ _); rw [arrV_size]; exact hin) rfl rfl hdg fun H1 e z oq => ?_
  refine kk H1 _ (hW.upd hi ?_ oq hc2) (hS.put z oq (hW.inA hi))
  rw [hc1]
  show H1[ad k i]? = some (vp_cell _ _)
  rw [e]
  rw [vp_cell_l, vp_cell_l, arrV_store]
  congr 2
  funext q
  by_cases hq : q = j.toNatClampNeg
  · subst hq
    simp [updV, hf]
  · simp [updV, hf, hq]
/-- a reference to the thing kv, iv (of the class number ci) into an array of that class -/
theorem gw_aast (hexec : p.tables.exec = Jvm.exec) (hb : c.code = cc) (hK : va_K D vwCl tys s) (hW : gw D A ad N cell H) (hS : va_S A H0 H locs) {k i kv iv : Nat} (hi : i < N k) (hiv : iv < N kv) (t0 ci : Nat) {cA : ClassId} {r : vw_C} {vs : List Value} {n : Nat} {f : Nat → Option Nat} (ha : cell k i = .inl (cA, n, .inr (.inr (.inr (.inr f))))) (hv : cell kv iv = .inr (ci, vs)) (hc : vwCl[ci]? = some r) (ht : tys[t0]? = some (cA, .object r.1)) {j : Int32} (hin : vp_in j n) (hdg : decode cc pc = .ok (.aastore, 1))
    {cell' : Nat → Nat → va_E} {f' : Nat → Option Nat} (hc1 : cell' k i = .inl (cA, n, .inr (.inr (.inr (.inr f'))))) (hf : ∀ q, f' q = if q = j.toNatClampNeg then some (ad kv iv) else f q) (hc2 : ∀ k' i' : Nat, i' < N k' → ¬ (k' = k ∧ i' = i) → cell' k' i' = cell k' i')
    (kk : ∀ (H1 : Heap) (locs1 : List Loc), gw D A ad N cell' H1 → va_S A H0 H1 locs1 → W p l e R s m args below meth c H1 locs1 cells slots Q (F0 m (pc + 1) ls rest)) : W p l e R s m args below meth c H locs cells slots Q (F0 m pc ls (.ref (ad kv iv) :: .int j :: .ref (ad k i) :: rest)) := by
  have hat := hW.at hi
  rw [ha] at hat
  have hlt : j.toNatClampNeg < n := Nat.not_le.mp fun q => hin (Or.inr q)
  have h0 : ¬ j < 0 := fun q => hin (Or.inl q)
  have hav := hW.at hiv
  rw [hv] at hav
  obtain ⟨r', hr', cellV, g1, g2, g3, -⟩ := hav
  have hcls := (hK.1 ci r hc).2
  obtain ⟨kA, comp, k1, k2, k3, -⟩ := (hK.2 t0 _ ht).2
  have hcomp : comp = D.1 ci := Option.some.inj (k3.symm.trans hcls.1)
  subst hcomp
  obtain ⟨kC, hkC, -⟩ := hcls.2
  refine W.aast hexec hb hat (fun q h => by cases h) (fun h => by cases h) k1 k2 rfl hkC ⟨h0, by show _ < (arrV _ _ _).slots.size; rw [arrV_size]; exact hlt⟩ g1 (fun q h => by rw [g3] at h; cases h) (by rw [g2]; exact hkC) (by rw [g2]; exact va_assign hcls) rfl rfl hdg fun H1 e z oq => ?_
  refine kk H1 _ (hW.upd hi ?_ oq hc2) (hS.put z oq (hW.inA hi))
  rw [hc1]
  show H1[ad k i]? = some (vp_cell _ _)
  rw [e]
  rw [vp_cell_q, vp_cell_q, arrV_store]
  congr 2
  funext q
  by_cases hq : q = j.toNatClampNeg
  · subst hq
    simp [updV, hf, va_rf]
  · simp [updV, hf, hq]
end GR
end
section
/-! THE CLASS'S STATE: addresses by kind and number; how many requests and states there are; ints, longs, references (may be null), numbers of things that are never null, elements of the small int arrays.
Kinds: 0 Asker 1 Message 2 Register 3 Request 4 Row 5 State 6 SharedRegisters 7 sets of an asker 8 enough of an asker 9 isDown 10 askers 11 messages 12 registers 13 requests -/
abbrev CS : Type := (Nat → Nat → Nat) × (Nat × Nat) × (Nat → Nat → Int32) × (Nat → Nat → Int64) × (Nat → Nat → Option Nat) × (Nat → Nat → Nat) × (Nat → Nat → Nat → Int32)
def cA (z : CS) : Nat → Nat → Nat := z.1
def cNr (z : CS) : Nat := z.2.1.1
def cNs (z : CS) : Nat := z.2.1.2
def cI (z : CS) : Nat → Nat → Int32 := z.2.2.1
def cJ (z : CS) : Nat → Nat → Int64 := z.2.2.2.1
def cR (z : CS) : Nat → Nat → Option Nat := z.2.2.2.2.1
def cS (z : CS) : Nat → Nat → Nat := z.2.2.2.2.2.1
def cE (z : CS) : Nat → Nat → Nat → Int32 := z.2.2.2.2.2.2
def sI (z : CS) (f i : Nat) (v : Int32) : CS := (z.1, z.2.1, up2 z.2.2.1 f i v, z.2.2.2)
def sJ (z : CS) (f i : Nat) (v : Int64) : CS := (z.1, z.2.1, z.2.2.1, up2 z.2.2.2.1 f i v, z.2.2.2.2)
def sR (z : CS) (f i : Nat) (v : Option Nat) : CS := (z.1, z.2.1, z.2.2.1, z.2.2.2.1, up2 z.2.2.2.2.1 f i v, z.2.2.2.2.2)
def sS (z : CS) (f i : Nat) (v : Nat) : CS := (z.1, z.2.1, z.2.2.1, z.2.2.2.1, z.2.2.2.2.1, up2 z.2.2.2.2.2.1 f i v, z.2.2.2.2.2.2)
def sE (z : CS) (f a j : Nat) (v : Int32) : CS := (z.1, z.2.1, z.2.2.1, z.2.2.2.1, z.2.2.2.2.1, z.2.2.2.2.2.1, fun f' a' j' => if f' = f ∧ a' = a ∧ j' = j then v else z.2.2.2.2.2.2 f' a' j')
def cN (z : CS) (k : Nat) : Nat := match k with
  | 0 => 4
  | 1 => 301
  | 2 => 36
  | 3 => cNr z
  | 4 => 1
  | 5 => cNs z
  | 6 => 1
  | 7 => 4
  | 8 => 4
  | 9 => 1
  | 10 => 1
  | 11 => 1
  | 12 => 1
  | 13 => 1
  | _ => 0
theorem sI_cA (z : CS) (f i : Nat) (v : Int32) : cA (sI z f i v) = cA z := rfl
theorem sI_cNr (z : CS) (f i : Nat) (v : Int32) : cNr (sI z f i v) = cNr z := rfl
theorem sI_cNs (z : CS) (f i : Nat) (v : Int32) : cNs (sI z f i v) = cNs z := rfl
theorem sI_cI (z : CS) (f i : Nat) (v : Int32) : cI (sI z f i v) = up2 (cI z) f i v := rfl
theorem sI_cJ (z : CS) (f i : Nat) (v : Int32) : cJ (sI z f i v) = cJ z := rfl
theorem sI_cR (z : CS) (f i : Nat) (v : Int32) : cR (sI z f i v) = cR z := rfl
theorem sI_cS (z : CS) (f i : Nat) (v : Int32) : cS (sI z f i v) = cS z := rfl
theorem sI_cE (z : CS) (f i : Nat) (v : Int32) : cE (sI z f i v) = cE z := rfl
theorem sI_cN (z : CS) (f i : Nat) (v : Int32) : cN (sI z f i v) = cN z := rfl
theorem sJ_cA (z : CS) (f i : Nat) (v : Int64) : cA (sJ z f i v) = cA z := rfl
theorem sJ_cNr (z : CS) (f i : Nat) (v : Int64) : cNr (sJ z f i v) = cNr z := rfl
theorem sJ_cNs (z : CS) (f i : Nat) (v : Int64) : cNs (sJ z f i v) = cNs z := rfl
theorem sJ_cI (z : CS) (f i : Nat) (v : Int64) : cI (sJ z f i v) = cI z := rfl
theorem sJ_cJ (z : CS) (f i : Nat) (v : Int64) : cJ (sJ z f i v) = up2 (cJ z) f i v := rfl
theorem sJ_cR (z : CS) (f i : Nat) (v : Int64) : cR (sJ z f i v) = cR z := rfl
theorem sJ_cS (z : CS) (f i : Nat) (v : Int64) : cS (sJ z f i v) = cS z := rfl
theorem sJ_cE (z : CS) (f i : Nat) (v : Int64) : cE (sJ z f i v) = cE z := rfl
theorem sJ_cN (z : CS) (f i : Nat) (v : Int64) : cN (sJ z f i v) = cN z := rfl
theorem sR_cA (z : CS) (f i : Nat) (v : Option Nat) : cA (sR z f i v) = cA z := rfl
theorem sR_cNr (z : CS) (f i : Nat) (v : Option Nat) : cNr (sR z f i v) = cNr z := rfl
theorem sR_cNs (z : CS) (f i : Nat) (v : Option Nat) : cNs (sR z f i v) = cNs z := rfl
theorem sR_cI (z : CS) (f i : Nat) (v : Option Nat) : cI (sR z f i v) = cI z := rfl
theorem sR_cJ (z : CS) (f i : Nat) (v : Option Nat) : cJ (sR z f i v) = cJ z := rfl
theorem sR_cR (z : CS) (f i : Nat) (v : Option Nat) : cR (sR z f i v) = up2 (cR z) f i v := rfl
theorem sR_cS (z : CS) (f i : Nat) (v : Option Nat) : cS (sR z f i v) = cS z := rfl
theorem sR_cE (z : CS) (f i : Nat) (v : Option Nat) : cE (sR z f i v) = cE z := rfl
theorem sR_cN (z : CS) (f i : Nat) (v : Option Nat) : cN (sR z f i v) = cN z := rfl
theorem sS_cA (z : CS) (f i : Nat) (v : Nat) : cA (sS z f i v) = cA z := rfl
theorem sS_cNr (z : CS) (f i : Nat) (v : Nat) : cNr (sS z f i v) = cNr z := rfl
theorem sS_cNs (z : CS) (f i : Nat) (v : Nat) : cNs (sS z f i v) = cNs z := rfl
theorem sS_cI (z : CS) (f i : Nat) (v : Nat) : cI (sS z f i v) = cI z := rfl
theorem sS_cJ (z : CS) (f i : Nat) (v : Nat) : cJ (sS z f i v) = cJ z := rfl
theorem sS_cR (z : CS) (f i : Nat) (v : Nat) : cR (sS z f i v) = cR z := rfl
theorem sS_cS (z : CS) (f i : Nat) (v : Nat) : cS (sS z f i v) = up2 (cS z) f i v := rfl
theorem sS_cE (z : CS) (f i : Nat) (v : Nat) : cE (sS z f i v) = cE z := rfl
theorem sS_cN (z : CS) (f i : Nat) (v : Nat) : cN (sS z f i v) = cN z := rfl
theorem sE_cA (z : CS) (f a j : Nat) (v : Int32) : cA (sE z f a j v) = cA z := rfl
theorem sE_cNr (z : CS) (f a j : Nat) (v : Int32) : cNr (sE z f a j v) = cNr z := rfl
theorem sE_cNs (z : CS) (f a j : Nat) (v : Int32) : cNs (sE z f a j v) = cNs z := rfl
theorem sE_cI (z : CS) (f a j : Nat) (v : Int32) : cI (sE z f a j v) = cI z := rfl
theorem sE_cJ (z : CS) (f a j : Nat) (v : Int32) : cJ (sE z f a j v) = cJ z := rfl
theorem sE_cR (z : CS) (f a j : Nat) (v : Int32) : cR (sE z f a j v) = cR z := rfl
theorem sE_cS (z : CS) (f a j : Nat) (v : Int32) : cS (sE z f a j v) = cS z := rfl
theorem sE_cE (z : CS) (f a j : Nat) (v : Int32) : cE (sE z f a j v) = fun f' a' j' => if f' = f ∧ a' = a ∧ j' = j then v else cE z f' a' j' := rfl
theorem sE_cN (z : CS) (f a j : Nat) (v : Int32) : cN (sE z f a j v) = cN z := rfl
/-- the classes of the arrays: 0 int, 1 long, 2 boolean, 3 Asker, 4 Message, 5 Register, 6 Request -/
abbrev ctys (y : Nat → ClassId) : List (ClassId × FieldType) := [(y 0, .int), (y 1, .long), (y 2, .boolean), (y 3, .object RX0), (y 4, .object RX1), (y 5, .object RX2), (y 6, .object RX3)]
def cC (y : Nat → ClassId) (z : CS) (k i : Nat) : va_E := match k with
  | 0 => .inr (0, [.int (cI z 2 i), .ref (cA z 7 i), .ref (cA z 8 i), .int (cI z 3 i), va_rf ((cR z 1 i).map (cA z 3))])
  | 1 => .inr (1, [.int (cI z 6 i), .int (cI z 7 i), .int (cI z 8 i), .int (cI z 9 i), .int (cI z 10 i), .int (cI z 11 i), .ref (cA z 5 (cS z 2 i))])
  | 2 => .inr (2, [.int (cI z 0 i), .int (cI z 1 i), .ref (cA z 5 (cS z 0 i))])
  | 3 => .inr (3, [.int (cI z 12 i), .int (cI z 13 i), .int (cI z 14 i), .int (cI z 15 i), .long (cJ z 0 i), .int (cI z 16 i), .int (cI z 17 i), .int (cI z 18 i), .int (cI z 19 i), .int (cI z 20 i), .int (cI z 21 i), .int (cI z 22 i), va_rf ((cR z 3 i).map (cA z 5)), .int (cI z 23 i), .int (cI z 24 i)])
  | 4 => .inr (4, [.ref (cA z 11 0), .int (cI z 25 i)])
  | 5 => .inr (5, [.int (cI z 26 i), .int (cI z 27 i), .long (cJ z 1 i)])
  | 6 => .inr (6, [.ref (cA z 5 0), .ref (cA z 12 0), .ref (cA z 9 0), .ref (cA z 10 0), .ref (cA z 13 0), .ref (cA z 4 0), .int (cI z 28 i)])
  | 7 => .inl (y 0, 2, .inl (cE z 0 i))
  | 8 => .inl (y 0, 2, .inl (cE z 1 i))
  | 9 => .inl (y 2, 9, .inl (cI z 29))
  | 10 => .inl (y 3, 4, .inr (.inr (.inr (.inr (fun j => some (cA z 0 j))))))
  | 11 => .inl (y 4, 301, .inr (.inr (.inr (.inr (fun j => some (cA z 1 (cS z 3 j)))))))
  | 12 => .inl (y 5, 36, .inr (.inr (.inr (.inr (fun j => some (cA z 2 j))))))
  | _ => .inl (y 6, 200, .inr (.inr (.inr (.inr (fun j => (cR z 6 j).map (cA z 3))))))
def cw (D : va_G) (y : Nat → ClassId) (A : Nat → Prop) (z : CS) (H : Heap) : Prop := gw D A (cA z) (cN z) (cC y z) H
theorem cp_Asker_count (y : Nat → ClassId) (z : CS) (i : Nat) (v : Int32) : cC y (sI z 3 i v) 0 i = .inr (0, List.set [.int (cI z 2 i), .ref (cA z 7 i), .ref (cA z 8 i), .int (cI z 3 i), va_rf ((cR z 1 i).map (cA z 3))] 3 (.int v)) := by
  simp [cC, sI_cI, sI_cA, sI_cJ, sI_cR, sI_cS, sJ_cI, sJ_cA, sJ_cJ, sJ_cR, sJ_cS, sR_cI, sR_cA, sR_cJ, sR_cR, sR_cS, sS_cI, sS_cA, sS_cJ, sS_cR, sS_cS, up2]
theorem co_Asker_count (y : Nat → ClassId) (z : CS) (i : Nat) (v : Int32) (k' i' : Nat) (h : ¬ (k' = 0 ∧ i' = i)) : cC y (sI z 3 i v) k' i' = cC y z k' i' := by
  unfold cC; split <;> simp_all [sI_cI, sI_cA, sI_cJ, sI_cR, sI_cS, sI_cE, sJ_cI, sJ_cA, sJ_cJ, sJ_cR, sJ_cS, sJ_cE, sR_cI, sR_cA, sR_cJ, sR_cR, sR_cS, sR_cE, sS_cI, sS_cA, sS_cJ, sS_cR, sS_cS, sS_cE, up2]; try rfl
theorem cp_Asker_current (y : Nat → ClassId) (z : CS) (i : Nat) (v : Option Nat) : cC y (sR z 1 i v) 0 i = .inr (0, List.set [.int (cI z 2 i), .ref (cA z 7 i), .ref (cA z 8 i), .int (cI z 3 i), va_rf ((cR z 1 i).map (cA z 3))] 4 (va_rf (v.map (cA z 3)))) := by
  simp [cC, sI_cI, sI_cA, sI_cJ, sI_cR, sI_cS, sJ_cI, sJ_cA, sJ_cJ, sJ_cR, sJ_cS, sR_cI, sR_cA, sR_cJ, sR_cR, sR_cS, sS_cI, sS_cA, sS_cJ, sS_cR, sS_cS, up2]
theorem co_Asker_current (y : Nat → ClassId) (z : CS) (i : Nat) (v : Option Nat) (k' i' : Nat) (h : ¬ (k' = 0 ∧ i' = i)) : cC y (sR z 1 i v) k' i' = cC y z k' i' := by
  unfold cC; split <;> simp_all [sI_cI, sI_cA, sI_cJ, sI_cR, sI_cS, sI_cE, sJ_cI, sJ_cA, sJ_cJ, sJ_cR, sJ_cS, sJ_cE, sR_cI, sR_cA, sR_cJ, sR_cR, sR_cS, sR_cE, sS_cI, sS_cA, sS_cJ, sS_cR, sS_cS, sS_cE, up2]; try rfl
theorem cp_Message_sort (y : Nat → ClassId) (z : CS) (i : Nat) (v : Int32) : cC y (sI z 6 i v) 1 i = .inr (1, List.set [.int (cI z 6 i), .int (cI z 7 i), .int (cI z 8 i), .int (cI z 9 i), .int (cI z 10 i), .int (cI z 11 i), .ref (cA z 5 (cS z 2 i))] 0 (.int v)) := by
  simp [cC, sI_cI, sI_cA, sI_cJ, sI_cR, sI_cS, sJ_cI, sJ_cA, sJ_cJ, sJ_cR, sJ_cS, sR_cI, sR_cA, sR_cJ, sR_cR, sR_cS, sS_cI, sS_cA, sS_cJ, sS_cR, sS_cS, up2]
theorem co_Message_sort (y : Nat → ClassId) (z : CS) (i : Nat) (v : Int32) (k' i' : Nat) (h : ¬ (k' = 1 ∧ i' = i)) : cC y (sI z 6 i v) k' i' = cC y z k' i' := by
  unfold cC; split <;> simp_all [sI_cI, sI_cA, sI_cJ, sI_cR, sI_cS, sI_cE, sJ_cI, sJ_cA, sJ_cJ, sJ_cR, sJ_cS, sJ_cE, sR_cI, sR_cA, sR_cJ, sR_cR, sR_cS, sR_cE, sS_cI, sS_cA, sS_cJ, sS_cR, sS_cS, sS_cE, up2]; try rfl
theorem cp_Message_asker (y : Nat → ClassId) (z : CS) (i : Nat) (v : Int32) : cC y (sI z 7 i v) 1 i = .inr (1, List.set [.int (cI z 6 i), .int (cI z 7 i), .int (cI z 8 i), .int (cI z 9 i), .int (cI z 10 i), .int (cI z 11 i), .ref (cA z 5 (cS z 2 i))] 1 (.int v)) := by
  simp [cC, sI_cI, sI_cA, sI_cJ, sI_cR, sI_cS, sJ_cI, sJ_cA, sJ_cJ, sJ_cR, sJ_cS, sR_cI, sR_cA, sR_cJ, sR_cR, sR_cS, sS_cI, sS_cA, sS_cJ, sS_cR, sS_cS, up2]
theorem co_Message_asker (y : Nat → ClassId) (z : CS) (i : Nat) (v : Int32) (k' i' : Nat) (h : ¬ (k' = 1 ∧ i' = i)) : cC y (sI z 7 i v) k' i' = cC y z k' i' := by
  unfold cC; split <;> simp_all [sI_cI, sI_cA, sI_cJ, sI_cR, sI_cS, sI_cE, sJ_cI, sJ_cA, sJ_cJ, sJ_cR, sJ_cS, sJ_cE, sR_cI, sR_cA, sR_cJ, sR_cR, sR_cS, sR_cE, sS_cI, sS_cA, sS_cJ, sS_cR, sS_cS, sS_cE, up2]; try rfl
theorem cp_Message_keeper (y : Nat → ClassId) (z : CS) (i : Nat) (v : Int32) : cC y (sI z 8 i v) 1 i = .inr (1, List.set [.int (cI z 6 i), .int (cI z 7 i), .int (cI z 8 i), .int (cI z 9 i), .int (cI z 10 i), .int (cI z 11 i), .ref (cA z 5 (cS z 2 i))] 2 (.int v)) := by
  simp [cC, sI_cI, sI_cA, sI_cJ, sI_cR, sI_cS, sJ_cI, sJ_cA, sJ_cJ, sJ_cR, sJ_cS, sR_cI, sR_cA, sR_cJ, sR_cR, sR_cS, sS_cI, sS_cA, sS_cJ, sS_cR, sS_cS, up2]
theorem co_Message_keeper (y : Nat → ClassId) (z : CS) (i : Nat) (v : Int32) (k' i' : Nat) (h : ¬ (k' = 1 ∧ i' = i)) : cC y (sI z 8 i v) k' i' = cC y z k' i' := by
  unfold cC; split <;> simp_all [sI_cI, sI_cA, sI_cJ, sI_cR, sI_cS, sI_cE, sJ_cI, sJ_cA, sJ_cJ, sJ_cR, sJ_cS, sJ_cE, sR_cI, sR_cA, sR_cJ, sR_cR, sR_cS, sR_cE, sS_cI, sS_cA, sS_cJ, sS_cR, sS_cS, sS_cE, up2]; try rfl
theorem cp_Message_request (y : Nat → ClassId) (z : CS) (i : Nat) (v : Int32) : cC y (sI z 9 i v) 1 i = .inr (1, List.set [.int (cI z 6 i), .int (cI z 7 i), .int (cI z 8 i), .int (cI z 9 i), .int (cI z 10 i), .int (cI z 11 i), .ref (cA z 5 (cS z 2 i))] 3 (.int v)) := by
  simp [cC, sI_cI, sI_cA, sI_cJ, sI_cR, sI_cS, sJ_cI, sJ_cA, sJ_cJ, sJ_cR, sJ_cS, sR_cI, sR_cA, sR_cJ, sR_cR, sR_cS, sS_cI, sS_cA, sS_cJ, sS_cR, sS_cS, up2]
theorem co_Message_request (y : Nat → ClassId) (z : CS) (i : Nat) (v : Int32) (k' i' : Nat) (h : ¬ (k' = 1 ∧ i' = i)) : cC y (sI z 9 i v) k' i' = cC y z k' i' := by
  unfold cC; split <;> simp_all [sI_cI, sI_cA, sI_cJ, sI_cR, sI_cS, sI_cE, sJ_cI, sJ_cA, sJ_cJ, sJ_cR, sJ_cS, sJ_cE, sR_cI, sR_cA, sR_cJ, sR_cR, sR_cS, sR_cE, sS_cI, sS_cA, sS_cJ, sS_cR, sS_cS, sS_cE, up2]; try rfl
theorem cp_Message_key (y : Nat → ClassId) (z : CS) (i : Nat) (v : Int32) : cC y (sI z 10 i v) 1 i = .inr (1, List.set [.int (cI z 6 i), .int (cI z 7 i), .int (cI z 8 i), .int (cI z 9 i), .int (cI z 10 i), .int (cI z 11 i), .ref (cA z 5 (cS z 2 i))] 4 (.int v)) := by
  simp [cC, sI_cI, sI_cA, sI_cJ, sI_cR, sI_cS, sJ_cI, sJ_cA, sJ_cJ, sJ_cR, sJ_cS, sR_cI, sR_cA, sR_cJ, sR_cR, sR_cS, sS_cI, sS_cA, sS_cJ, sS_cR, sS_cS, up2]
theorem co_Message_key (y : Nat → ClassId) (z : CS) (i : Nat) (v : Int32) (k' i' : Nat) (h : ¬ (k' = 1 ∧ i' = i)) : cC y (sI z 10 i v) k' i' = cC y z k' i' := by
  unfold cC; split <;> simp_all [sI_cI, sI_cA, sI_cJ, sI_cR, sI_cS, sI_cE, sJ_cI, sJ_cA, sJ_cJ, sJ_cR, sJ_cS, sJ_cE, sR_cI, sR_cA, sR_cJ, sR_cR, sR_cS, sR_cE, sS_cI, sS_cA, sS_cJ, sS_cR, sS_cS, sS_cE, up2]; try rfl
theorem cp_Message_ballot (y : Nat → ClassId) (z : CS) (i : Nat) (v : Int32) : cC y (sI z 11 i v) 1 i = .inr (1, List.set [.int (cI z 6 i), .int (cI z 7 i), .int (cI z 8 i), .int (cI z 9 i), .int (cI z 10 i), .int (cI z 11 i), .ref (cA z 5 (cS z 2 i))] 5 (.int v)) := by
  simp [cC, sI_cI, sI_cA, sI_cJ, sI_cR, sI_cS, sJ_cI, sJ_cA, sJ_cJ, sJ_cR, sJ_cS, sR_cI, sR_cA, sR_cJ, sR_cR, sR_cS, sS_cI, sS_cA, sS_cJ, sS_cR, sS_cS, up2]
theorem co_Message_ballot (y : Nat → ClassId) (z : CS) (i : Nat) (v : Int32) (k' i' : Nat) (h : ¬ (k' = 1 ∧ i' = i)) : cC y (sI z 11 i v) k' i' = cC y z k' i' := by
  unfold cC; split <;> simp_all [sI_cI, sI_cA, sI_cJ, sI_cR, sI_cS, sI_cE, sJ_cI, sJ_cA, sJ_cJ, sJ_cR, sJ_cS, sJ_cE, sR_cI, sR_cA, sR_cJ, sR_cR, sR_cS, sR_cE, sS_cI, sS_cA, sS_cJ, sS_cR, sS_cS, sS_cE, up2]; try rfl
theorem cp_Message_state (y : Nat → ClassId) (z : CS) (i : Nat) (v : Nat) : cC y (sS z 2 i v) 1 i = .inr (1, List.set [.int (cI z 6 i), .int (cI z 7 i), .int (cI z 8 i), .int (cI z 9 i), .int (cI z 10 i), .int (cI z 11 i), .ref (cA z 5 (cS z 2 i))] 6 (.ref (cA z 5 v))) := by
  simp [cC, sI_cI, sI_cA, sI_cJ, sI_cR, sI_cS, sJ_cI, sJ_cA, sJ_cJ, sJ_cR, sJ_cS, sR_cI, sR_cA, sR_cJ, sR_cR, sR_cS, sS_cI, sS_cA, sS_cJ, sS_cR, sS_cS, up2]
theorem co_Message_state (y : Nat → ClassId) (z : CS) (i : Nat) (v : Nat) (k' i' : Nat) (h : ¬ (k' = 1 ∧ i' = i)) : cC y (sS z 2 i v) k' i' = cC y z k' i' := by
  unfold cC; split <;> simp_all [sI_cI, sI_cA, sI_cJ, sI_cR, sI_cS, sI_cE, sJ_cI, sJ_cA, sJ_cJ, sJ_cR, sJ_cS, sJ_cE, sR_cI, sR_cA, sR_cJ, sR_cR, sR_cS, sR_cE, sS_cI, sS_cA, sS_cJ, sS_cR, sS_cS, sS_cE, up2]; try rfl
theorem cp_Register_promise (y : Nat → ClassId) (z : CS) (i : Nat) (v : Int32) : cC y (sI z 0 i v) 2 i = .inr (2, List.set [.int (cI z 0 i), .int (cI z 1 i), .ref (cA z 5 (cS z 0 i))] 0 (.int v)) := by
  simp [cC, sI_cI, sI_cA, sI_cJ, sI_cR, sI_cS, sJ_cI, sJ_cA, sJ_cJ, sJ_cR, sJ_cS, sR_cI, sR_cA, sR_cJ, sR_cR, sR_cS, sS_cI, sS_cA, sS_cJ, sS_cR, sS_cS, up2]
theorem co_Register_promise (y : Nat → ClassId) (z : CS) (i : Nat) (v : Int32) (k' i' : Nat) (h : ¬ (k' = 2 ∧ i' = i)) : cC y (sI z 0 i v) k' i' = cC y z k' i' := by
  unfold cC; split <;> simp_all [sI_cI, sI_cA, sI_cJ, sI_cR, sI_cS, sI_cE, sJ_cI, sJ_cA, sJ_cJ, sJ_cR, sJ_cS, sJ_cE, sR_cI, sR_cA, sR_cJ, sR_cR, sR_cS, sR_cE, sS_cI, sS_cA, sS_cJ, sS_cR, sS_cS, sS_cE, up2]; try rfl
theorem cp_Register_ballot (y : Nat → ClassId) (z : CS) (i : Nat) (v : Int32) : cC y (sI z 1 i v) 2 i = .inr (2, List.set [.int (cI z 0 i), .int (cI z 1 i), .ref (cA z 5 (cS z 0 i))] 1 (.int v)) := by
  simp [cC, sI_cI, sI_cA, sI_cJ, sI_cR, sI_cS, sJ_cI, sJ_cA, sJ_cJ, sJ_cR, sJ_cS, sR_cI, sR_cA, sR_cJ, sR_cR, sR_cS, sS_cI, sS_cA, sS_cJ, sS_cR, sS_cS, up2]
theorem co_Register_ballot (y : Nat → ClassId) (z : CS) (i : Nat) (v : Int32) (k' i' : Nat) (h : ¬ (k' = 2 ∧ i' = i)) : cC y (sI z 1 i v) k' i' = cC y z k' i' := by
  unfold cC; split <;> simp_all [sI_cI, sI_cA, sI_cJ, sI_cR, sI_cS, sI_cE, sJ_cI, sJ_cA, sJ_cJ, sJ_cR, sJ_cS, sJ_cE, sR_cI, sR_cA, sR_cJ, sR_cR, sR_cS, sR_cE, sS_cI, sS_cA, sS_cJ, sS_cR, sS_cS, sS_cE, up2]; try rfl
theorem cp_Register_state (y : Nat → ClassId) (z : CS) (i : Nat) (v : Nat) : cC y (sS z 0 i v) 2 i = .inr (2, List.set [.int (cI z 0 i), .int (cI z 1 i), .ref (cA z 5 (cS z 0 i))] 2 (.ref (cA z 5 v))) := by
  simp [cC, sI_cI, sI_cA, sI_cJ, sI_cR, sI_cS, sJ_cI, sJ_cA, sJ_cJ, sJ_cR, sJ_cS, sR_cI, sR_cA, sR_cJ, sR_cR, sR_cS, sS_cI, sS_cA, sS_cJ, sS_cR, sS_cS, up2]
theorem co_Register_state (y : Nat → ClassId) (z : CS) (i : Nat) (v : Nat) (k' i' : Nat) (h : ¬ (k' = 2 ∧ i' = i)) : cC y (sS z 0 i v) k' i' = cC y z k' i' := by
  unfold cC; split <;> simp_all [sI_cI, sI_cA, sI_cJ, sI_cR, sI_cS, sI_cE, sJ_cI, sJ_cA, sJ_cJ, sJ_cR, sJ_cS, sJ_cE, sR_cI, sR_cA, sR_cJ, sR_cR, sR_cS, sR_cE, sS_cI, sS_cA, sS_cJ, sS_cR, sS_cS, sS_cE, up2]; try rfl
theorem cp_Request_number (y : Nat → ClassId) (z : CS) (i : Nat) (v : Int32) : cC y (sI z 12 i v) 3 i = .inr (3, List.set [.int (cI z 12 i), .int (cI z 13 i), .int (cI z 14 i), .int (cI z 15 i), .long (cJ z 0 i), .int (cI z 16 i), .int (cI z 17 i), .int (cI z 18 i), .int (cI z 19 i), .int (cI z 20 i), .int (cI z 21 i), .int (cI z 22 i), va_rf ((cR z 3 i).map (cA z 5)), .int (cI z 23 i), .int (cI z 24 i)] 0 (.int v)) := by
  simp [cC, sI_cI, sI_cA, sI_cJ, sI_cR, sI_cS, sJ_cI, sJ_cA, sJ_cJ, sJ_cR, sJ_cS, sR_cI, sR_cA, sR_cJ, sR_cR, sR_cS, sS_cI, sS_cA, sS_cJ, sS_cR, sS_cS, up2]
theorem co_Request_number (y : Nat → ClassId) (z : CS) (i : Nat) (v : Int32) (k' i' : Nat) (h : ¬ (k' = 3 ∧ i' = i)) : cC y (sI z 12 i v) k' i' = cC y z k' i' := by
  unfold cC; split <;> simp_all [sI_cI, sI_cA, sI_cJ, sI_cR, sI_cS, sI_cE, sJ_cI, sJ_cA, sJ_cJ, sJ_cR, sJ_cS, sJ_cE, sR_cI, sR_cA, sR_cJ, sR_cR, sR_cS, sR_cE, sS_cI, sS_cA, sS_cJ, sS_cR, sS_cS, sS_cE, up2]; try rfl
theorem cp_Request_asker (y : Nat → ClassId) (z : CS) (i : Nat) (v : Int32) : cC y (sI z 13 i v) 3 i = .inr (3, List.set [.int (cI z 12 i), .int (cI z 13 i), .int (cI z 14 i), .int (cI z 15 i), .long (cJ z 0 i), .int (cI z 16 i), .int (cI z 17 i), .int (cI z 18 i), .int (cI z 19 i), .int (cI z 20 i), .int (cI z 21 i), .int (cI z 22 i), va_rf ((cR z 3 i).map (cA z 5)), .int (cI z 23 i), .int (cI z 24 i)] 1 (.int v)) := by
  simp [cC, sI_cI, sI_cA, sI_cJ, sI_cR, sI_cS, sJ_cI, sJ_cA, sJ_cJ, sJ_cR, sJ_cS, sR_cI, sR_cA, sR_cJ, sR_cR, sR_cS, sS_cI, sS_cA, sS_cJ, sS_cR, sS_cS, up2]
theorem co_Request_asker (y : Nat → ClassId) (z : CS) (i : Nat) (v : Int32) (k' i' : Nat) (h : ¬ (k' = 3 ∧ i' = i)) : cC y (sI z 13 i v) k' i' = cC y z k' i' := by
  unfold cC; split <;> simp_all [sI_cI, sI_cA, sI_cJ, sI_cR, sI_cS, sI_cE, sJ_cI, sJ_cA, sJ_cJ, sJ_cR, sJ_cS, sJ_cE, sR_cI, sR_cA, sR_cJ, sR_cR, sR_cS, sR_cE, sS_cI, sS_cA, sS_cJ, sS_cR, sS_cS, sS_cE, up2]; try rfl
theorem cp_Request_key (y : Nat → ClassId) (z : CS) (i : Nat) (v : Int32) : cC y (sI z 14 i v) 3 i = .inr (3, List.set [.int (cI z 12 i), .int (cI z 13 i), .int (cI z 14 i), .int (cI z 15 i), .long (cJ z 0 i), .int (cI z 16 i), .int (cI z 17 i), .int (cI z 18 i), .int (cI z 19 i), .int (cI z 20 i), .int (cI z 21 i), .int (cI z 22 i), va_rf ((cR z 3 i).map (cA z 5)), .int (cI z 23 i), .int (cI z 24 i)] 2 (.int v)) := by
  simp [cC, sI_cI, sI_cA, sI_cJ, sI_cR, sI_cS, sJ_cI, sJ_cA, sJ_cJ, sJ_cR, sJ_cS, sR_cI, sR_cA, sR_cJ, sR_cR, sR_cS, sS_cI, sS_cA, sS_cJ, sS_cR, sS_cS, up2]
theorem co_Request_key (y : Nat → ClassId) (z : CS) (i : Nat) (v : Int32) (k' i' : Nat) (h : ¬ (k' = 3 ∧ i' = i)) : cC y (sI z 14 i v) k' i' = cC y z k' i' := by
  unfold cC; split <;> simp_all [sI_cI, sI_cA, sI_cJ, sI_cR, sI_cS, sI_cE, sJ_cI, sJ_cA, sJ_cJ, sJ_cR, sJ_cS, sJ_cE, sR_cI, sR_cA, sR_cJ, sR_cR, sR_cS, sR_cE, sS_cI, sS_cA, sS_cJ, sS_cR, sS_cS, sS_cE, up2]; try rfl
theorem cp_Request_change (y : Nat → ClassId) (z : CS) (i : Nat) (v : Int32) : cC y (sI z 15 i v) 3 i = .inr (3, List.set [.int (cI z 12 i), .int (cI z 13 i), .int (cI z 14 i), .int (cI z 15 i), .long (cJ z 0 i), .int (cI z 16 i), .int (cI z 17 i), .int (cI z 18 i), .int (cI z 19 i), .int (cI z 20 i), .int (cI z 21 i), .int (cI z 22 i), va_rf ((cR z 3 i).map (cA z 5)), .int (cI z 23 i), .int (cI z 24 i)] 3 (.int v)) := by
  simp [cC, sI_cI, sI_cA, sI_cJ, sI_cR, sI_cS, sJ_cI, sJ_cA, sJ_cJ, sJ_cR, sJ_cS, sR_cI, sR_cA, sR_cJ, sR_cR, sR_cS, sS_cI, sS_cA, sS_cJ, sS_cR, sS_cS, up2]
theorem co_Request_change (y : Nat → ClassId) (z : CS) (i : Nat) (v : Int32) (k' i' : Nat) (h : ¬ (k' = 3 ∧ i' = i)) : cC y (sI z 15 i v) k' i' = cC y z k' i' := by
  unfold cC; split <;> simp_all [sI_cI, sI_cA, sI_cJ, sI_cR, sI_cS, sI_cE, sJ_cI, sJ_cA, sJ_cJ, sJ_cR, sJ_cS, sJ_cE, sR_cI, sR_cA, sR_cJ, sR_cR, sR_cS, sR_cE, sS_cI, sS_cA, sS_cJ, sS_cR, sS_cS, sS_cE, up2]; try rfl
theorem cp_Request_argument (y : Nat → ClassId) (z : CS) (i : Nat) (v : Int64) : cC y (sJ z 0 i v) 3 i = .inr (3, List.set [.int (cI z 12 i), .int (cI z 13 i), .int (cI z 14 i), .int (cI z 15 i), .long (cJ z 0 i), .int (cI z 16 i), .int (cI z 17 i), .int (cI z 18 i), .int (cI z 19 i), .int (cI z 20 i), .int (cI z 21 i), .int (cI z 22 i), va_rf ((cR z 3 i).map (cA z 5)), .int (cI z 23 i), .int (cI z 24 i)] 4 (.long v)) := by
  simp [cC, sI_cI, sI_cA, sI_cJ, sI_cR, sI_cS, sJ_cI, sJ_cA, sJ_cJ, sJ_cR, sJ_cS, sR_cI, sR_cA, sR_cJ, sR_cR, sR_cS, sS_cI, sS_cA, sS_cJ, sS_cR, sS_cS, up2]
theorem co_Request_argument (y : Nat → ClassId) (z : CS) (i : Nat) (v : Int64) (k' i' : Nat) (h : ¬ (k' = 3 ∧ i' = i)) : cC y (sJ z 0 i v) k' i' = cC y z k' i' := by
  unfold cC; split <;> simp_all [sI_cI, sI_cA, sI_cJ, sI_cR, sI_cS, sI_cE, sJ_cI, sJ_cA, sJ_cJ, sJ_cR, sJ_cS, sJ_cE, sR_cI, sR_cA, sR_cJ, sR_cR, sR_cS, sR_cE, sS_cI, sS_cA, sS_cJ, sS_cR, sS_cS, sS_cE, up2]; try rfl
theorem cp_Request_ballot (y : Nat → ClassId) (z : CS) (i : Nat) (v : Int32) : cC y (sI z 16 i v) 3 i = .inr (3, List.set [.int (cI z 12 i), .int (cI z 13 i), .int (cI z 14 i), .int (cI z 15 i), .long (cJ z 0 i), .int (cI z 16 i), .int (cI z 17 i), .int (cI z 18 i), .int (cI z 19 i), .int (cI z 20 i), .int (cI z 21 i), .int (cI z 22 i), va_rf ((cR z 3 i).map (cA z 5)), .int (cI z 23 i), .int (cI z 24 i)] 5 (.int v)) := by
  simp [cC, sI_cI, sI_cA, sI_cJ, sI_cR, sI_cS, sJ_cI, sJ_cA, sJ_cJ, sJ_cR, sJ_cS, sR_cI, sR_cA, sR_cJ, sR_cR, sR_cS, sS_cI, sS_cA, sS_cJ, sS_cR, sS_cS, up2]
theorem co_Request_ballot (y : Nat → ClassId) (z : CS) (i : Nat) (v : Int32) (k' i' : Nat) (h : ¬ (k' = 3 ∧ i' = i)) : cC y (sI z 16 i v) k' i' = cC y z k' i' := by
  unfold cC; split <;> simp_all [sI_cI, sI_cA, sI_cJ, sI_cR, sI_cS, sI_cE, sJ_cI, sJ_cA, sJ_cJ, sJ_cR, sJ_cS, sJ_cE, sR_cI, sR_cA, sR_cJ, sR_cR, sR_cS, sR_cE, sS_cI, sS_cA, sS_cJ, sS_cR, sS_cS, sS_cE, up2]; try rfl
theorem cp_Request_enoughPromised (y : Nat → ClassId) (z : CS) (i : Nat) (v : Int32) : cC y (sI z 17 i v) 3 i = .inr (3, List.set [.int (cI z 12 i), .int (cI z 13 i), .int (cI z 14 i), .int (cI z 15 i), .long (cJ z 0 i), .int (cI z 16 i), .int (cI z 17 i), .int (cI z 18 i), .int (cI z 19 i), .int (cI z 20 i), .int (cI z 21 i), .int (cI z 22 i), va_rf ((cR z 3 i).map (cA z 5)), .int (cI z 23 i), .int (cI z 24 i)] 6 (.int v)) := by
  simp [cC, sI_cI, sI_cA, sI_cJ, sI_cR, sI_cS, sJ_cI, sJ_cA, sJ_cJ, sJ_cR, sJ_cS, sR_cI, sR_cA, sR_cJ, sR_cR, sR_cS, sS_cI, sS_cA, sS_cJ, sS_cR, sS_cS, up2]
theorem co_Request_enoughPromised (y : Nat → ClassId) (z : CS) (i : Nat) (v : Int32) (k' i' : Nat) (h : ¬ (k' = 3 ∧ i' = i)) : cC y (sI z 17 i v) k' i' = cC y z k' i' := by
  unfold cC; split <;> simp_all [sI_cI, sI_cA, sI_cJ, sI_cR, sI_cS, sI_cE, sJ_cI, sJ_cA, sJ_cJ, sJ_cR, sJ_cS, sJ_cE, sR_cI, sR_cA, sR_cJ, sR_cR, sR_cS, sR_cE, sS_cI, sS_cA, sS_cJ, sS_cR, sS_cS, sS_cE, up2]; try rfl
theorem cp_Request_acceptSet (y : Nat → ClassId) (z : CS) (i : Nat) (v : Int32) : cC y (sI z 18 i v) 3 i = .inr (3, List.set [.int (cI z 12 i), .int (cI z 13 i), .int (cI z 14 i), .int (cI z 15 i), .long (cJ z 0 i), .int (cI z 16 i), .int (cI z 17 i), .int (cI z 18 i), .int (cI z 19 i), .int (cI z 20 i), .int (cI z 21 i), .int (cI z 22 i), va_rf ((cR z 3 i).map (cA z 5)), .int (cI z 23 i), .int (cI z 24 i)] 7 (.int v)) := by
  simp [cC, sI_cI, sI_cA, sI_cJ, sI_cR, sI_cS, sJ_cI, sJ_cA, sJ_cJ, sJ_cR, sJ_cS, sR_cI, sR_cA, sR_cJ, sR_cR, sR_cS, sS_cI, sS_cA, sS_cJ, sS_cR, sS_cS, up2]
theorem co_Request_acceptSet (y : Nat → ClassId) (z : CS) (i : Nat) (v : Int32) (k' i' : Nat) (h : ¬ (k' = 3 ∧ i' = i)) : cC y (sI z 18 i v) k' i' = cC y z k' i' := by
  unfold cC; split <;> simp_all [sI_cI, sI_cA, sI_cJ, sI_cR, sI_cS, sI_cE, sJ_cI, sJ_cA, sJ_cJ, sJ_cR, sJ_cS, sJ_cE, sR_cI, sR_cA, sR_cJ, sR_cR, sR_cS, sR_cE, sS_cI, sS_cA, sS_cJ, sS_cR, sS_cS, sS_cE, up2]; try rfl
theorem cp_Request_enoughTaken (y : Nat → ClassId) (z : CS) (i : Nat) (v : Int32) : cC y (sI z 19 i v) 3 i = .inr (3, List.set [.int (cI z 12 i), .int (cI z 13 i), .int (cI z 14 i), .int (cI z 15 i), .long (cJ z 0 i), .int (cI z 16 i), .int (cI z 17 i), .int (cI z 18 i), .int (cI z 19 i), .int (cI z 20 i), .int (cI z 21 i), .int (cI z 22 i), va_rf ((cR z 3 i).map (cA z 5)), .int (cI z 23 i), .int (cI z 24 i)] 8 (.int v)) := by
  simp [cC, sI_cI, sI_cA, sI_cJ, sI_cR, sI_cS, sJ_cI, sJ_cA, sJ_cJ, sJ_cR, sJ_cS, sR_cI, sR_cA, sR_cJ, sR_cR, sR_cS, sS_cI, sS_cA, sS_cJ, sS_cR, sS_cS, up2]
theorem co_Request_enoughTaken (y : Nat → ClassId) (z : CS) (i : Nat) (v : Int32) (k' i' : Nat) (h : ¬ (k' = 3 ∧ i' = i)) : cC y (sI z 19 i v) k' i' = cC y z k' i' := by
  unfold cC; split <;> simp_all [sI_cI, sI_cA, sI_cJ, sI_cR, sI_cS, sI_cE, sJ_cI, sJ_cA, sJ_cJ, sJ_cR, sJ_cS, sJ_cE, sR_cI, sR_cA, sR_cJ, sR_cR, sR_cS, sR_cE, sS_cI, sS_cA, sS_cJ, sS_cR, sS_cS, sS_cE, up2]; try rfl
theorem cp_Request_accepting (y : Nat → ClassId) (z : CS) (i : Nat) (v : Int32) : cC y (sI z 20 i v) 3 i = .inr (3, List.set [.int (cI z 12 i), .int (cI z 13 i), .int (cI z 14 i), .int (cI z 15 i), .long (cJ z 0 i), .int (cI z 16 i), .int (cI z 17 i), .int (cI z 18 i), .int (cI z 19 i), .int (cI z 20 i), .int (cI z 21 i), .int (cI z 22 i), va_rf ((cR z 3 i).map (cA z 5)), .int (cI z 23 i), .int (cI z 24 i)] 9 (.int v)) := by
  simp [cC, sI_cI, sI_cA, sI_cJ, sI_cR, sI_cS, sJ_cI, sJ_cA, sJ_cJ, sJ_cR, sJ_cS, sR_cI, sR_cA, sR_cJ, sR_cR, sR_cS, sS_cI, sS_cA, sS_cJ, sS_cR, sS_cS, up2]
theorem co_Request_accepting (y : Nat → ClassId) (z : CS) (i : Nat) (v : Int32) (k' i' : Nat) (h : ¬ (k' = 3 ∧ i' = i)) : cC y (sI z 20 i v) k' i' = cC y z k' i' := by
  unfold cC; split <;> simp_all [sI_cI, sI_cA, sI_cJ, sI_cR, sI_cS, sI_cE, sJ_cI, sJ_cA, sJ_cJ, sJ_cR, sJ_cS, sJ_cE, sR_cI, sR_cA, sR_cJ, sR_cR, sR_cS, sR_cE, sS_cI, sS_cA, sS_cJ, sS_cR, sS_cS, sS_cE, up2]; try rfl
theorem cp_Request_answered (y : Nat → ClassId) (z : CS) (i : Nat) (v : Int32) : cC y (sI z 21 i v) 3 i = .inr (3, List.set [.int (cI z 12 i), .int (cI z 13 i), .int (cI z 14 i), .int (cI z 15 i), .long (cJ z 0 i), .int (cI z 16 i), .int (cI z 17 i), .int (cI z 18 i), .int (cI z 19 i), .int (cI z 20 i), .int (cI z 21 i), .int (cI z 22 i), va_rf ((cR z 3 i).map (cA z 5)), .int (cI z 23 i), .int (cI z 24 i)] 10 (.int v)) := by
  simp [cC, sI_cI, sI_cA, sI_cJ, sI_cR, sI_cS, sJ_cI, sJ_cA, sJ_cJ, sJ_cR, sJ_cS, sR_cI, sR_cA, sR_cJ, sR_cR, sR_cS, sS_cI, sS_cA, sS_cJ, sS_cR, sS_cS, up2]
theorem co_Request_answered (y : Nat → ClassId) (z : CS) (i : Nat) (v : Int32) (k' i' : Nat) (h : ¬ (k' = 3 ∧ i' = i)) : cC y (sI z 21 i v) k' i' = cC y z k' i' := by
  unfold cC; split <;> simp_all [sI_cI, sI_cA, sI_cJ, sI_cR, sI_cS, sI_cE, sJ_cI, sJ_cA, sJ_cJ, sJ_cR, sJ_cS, sJ_cE, sR_cI, sR_cA, sR_cJ, sR_cR, sR_cS, sR_cE, sS_cI, sS_cA, sS_cJ, sS_cR, sS_cS, sS_cE, up2]; try rfl
theorem cp_Request_toldBallot (y : Nat → ClassId) (z : CS) (i : Nat) (v : Int32) : cC y (sI z 22 i v) 3 i = .inr (3, List.set [.int (cI z 12 i), .int (cI z 13 i), .int (cI z 14 i), .int (cI z 15 i), .long (cJ z 0 i), .int (cI z 16 i), .int (cI z 17 i), .int (cI z 18 i), .int (cI z 19 i), .int (cI z 20 i), .int (cI z 21 i), .int (cI z 22 i), va_rf ((cR z 3 i).map (cA z 5)), .int (cI z 23 i), .int (cI z 24 i)] 11 (.int v)) := by
  simp [cC, sI_cI, sI_cA, sI_cJ, sI_cR, sI_cS, sJ_cI, sJ_cA, sJ_cJ, sJ_cR, sJ_cS, sR_cI, sR_cA, sR_cJ, sR_cR, sR_cS, sS_cI, sS_cA, sS_cJ, sS_cR, sS_cS, up2]
theorem co_Request_toldBallot (y : Nat → ClassId) (z : CS) (i : Nat) (v : Int32) (k' i' : Nat) (h : ¬ (k' = 3 ∧ i' = i)) : cC y (sI z 22 i v) k' i' = cC y z k' i' := by
  unfold cC; split <;> simp_all [sI_cI, sI_cA, sI_cJ, sI_cR, sI_cS, sI_cE, sJ_cI, sJ_cA, sJ_cJ, sJ_cR, sJ_cS, sJ_cE, sR_cI, sR_cA, sR_cJ, sR_cR, sR_cS, sR_cE, sS_cI, sS_cA, sS_cJ, sS_cR, sS_cS, sS_cE, up2]; try rfl
theorem cp_Request_state (y : Nat → ClassId) (z : CS) (i : Nat) (v : Option Nat) : cC y (sR z 3 i v) 3 i = .inr (3, List.set [.int (cI z 12 i), .int (cI z 13 i), .int (cI z 14 i), .int (cI z 15 i), .long (cJ z 0 i), .int (cI z 16 i), .int (cI z 17 i), .int (cI z 18 i), .int (cI z 19 i), .int (cI z 20 i), .int (cI z 21 i), .int (cI z 22 i), va_rf ((cR z 3 i).map (cA z 5)), .int (cI z 23 i), .int (cI z 24 i)] 12 (va_rf (v.map (cA z 5)))) := by
  simp [cC, sI_cI, sI_cA, sI_cJ, sI_cR, sI_cS, sJ_cI, sJ_cA, sJ_cJ, sJ_cR, sJ_cS, sR_cI, sR_cA, sR_cJ, sR_cR, sR_cS, sS_cI, sS_cA, sS_cJ, sS_cR, sS_cS, up2]
theorem co_Request_state (y : Nat → ClassId) (z : CS) (i : Nat) (v : Option Nat) (k' i' : Nat) (h : ¬ (k' = 3 ∧ i' = i)) : cC y (sR z 3 i v) k' i' = cC y z k' i' := by
  unfold cC; split <;> simp_all [sI_cI, sI_cA, sI_cJ, sI_cR, sI_cS, sI_cE, sJ_cI, sJ_cA, sJ_cJ, sJ_cR, sJ_cS, sJ_cE, sR_cI, sR_cA, sR_cJ, sR_cR, sR_cS, sR_cE, sS_cI, sS_cA, sS_cJ, sS_cR, sS_cS, sS_cE, up2]; try rfl
theorem cp_Request_failed (y : Nat → ClassId) (z : CS) (i : Nat) (v : Int32) : cC y (sI z 23 i v) 3 i = .inr (3, List.set [.int (cI z 12 i), .int (cI z 13 i), .int (cI z 14 i), .int (cI z 15 i), .long (cJ z 0 i), .int (cI z 16 i), .int (cI z 17 i), .int (cI z 18 i), .int (cI z 19 i), .int (cI z 20 i), .int (cI z 21 i), .int (cI z 22 i), va_rf ((cR z 3 i).map (cA z 5)), .int (cI z 23 i), .int (cI z 24 i)] 13 (.int v)) := by
  simp [cC, sI_cI, sI_cA, sI_cJ, sI_cR, sI_cS, sJ_cI, sJ_cA, sJ_cJ, sJ_cR, sJ_cS, sR_cI, sR_cA, sR_cJ, sR_cR, sR_cS, sS_cI, sS_cA, sS_cJ, sS_cR, sS_cS, up2]
theorem co_Request_failed (y : Nat → ClassId) (z : CS) (i : Nat) (v : Int32) (k' i' : Nat) (h : ¬ (k' = 3 ∧ i' = i)) : cC y (sI z 23 i v) k' i' = cC y z k' i' := by
  unfold cC; split <;> simp_all [sI_cI, sI_cA, sI_cJ, sI_cR, sI_cS, sI_cE, sJ_cI, sJ_cA, sJ_cJ, sJ_cR, sJ_cS, sJ_cE, sR_cI, sR_cA, sR_cJ, sR_cR, sR_cS, sR_cE, sS_cI, sS_cA, sS_cJ, sS_cR, sS_cS, sS_cE, up2]; try rfl
theorem cp_Request_ending (y : Nat → ClassId) (z : CS) (i : Nat) (v : Int32) : cC y (sI z 24 i v) 3 i = .inr (3, List.set [.int (cI z 12 i), .int (cI z 13 i), .int (cI z 14 i), .int (cI z 15 i), .long (cJ z 0 i), .int (cI z 16 i), .int (cI z 17 i), .int (cI z 18 i), .int (cI z 19 i), .int (cI z 20 i), .int (cI z 21 i), .int (cI z 22 i), va_rf ((cR z 3 i).map (cA z 5)), .int (cI z 23 i), .int (cI z 24 i)] 14 (.int v)) := by
  simp [cC, sI_cI, sI_cA, sI_cJ, sI_cR, sI_cS, sJ_cI, sJ_cA, sJ_cJ, sJ_cR, sJ_cS, sR_cI, sR_cA, sR_cJ, sR_cR, sR_cS, sS_cI, sS_cA, sS_cJ, sS_cR, sS_cS, up2]
theorem co_Request_ending (y : Nat → ClassId) (z : CS) (i : Nat) (v : Int32) (k' i' : Nat) (h : ¬ (k' = 3 ∧ i' = i)) : cC y (sI z 24 i v) k' i' = cC y z k' i' := by
  unfold cC; split <;> simp_all [sI_cI, sI_cA, sI_cJ, sI_cR, sI_cS, sI_cE, sJ_cI, sJ_cA, sJ_cJ, sJ_cR, sJ_cS, sJ_cE, sR_cI, sR_cA, sR_cJ, sR_cR, sR_cS, sR_cE, sS_cI, sS_cA, sS_cJ, sS_cR, sS_cS, sS_cE, up2]; try rfl
theorem cp_Row_size (y : Nat → ClassId) (z : CS) (i : Nat) (v : Int32) : cC y (sI z 25 i v) 4 i = .inr (4, List.set [.ref (cA z 11 0), .int (cI z 25 i)] 1 (.int v)) := by
  simp [cC, sI_cI, sI_cA, sI_cJ, sI_cR, sI_cS, sJ_cI, sJ_cA, sJ_cJ, sJ_cR, sJ_cS, sR_cI, sR_cA, sR_cJ, sR_cR, sR_cS, sS_cI, sS_cA, sS_cJ, sS_cR, sS_cS, up2]
theorem co_Row_size (y : Nat → ClassId) (z : CS) (i : Nat) (v : Int32) (k' i' : Nat) (h : ¬ (k' = 4 ∧ i' = i)) : cC y (sI z 25 i v) k' i' = cC y z k' i' := by
  unfold cC; split <;> simp_all [sI_cI, sI_cA, sI_cJ, sI_cR, sI_cS, sI_cE, sJ_cI, sJ_cA, sJ_cJ, sJ_cR, sJ_cS, sJ_cE, sR_cI, sR_cA, sR_cJ, sR_cR, sR_cS, sR_cE, sS_cI, sS_cA, sS_cJ, sS_cR, sS_cS, sS_cE, up2]; try rfl
theorem cp_State_present (y : Nat → ClassId) (z : CS) (i : Nat) (v : Int32) : cC y (sI z 26 i v) 5 i = .inr (5, List.set [.int (cI z 26 i), .int (cI z 27 i), .long (cJ z 1 i)] 0 (.int v)) := by
  simp [cC, sI_cI, sI_cA, sI_cJ, sI_cR, sI_cS, sJ_cI, sJ_cA, sJ_cJ, sJ_cR, sJ_cS, sR_cI, sR_cA, sR_cJ, sR_cR, sR_cS, sS_cI, sS_cA, sS_cJ, sS_cR, sS_cS, up2]
theorem co_State_present (y : Nat → ClassId) (z : CS) (i : Nat) (v : Int32) (k' i' : Nat) (h : ¬ (k' = 5 ∧ i' = i)) : cC y (sI z 26 i v) k' i' = cC y z k' i' := by
  unfold cC; split <;> simp_all [sI_cI, sI_cA, sI_cJ, sI_cR, sI_cS, sI_cE, sJ_cI, sJ_cA, sJ_cJ, sJ_cR, sJ_cS, sJ_cE, sR_cI, sR_cA, sR_cJ, sR_cR, sR_cS, sR_cE, sS_cI, sS_cA, sS_cJ, sS_cR, sS_cS, sS_cE, up2]; try rfl
theorem cp_State_version (y : Nat → ClassId) (z : CS) (i : Nat) (v : Int32) : cC y (sI z 27 i v) 5 i = .inr (5, List.set [.int (cI z 26 i), .int (cI z 27 i), .long (cJ z 1 i)] 1 (.int v)) := by
  simp [cC, sI_cI, sI_cA, sI_cJ, sI_cR, sI_cS, sJ_cI, sJ_cA, sJ_cJ, sJ_cR, sJ_cS, sR_cI, sR_cA, sR_cJ, sR_cR, sR_cS, sS_cI, sS_cA, sS_cJ, sS_cR, sS_cS, up2]
theorem co_State_version (y : Nat → ClassId) (z : CS) (i : Nat) (v : Int32) (k' i' : Nat) (h : ¬ (k' = 5 ∧ i' = i)) : cC y (sI z 27 i v) k' i' = cC y z k' i' := by
  unfold cC; split <;> simp_all [sI_cI, sI_cA, sI_cJ, sI_cR, sI_cS, sI_cE, sJ_cI, sJ_cA, sJ_cJ, sJ_cR, sJ_cS, sJ_cE, sR_cI, sR_cA, sR_cJ, sR_cR, sR_cS, sR_cE, sS_cI, sS_cA, sS_cJ, sS_cR, sS_cS, sS_cE, up2]; try rfl
theorem cp_State_value (y : Nat → ClassId) (z : CS) (i : Nat) (v : Int64) : cC y (sJ z 1 i v) 5 i = .inr (5, List.set [.int (cI z 26 i), .int (cI z 27 i), .long (cJ z 1 i)] 2 (.long v)) := by
  simp [cC, sI_cI, sI_cA, sI_cJ, sI_cR, sI_cS, sJ_cI, sJ_cA, sJ_cJ, sJ_cR, sJ_cS, sR_cI, sR_cA, sR_cJ, sR_cR, sR_cS, sS_cI, sS_cA, sS_cJ, sS_cR, sS_cS, up2]
theorem co_State_value (y : Nat → ClassId) (z : CS) (i : Nat) (v : Int64) (k' i' : Nat) (h : ¬ (k' = 5 ∧ i' = i)) : cC y (sJ z 1 i v) k' i' = cC y z k' i' := by
  unfold cC; split <;> simp_all [sI_cI, sI_cA, sI_cJ, sI_cR, sI_cS, sI_cE, sJ_cI, sJ_cA, sJ_cJ, sJ_cR, sJ_cS, sJ_cE, sR_cI, sR_cA, sR_cJ, sR_cR, sR_cS, sR_cE, sS_cI, sS_cA, sS_cJ, sS_cR, sS_cS, sS_cE, up2]; try rfl
theorem cp_SharedRegisters_requestCount (y : Nat → ClassId) (z : CS) (i : Nat) (v : Int32) : cC y (sI z 28 i v) 6 i = .inr (6, List.set [.ref (cA z 5 0), .ref (cA z 12 0), .ref (cA z 9 0), .ref (cA z 10 0), .ref (cA z 13 0), .ref (cA z 4 0), .int (cI z 28 i)] 6 (.int v)) := by
  simp [cC, sI_cI, sI_cA, sI_cJ, sI_cR, sI_cS, sJ_cI, sJ_cA, sJ_cJ, sJ_cR, sJ_cS, sR_cI, sR_cA, sR_cJ, sR_cR, sR_cS, sS_cI, sS_cA, sS_cJ, sS_cR, sS_cS, up2]
theorem co_SharedRegisters_requestCount (y : Nat → ClassId) (z : CS) (i : Nat) (v : Int32) (k' i' : Nat) (h : ¬ (k' = 6 ∧ i' = i)) : cC y (sI z 28 i v) k' i' = cC y z k' i' := by
  unfold cC; split <;> simp_all [sI_cI, sI_cA, sI_cJ, sI_cR, sI_cS, sI_cE, sJ_cI, sJ_cA, sJ_cJ, sJ_cR, sJ_cS, sJ_cE, sR_cI, sR_cA, sR_cJ, sR_cR, sR_cS, sR_cE, sS_cI, sS_cA, sS_cJ, sS_cR, sS_cS, sS_cE, up2]; try rfl
end
section
section CR
variable {p : Program} {l : Launch} {e : Env} {R : Room} {s : State} {m : MethodId} {args : Array Value} {below : List Frame} {meth : Method} {c : Code} {H : Heap} {locs : List Loc} {cells slots : Nat} {Q : State → Prop}
variable {cc : ByteArray} {pc : Nat} {ls : Array Slot} {rest : List Value} {D : va_G} {A : Nat → Prop} {y : Nat → ClassId} {z : CS} {H0 : Heap} {own : String} {index i : Nat} {Ts : List Cond}
theorem g_Asker_number (hx : p.tables.exec = Jvm.exec) (hb : c.code = cc) (hts : ∀ w ∈ Ts, w.before args s = true) (hin : ∀ w ∈ wsX00, w ∈ Ts) (hown : s.vm.findClass own = some m.cls) (hK : va_K D vwCl (ctys y) s) (hW : cw D y A z H) {q : Nat} (hq : q = cA z 0 i) (hi : i < 4) (hlink : (Cond.fieldLink own index "SharedRegisters$Asker" "number" "I").before args s = true) (hdg : decode cc pc = .ok (.getfield index, 3)) (kk : W p l e R s m args below meth c H locs cells slots Q (F0 m (pc + 3) ls (.int (cI z 2 i) :: rest))) : W p l e R s m args below meth c H locs cells slots Q (F0 m pc ls (.ref q :: rest)) := by
  subst hq
  exact gw_get (ci := 0) (C := RX0) (T := TX0) (Nf := 5) hx hb hts hin hown hK hW (k := 0) hi (fs := [.int (cI z 2 i), .ref (cA z 7 i), .ref (cA z 8 i), .int (cI z 3 i), va_rf ((cR z 1 i).map (cA z 3))]) rfl rfl 0 (by decide) hlink (fun _ h9 => h9) rfl hdg kk
theorem gN_Asker_number (hx : p.tables.exec = Jvm.exec) (hb : c.code = cc) (hts : ∀ w ∈ Ts, w.before args s = true) (hin : ∀ w ∈ wsX00, w ∈ Ts) (hown : s.vm.findClass own = some m.cls) (hK : va_K D vwCl (ctys y) s) (hW : cw D y A z H) {q : Nat} (hq : q = cA z 0 i) (hi : i < 4) (hlink : va_Nw (.fieldLinkNest own index "SharedRegisters$Asker" "number" "I" "SharedRegisters") s) (hdg : decode cc pc = .ok (.getfield index, 3)) (kk : W p l e R s m args below meth c H locs cells slots Q (F0 m (pc + 3) ls (.int (cI z 2 i) :: rest))) : W p l e R s m args below meth c H locs cells slots Q (F0 m pc ls (.ref q :: rest)) := by
  subst hq
  exact gw_getN (ci := 0) (C := RX0) (T := TX0) (Nf := 5) hx hb hts hin hown hK hW (k := 0) hi (fs := [.int (cI z 2 i), .ref (cA z 7 i), .ref (cA z 8 i), .int (cI z 3 i), va_rf ((cR z 1 i).map (cA z 3))]) rfl rfl 0 (by decide) hlink (fun _ h9 => h9) rfl hdg kk
theorem g_Asker_sets (hx : p.tables.exec = Jvm.exec) (hb : c.code = cc) (hts : ∀ w ∈ Ts, w.before args s = true) (hin : ∀ w ∈ wsX00, w ∈ Ts) (hown : s.vm.findClass own = some m.cls) (hK : va_K D vwCl (ctys y) s) (hW : cw D y A z H) {q : Nat} (hq : q = cA z 0 i) (hi : i < 4) (hlink : (Cond.fieldLink own index "SharedRegisters$Asker" "sets" "[I").before args s = true) (hdg : decode cc pc = .ok (.getfield index, 3)) (kk : W p l e R s m args below meth c H locs cells slots Q (F0 m (pc + 3) ls (.ref (cA z 7 i) :: rest))) : W p l e R s m args below meth c H locs cells slots Q (F0 m pc ls (.ref q :: rest)) := by
  subst hq
  exact gw_get (ci := 0) (C := RX0) (T := TX0) (Nf := 5) hx hb hts hin hown hK hW (k := 0) hi (fs := [.int (cI z 2 i), .ref (cA z 7 i), .ref (cA z 8 i), .int (cI z 3 i), va_rf ((cR z 1 i).map (cA z 3))]) rfl rfl 1 (by decide) hlink (fun _ h9 => h9) rfl hdg kk
theorem gN_Asker_sets (hx : p.tables.exec = Jvm.exec) (hb : c.code = cc) (hts : ∀ w ∈ Ts, w.before args s = true) (hin : ∀ w ∈ wsX00, w ∈ Ts) (hown : s.vm.findClass own = some m.cls) (hK : va_K D vwCl (ctys y) s) (hW : cw D y A z H) {q : Nat} (hq : q = cA z 0 i) (hi : i < 4) (hlink : va_Nw (.fieldLinkNest own index "SharedRegisters$Asker" "sets" "[I" "SharedRegisters") s) (hdg : decode cc pc = .ok (.getfield index, 3)) (kk : W p l e R s m args below meth c H locs cells slots Q (F0 m (pc + 3) ls (.ref (cA z 7 i) :: rest))) : W p l e R s m args below meth c H locs cells slots Q (F0 m pc ls (.ref q :: rest)) := by
  subst hq
  exact gw_getN (ci := 0) (C := RX0) (T := TX0) (Nf := 5) hx hb hts hin hown hK hW (k := 0) hi (fs := [.int (cI z 2 i), .ref (cA z 7 i), .ref (cA z 8 i), .int (cI z 3 i), va_rf ((cR z 1 i).map (cA z 3))]) rfl rfl 1 (by decide) hlink (fun _ h9 => h9) rfl hdg kk
theorem g_Asker_enough (hx : p.tables.exec = Jvm.exec) (hb : c.code = cc) (hts : ∀ w ∈ Ts, w.before args s = true) (hin : ∀ w ∈ wsX00, w ∈ Ts) (hown : s.vm.findClass own = some m.cls) (hK : va_K D vwCl (ctys y) s) (hW : cw D y A z H) {q : Nat} (hq : q = cA z 0 i) (hi : i < 4) (hlink : (Cond.fieldLink own index "SharedRegisters$Asker" "enough" "[I").before args s = true) (hdg : decode cc pc = .ok (.getfield index, 3)) (kk : W p l e R s m args below meth c H locs cells slots Q (F0 m (pc + 3) ls (.ref (cA z 8 i) :: rest))) : W p l e R s m args below meth c H locs cells slots Q (F0 m pc ls (.ref q :: rest)) := by
  subst hq
  exact gw_get (ci := 0) (C := RX0) (T := TX0) (Nf := 5) hx hb hts hin hown hK hW (k := 0) hi (fs := [.int (cI z 2 i), .ref (cA z 7 i), .ref (cA z 8 i), .int (cI z 3 i), va_rf ((cR z 1 i).map (cA z 3))]) rfl rfl 2 (by decide) hlink (fun _ h9 => h9) rfl hdg kk
theorem gN_Asker_enough (hx : p.tables.exec = Jvm.exec) (hb : c.code = cc) (hts : ∀ w ∈ Ts, w.before args s = true) (hin : ∀ w ∈ wsX00, w ∈ Ts) (hown : s.vm.findClass own = some m.cls) (hK : va_K D vwCl (ctys y) s) (hW : cw D y A z H) {q : Nat} (hq : q = cA z 0 i) (hi : i < 4) (hlink : va_Nw (.fieldLinkNest own index "SharedRegisters$Asker" "enough" "[I" "SharedRegisters") s) (hdg : decode cc pc = .ok (.getfield index, 3)) (kk : W p l e R s m args below meth c H locs cells slots Q (F0 m (pc + 3) ls (.ref (cA z 8 i) :: rest))) : W p l e R s m args below meth c H locs cells slots Q (F0 m pc ls (.ref q :: rest)) := by
  subst hq
  exact gw_getN (ci := 0) (C := RX0) (T := TX0) (Nf := 5) hx hb hts hin hown hK hW (k := 0) hi (fs := [.int (cI z 2 i), .ref (cA z 7 i), .ref (cA z 8 i), .int (cI z 3 i), va_rf ((cR z 1 i).map (cA z 3))]) rfl rfl 2 (by decide) hlink (fun _ h9 => h9) rfl hdg kk
theorem g_Asker_count (hx : p.tables.exec = Jvm.exec) (hb : c.code = cc) (hts : ∀ w ∈ Ts, w.before args s = true) (hin : ∀ w ∈ wsX00, w ∈ Ts) (hown : s.vm.findClass own = some m.cls) (hK : va_K D vwCl (ctys y) s) (hW : cw D y A z H) {q : Nat} (hq : q = cA z 0 i) (hi : i < 4) (hlink : (Cond.fieldLink own index "SharedRegisters$Asker" "count" "I").before args s = true) (hdg : decode cc pc = .ok (.getfield index, 3)) (kk : W p l e R s m args below meth c H locs cells slots Q (F0 m (pc + 3) ls (.int (cI z 3 i) :: rest))) : W p l e R s m args below meth c H locs cells slots Q (F0 m pc ls (.ref q :: rest)) := by
  subst hq
  exact gw_get (ci := 0) (C := RX0) (T := TX0) (Nf := 5) hx hb hts hin hown hK hW (k := 0) hi (fs := [.int (cI z 2 i), .ref (cA z 7 i), .ref (cA z 8 i), .int (cI z 3 i), va_rf ((cR z 1 i).map (cA z 3))]) rfl rfl 3 (by decide) hlink (fun _ h9 => h9) rfl hdg kk
theorem p_Asker_count (hx : p.tables.exec = Jvm.exec) (hb : c.code = cc) (hts : ∀ w ∈ Ts, w.before args s = true) (hin : ∀ w ∈ wsX00, w ∈ Ts) (hown : s.vm.findClass own = some m.cls) (hK : va_K D vwCl (ctys y) s) (hW : cw D y A z H) (hS : va_S A H0 H locs) {q : Nat} (hq : q = cA z 0 i) (hi : i < 4) {v : Int32} (hlink : (Cond.fieldLink own index "SharedRegisters$Asker" "count" "I").before args s = true) (hdg : decode cc pc = .ok (.putfield index, 3)) (kk : ∀ (H1 : Heap) (locs1 : List Loc), cw D y A (sI z 3 i v) H1 → va_S A H0 H1 locs1 → W p l e R s m args below meth c H1 locs1 cells slots Q (F0 m (pc + 3) ls rest)) : W p l e R s m args below meth c H locs cells slots Q (F0 m pc ls (.int v :: .ref q :: rest)) := by
  subst hq
  exact gw_put (ci := 0) (C := RX0) (T := TX0) (Nf := 5) hx hb hts hin tyX0 tyX0_ok nmX0 hown hK hW hS (k := 0) hi (fs := [.int (cI z 2 i), .ref (cA z 7 i), .ref (cA z 8 i), .int (cI z 3 i), va_rf ((cR z 1 i).map (cA z 3))]) rfl rfl 3 (by decide) hlink (fun _ h9 => h9) rfl (ty := .int) (by decide +kernel) rfl rfl (Nat.le_of_ble_eq_true rfl) hdg (cell' := cC y (sI z 3 i v)) (cp_Asker_count y z i v) (fun k' i' _ h => co_Asker_count y z i v k' i' h) (fun H1 locs1 h1 h2 => kk H1 locs1 h1 h2)
theorem gN_Asker_count (hx : p.tables.exec = Jvm.exec) (hb : c.code = cc) (hts : ∀ w ∈ Ts, w.before args s = true) (hin : ∀ w ∈ wsX00, w ∈ Ts) (hown : s.vm.findClass own = some m.cls) (hK : va_K D vwCl (ctys y) s) (hW : cw D y A z H) {q : Nat} (hq : q = cA z 0 i) (hi : i < 4) (hlink : va_Nw (.fieldLinkNest own index "SharedRegisters$Asker" "count" "I" "SharedRegisters") s) (hdg : decode cc pc = .ok (.getfield index, 3)) (kk : W p l e R s m args below meth c H locs cells slots Q (F0 m (pc + 3) ls (.int (cI z 3 i) :: rest))) : W p l e R s m args below meth c H locs cells slots Q (F0 m pc ls (.ref q :: rest)) := by
  subst hq
  exact gw_getN (ci := 0) (C := RX0) (T := TX0) (Nf := 5) hx hb hts hin hown hK hW (k := 0) hi (fs := [.int (cI z 2 i), .ref (cA z 7 i), .ref (cA z 8 i), .int (cI z 3 i), va_rf ((cR z 1 i).map (cA z 3))]) rfl rfl 3 (by decide) hlink (fun _ h9 => h9) rfl hdg kk
theorem pN_Asker_count (hx : p.tables.exec = Jvm.exec) (hb : c.code = cc) (hts : ∀ w ∈ Ts, w.before args s = true) (hin : ∀ w ∈ wsX00, w ∈ Ts) (hown : s.vm.findClass own = some m.cls) (hK : va_K D vwCl (ctys y) s) (hW : cw D y A z H) (hS : va_S A H0 H locs) {q : Nat} (hq : q = cA z 0 i) (hi : i < 4) {v : Int32} (hlink : va_Nw (.fieldLinkNest own index "SharedRegisters$Asker" "count" "I" "SharedRegisters") s) (hdg : decode cc pc = .ok (.putfield index, 3)) (kk : ∀ (H1 : Heap) (locs1 : List Loc), cw D y A (sI z 3 i v) H1 → va_S A H0 H1 locs1 → W p l e R s m args below meth c H1 locs1 cells slots Q (F0 m (pc + 3) ls rest)) : W p l e R s m args below meth c H locs cells slots Q (F0 m pc ls (.int v :: .ref q :: rest)) := by
  subst hq
  exact gw_putN (ci := 0) (C := RX0) (T := TX0) (Nf := 5) hx hb hts hin tyX0 tyX0_ok nmX0 hown hK hW hS (k := 0) hi (fs := [.int (cI z 2 i), .ref (cA z 7 i), .ref (cA z 8 i), .int (cI z 3 i), va_rf ((cR z 1 i).map (cA z 3))]) rfl rfl 3 (by decide) hlink (fun _ h9 => h9) rfl (ty := .int) (by decide +kernel) rfl rfl (Nat.le_of_ble_eq_true rfl) hdg (cell' := cC y (sI z 3 i v)) (cp_Asker_count y z i v) (fun k' i' _ h => co_Asker_count y z i v k' i' h) (fun H1 locs1 h1 h2 => kk H1 locs1 h1 h2)
theorem g_Asker_current (hx : p.tables.exec = Jvm.exec) (hb : c.code = cc) (hts : ∀ w ∈ Ts, w.before args s = true) (hin : ∀ w ∈ wsX00, w ∈ Ts) (hown : s.vm.findClass own = some m.cls) (hK : va_K D vwCl (ctys y) s) (hW : cw D y A z H) {q : Nat} (hq : q = cA z 0 i) (hi : i < 4) (hlink : (Cond.fieldLink own index "SharedRegisters$Asker" "current" "LSharedRegisters$Request;").before args s = true) (hdg : decode cc pc = .ok (.getfield index, 3)) (kk : W p l e R s m args below meth c H locs cells slots Q (F0 m (pc + 3) ls (va_rf ((cR z 1 i).map (cA z 3)) :: rest))) : W p l e R s m args below meth c H locs cells slots Q (F0 m pc ls (.ref q :: rest)) := by
  subst hq
  exact gw_get (ci := 0) (C := RX0) (T := TX0) (Nf := 5) hx hb hts hin hown hK hW (k := 0) hi (fs := [.int (cI z 2 i), .ref (cA z 7 i), .ref (cA z 8 i), .int (cI z 3 i), va_rf ((cR z 1 i).map (cA z 3))]) rfl rfl 4 (by decide) hlink (fun _ h9 => h9) rfl hdg kk
theorem g_Asker_current_s (hx : p.tables.exec = Jvm.exec) (hb : c.code = cc) (hts : ∀ w ∈ Ts, w.before args s = true) (hin : ∀ w ∈ wsX00, w ∈ Ts) (hown : s.vm.findClass own = some m.cls) (hK : va_K D vwCl (ctys y) s) (hW : cw D y A z H) {q st : Nat} (hq : q = cA z 0 i) (hst : cR z 1 i = some st) (hi : i < 4) (hlink : (Cond.fieldLink own index "SharedRegisters$Asker" "current" "LSharedRegisters$Request;").before args s = true) (hdg : decode cc pc = .ok (.getfield index, 3)) (kk : W p l e R s m args below meth c H locs cells slots Q (F0 m (pc + 3) ls (.ref (cA z 3 st) :: rest))) : W p l e R s m args below meth c H locs cells slots Q (F0 m pc ls (.ref q :: rest)) := by
  refine g_Asker_current hx hb hts hin hown hK hW hq hi hlink hdg ?_
  rw [hst]; exact kk
theorem g_Asker_current_n (hx : p.tables.exec = Jvm.exec) (hb : c.code = cc) (hts : ∀ w ∈ Ts, w.before args s = true) (hin : ∀ w ∈ wsX00, w ∈ Ts) (hown : s.vm.findClass own = some m.cls) (hK : va_K D vwCl (ctys y) s) (hW : cw D y A z H) {q : Nat} (hq : q = cA z 0 i) (hst : cR z 1 i = none) (hi : i < 4) (hlink : (Cond.fieldLink own index "SharedRegisters$Asker" "current" "LSharedRegisters$Request;").before args s = true) (hdg : decode cc pc = .ok (.getfield index, 3)) (kk : W p l e R s m args below meth c H locs cells slots Q (F0 m (pc + 3) ls (.null :: rest))) : W p l e R s m args below meth c H locs cells slots Q (F0 m pc ls (.ref q :: rest)) := by
  refine g_Asker_current hx hb hts hin hown hK hW hq hi hlink hdg ?_
  rw [hst]; exact kk
theorem p_Asker_current (hx : p.tables.exec = Jvm.exec) (hb : c.code = cc) (hts : ∀ w ∈ Ts, w.before args s = true) (hin : ∀ w ∈ wsX00, w ∈ Ts) (hown : s.vm.findClass own = some m.cls) (hK : va_K D vwCl (ctys y) s) (hW : cw D y A z H) (hS : va_S A H0 H locs) {q : Nat} (hq : q = cA z 0 i) (hi : i < 4) {v : Option Nat} {vv : Value} (hv : vv = va_rf (v.map (cA z 3))) (hlink : (Cond.fieldLink own index "SharedRegisters$Asker" "current" "LSharedRegisters$Request;").before args s = true) (hdg : decode cc pc = .ok (.putfield index, 3)) (kk : ∀ (H1 : Heap) (locs1 : List Loc), cw D y A (sR z 1 i v) H1 → va_S A H0 H1 locs1 → W p l e R s m args below meth c H1 locs1 cells slots Q (F0 m (pc + 3) ls rest)) : W p l e R s m args below meth c H locs cells slots Q (F0 m pc ls (vv :: .ref q :: rest)) := by
  subst hq
  subst hv
  exact gw_put (ci := 0) (C := RX0) (T := TX0) (Nf := 5) hx hb hts hin tyX0 tyX0_ok nmX0 hown hK hW hS (k := 0) hi (fs := [.int (cI z 2 i), .ref (cA z 7 i), .ref (cA z 8 i), .int (cI z 3 i), va_rf ((cR z 1 i).map (cA z 3))]) rfl rfl 4 (by decide) hlink (fun _ h9 => h9) rfl (ty := .object "SharedRegisters$Request") (by decide +kernel) (by cases v <;> rfl) (by cases v <;> rfl) (Nat.le_of_ble_eq_true rfl) hdg (cell' := cC y (sR z 1 i v)) (cp_Asker_current y z i v) (fun k' i' _ h => co_Asker_current y z i v k' i' h) (fun H1 locs1 h1 h2 => kk H1 locs1 h1 h2)
theorem gN_Asker_current (hx : p.tables.exec = Jvm.exec) (hb : c.code = cc) (hts : ∀ w ∈ Ts, w.before args s = true) (hin : ∀ w ∈ wsX00, w ∈ Ts) (hown : s.vm.findClass own = some m.cls) (hK : va_K D vwCl (ctys y) s) (hW : cw D y A z H) {q : Nat} (hq : q = cA z 0 i) (hi : i < 4) (hlink : va_Nw (.fieldLinkNest own index "SharedRegisters$Asker" "current" "LSharedRegisters$Request;" "SharedRegisters") s) (hdg : decode cc pc = .ok (.getfield index, 3)) (kk : W p l e R s m args below meth c H locs cells slots Q (F0 m (pc + 3) ls (va_rf ((cR z 1 i).map (cA z 3)) :: rest))) : W p l e R s m args below meth c H locs cells slots Q (F0 m pc ls (.ref q :: rest)) := by
  subst hq
  exact gw_getN (ci := 0) (C := RX0) (T := TX0) (Nf := 5) hx hb hts hin hown hK hW (k := 0) hi (fs := [.int (cI z 2 i), .ref (cA z 7 i), .ref (cA z 8 i), .int (cI z 3 i), va_rf ((cR z 1 i).map (cA z 3))]) rfl rfl 4 (by decide) hlink (fun _ h9 => h9) rfl hdg kk
theorem gN_Asker_current_s (hx : p.tables.exec = Jvm.exec) (hb : c.code = cc) (hts : ∀ w ∈ Ts, w.before args s = true) (hin : ∀ w ∈ wsX00, w ∈ Ts) (hown : s.vm.findClass own = some m.cls) (hK : va_K D vwCl (ctys y) s) (hW : cw D y A z H) {q st : Nat} (hq : q = cA z 0 i) (hst : cR z 1 i = some st) (hi : i < 4) (hlink : va_Nw (.fieldLinkNest own index "SharedRegisters$Asker" "current" "LSharedRegisters$Request;" "SharedRegisters") s) (hdg : decode cc pc = .ok (.getfield index, 3)) (kk : W p l e R s m args below meth c H locs cells slots Q (F0 m (pc + 3) ls (.ref (cA z 3 st) :: rest))) : W p l e R s m args below meth c H locs cells slots Q (F0 m pc ls (.ref q :: rest)) := by
  refine gN_Asker_current hx hb hts hin hown hK hW hq hi hlink hdg ?_
  rw [hst]; exact kk
theorem gN_Asker_current_n (hx : p.tables.exec = Jvm.exec) (hb : c.code = cc) (hts : ∀ w ∈ Ts, w.before args s = true) (hin : ∀ w ∈ wsX00, w ∈ Ts) (hown : s.vm.findClass own = some m.cls) (hK : va_K D vwCl (ctys y) s) (hW : cw D y A z H) {q : Nat} (hq : q = cA z 0 i) (hst : cR z 1 i = none) (hi : i < 4) (hlink : va_Nw (.fieldLinkNest own index "SharedRegisters$Asker" "current" "LSharedRegisters$Request;" "SharedRegisters") s) (hdg : decode cc pc = .ok (.getfield index, 3)) (kk : W p l e R s m args below meth c H locs cells slots Q (F0 m (pc + 3) ls (.null :: rest))) : W p l e R s m args below meth c H locs cells slots Q (F0 m pc ls (.ref q :: rest)) := by
  refine gN_Asker_current hx hb hts hin hown hK hW hq hi hlink hdg ?_
  rw [hst]; exact kk
theorem pN_Asker_current (hx : p.tables.exec = Jvm.exec) (hb : c.code = cc) (hts : ∀ w ∈ Ts, w.before args s = true) (hin : ∀ w ∈ wsX00, w ∈ Ts) (hown : s.vm.findClass own = some m.cls) (hK : va_K D vwCl (ctys y) s) (hW : cw D y A z H) (hS : va_S A H0 H locs) {q : Nat} (hq : q = cA z 0 i) (hi : i < 4) {v : Option Nat} {vv : Value} (hv : vv = va_rf (v.map (cA z 3))) (hlink : va_Nw (.fieldLinkNest own index "SharedRegisters$Asker" "current" "LSharedRegisters$Request;" "SharedRegisters") s) (hdg : decode cc pc = .ok (.putfield index, 3)) (kk : ∀ (H1 : Heap) (locs1 : List Loc), cw D y A (sR z 1 i v) H1 → va_S A H0 H1 locs1 → W p l e R s m args below meth c H1 locs1 cells slots Q (F0 m (pc + 3) ls rest)) : W p l e R s m args below meth c H locs cells slots Q (F0 m pc ls (vv :: .ref q :: rest)) := by
  subst hq
  subst hv
  exact gw_putN (ci := 0) (C := RX0) (T := TX0) (Nf := 5) hx hb hts hin tyX0 tyX0_ok nmX0 hown hK hW hS (k := 0) hi (fs := [.int (cI z 2 i), .ref (cA z 7 i), .ref (cA z 8 i), .int (cI z 3 i), va_rf ((cR z 1 i).map (cA z 3))]) rfl rfl 4 (by decide) hlink (fun _ h9 => h9) rfl (ty := .object "SharedRegisters$Request") (by decide +kernel) (by cases v <;> rfl) (by cases v <;> rfl) (Nat.le_of_ble_eq_true rfl) hdg (cell' := cC y (sR z 1 i v)) (cp_Asker_current y z i v) (fun k' i' _ h => co_Asker_current y z i v k' i' h) (fun H1 locs1 h1 h2 => kk H1 locs1 h1 h2)
theorem g_Message_sort (hx : p.tables.exec = Jvm.exec) (hb : c.code = cc) (hts : ∀ w ∈ Ts, w.before args s = true) (hin : ∀ w ∈ wsX10, w ∈ Ts) (hown : s.vm.findClass own = some m.cls) (hK : va_K D vwCl (ctys y) s) (hW : cw D y A z H) {q : Nat} (hq : q = cA z 1 i) (hi : i < 301) (hlink : (Cond.fieldLink own index "SharedRegisters$Message" "sort" "I").before args s = true) (hdg : decode cc pc = .ok (.getfield index, 3)) (kk : W p l e R s m args below meth c H locs cells slots Q (F0 m (pc + 3) ls (.int (cI z 6 i) :: rest))) : W p l e R s m args below meth c H locs cells slots Q (F0 m pc ls (.ref q :: rest)) := by
  subst hq
  exact gw_get (ci := 1) (C := RX1) (T := TX1) (Nf := 7) hx hb hts hin hown hK hW (k := 1) hi (fs := [.int (cI z 6 i), .int (cI z 7 i), .int (cI z 8 i), .int (cI z 9 i), .int (cI z 10 i), .int (cI z 11 i), .ref (cA z 5 (cS z 2 i))]) rfl rfl 0 (by decide) hlink (fun _ h9 => h9) rfl hdg kk
theorem p_Message_sort (hx : p.tables.exec = Jvm.exec) (hb : c.code = cc) (hts : ∀ w ∈ Ts, w.before args s = true) (hin : ∀ w ∈ wsX10, w ∈ Ts) (hown : s.vm.findClass own = some m.cls) (hK : va_K D vwCl (ctys y) s) (hW : cw D y A z H) (hS : va_S A H0 H locs) {q : Nat} (hq : q = cA z 1 i) (hi : i < 301) {v : Int32} (hlink : (Cond.fieldLink own index "SharedRegisters$Message" "sort" "I").before args s = true) (hdg : decode cc pc = .ok (.putfield index, 3)) (kk : ∀ (H1 : Heap) (locs1 : List Loc), cw D y A (sI z 6 i v) H1 → va_S A H0 H1 locs1 → W p l e R s m args below meth c H1 locs1 cells slots Q (F0 m (pc + 3) ls rest)) : W p l e R s m args below meth c H locs cells slots Q (F0 m pc ls (.int v :: .ref q :: rest)) := by
  subst hq
  exact gw_put (ci := 1) (C := RX1) (T := TX1) (Nf := 7) hx hb hts hin tyX1 tyX1_ok nmX1 hown hK hW hS (k := 1) hi (fs := [.int (cI z 6 i), .int (cI z 7 i), .int (cI z 8 i), .int (cI z 9 i), .int (cI z 10 i), .int (cI z 11 i), .ref (cA z 5 (cS z 2 i))]) rfl rfl 0 (by decide) hlink (fun _ h9 => h9) rfl (ty := .int) (by decide +kernel) rfl rfl (Nat.le_of_ble_eq_true rfl) hdg (cell' := cC y (sI z 6 i v)) (cp_Message_sort y z i v) (fun k' i' _ h => co_Message_sort y z i v k' i' h) (fun H1 locs1 h1 h2 => kk H1 locs1 h1 h2)
theorem gN_Message_sort (hx : p.tables.exec = Jvm.exec) (hb : c.code = cc) (hts : ∀ w ∈ Ts, w.before args s = true) (hin : ∀ w ∈ wsX10, w ∈ Ts) (hown : s.vm.findClass own = some m.cls) (hK : va_K D vwCl (ctys y) s) (hW : cw D y A z H) {q : Nat} (hq : q = cA z 1 i) (hi : i < 301) (hlink : va_Nw (.fieldLinkNest own index "SharedRegisters$Message" "sort" "I" "SharedRegisters") s) (hdg : decode cc pc = .ok (.getfield index, 3)) (kk : W p l e R s m args below meth c H locs cells slots Q (F0 m (pc + 3) ls (.int (cI z 6 i) :: rest))) : W p l e R s m args below meth c H locs cells slots Q (F0 m pc ls (.ref q :: rest)) := by
  subst hq
  exact gw_getN (ci := 1) (C := RX1) (T := TX1) (Nf := 7) hx hb hts hin hown hK hW (k := 1) hi (fs := [.int (cI z 6 i), .int (cI z 7 i), .int (cI z 8 i), .int (cI z 9 i), .int (cI z 10 i), .int (cI z 11 i), .ref (cA z 5 (cS z 2 i))]) rfl rfl 0 (by decide) hlink (fun _ h9 => h9) rfl hdg kk
theorem pN_Message_sort (hx : p.tables.exec = Jvm.exec) (hb : c.code = cc) (hts : ∀ w ∈ Ts, w.before args s = true) (hin : ∀ w ∈ wsX10, w ∈ Ts) (hown : s.vm.findClass own = some m.cls) (hK : va_K D vwCl (ctys y) s) (hW : cw D y A z H) (hS : va_S A H0 H locs) {q : Nat} (hq : q = cA z 1 i) (hi : i < 301) {v : Int32} (hlink : va_Nw (.fieldLinkNest own index "SharedRegisters$Message" "sort" "I" "SharedRegisters") s) (hdg : decode cc pc = .ok (.putfield index, 3)) (kk : ∀ (H1 : Heap) (locs1 : List Loc), cw D y A (sI z 6 i v) H1 → va_S A H0 H1 locs1 → W p l e R s m args below meth c H1 locs1 cells slots Q (F0 m (pc + 3) ls rest)) : W p l e R s m args below meth c H locs cells slots Q (F0 m pc ls (.int v :: .ref q :: rest)) := by
  subst hq
  exact gw_putN (ci := 1) (C := RX1) (T := TX1) (Nf := 7) hx hb hts hin tyX1 tyX1_ok nmX1 hown hK hW hS (k := 1) hi (fs := [.int (cI z 6 i), .int (cI z 7 i), .int (cI z 8 i), .int (cI z 9 i), .int (cI z 10 i), .int (cI z 11 i), .ref (cA z 5 (cS z 2 i))]) rfl rfl 0 (by decide) hlink (fun _ h9 => h9) rfl (ty := .int) (by decide +kernel) rfl rfl (Nat.le_of_ble_eq_true rfl) hdg (cell' := cC y (sI z 6 i v)) (cp_Message_sort y z i v) (fun k' i' _ h => co_Message_sort y z i v k' i' h) (fun H1 locs1 h1 h2 => kk H1 locs1 h1 h2)
theorem g_Message_asker (hx : p.tables.exec = Jvm.exec) (hb : c.code = cc) (hts : ∀ w ∈ Ts, w.before args s = true) (hin : ∀ w ∈ wsX10, w ∈ Ts) (hown : s.vm.findClass own = some m.cls) (hK : va_K D vwCl (ctys y) s) (hW : cw D y A z H) {q : Nat} (hq : q = cA z 1 i) (hi : i < 301) (hlink : (Cond.fieldLink own index "SharedRegisters$Message" "asker" "I").before args s = true) (hdg : decode cc pc = .ok (.getfield index, 3)) (kk : W p l e R s m args below meth c H locs cells slots Q (F0 m (pc + 3) ls (.int (cI z 7 i) :: rest))) : W p l e R s m args below meth c H locs cells slots Q (F0 m pc ls (.ref q :: rest)) := by
  subst hq
  exact gw_get (ci := 1) (C := RX1) (T := TX1) (Nf := 7) hx hb hts hin hown hK hW (k := 1) hi (fs := [.int (cI z 6 i), .int (cI z 7 i), .int (cI z 8 i), .int (cI z 9 i), .int (cI z 10 i), .int (cI z 11 i), .ref (cA z 5 (cS z 2 i))]) rfl rfl 1 (by decide) hlink (fun _ h9 => h9) rfl hdg kk
theorem p_Message_asker (hx : p.tables.exec = Jvm.exec) (hb : c.code = cc) (hts : ∀ w ∈ Ts, w.before args s = true) (hin : ∀ w ∈ wsX10, w ∈ Ts) (hown : s.vm.findClass own = some m.cls) (hK : va_K D vwCl (ctys y) s) (hW : cw D y A z H) (hS : va_S A H0 H locs) {q : Nat} (hq : q = cA z 1 i) (hi : i < 301) {v : Int32} (hlink : (Cond.fieldLink own index "SharedRegisters$Message" "asker" "I").before args s = true) (hdg : decode cc pc = .ok (.putfield index, 3)) (kk : ∀ (H1 : Heap) (locs1 : List Loc), cw D y A (sI z 7 i v) H1 → va_S A H0 H1 locs1 → W p l e R s m args below meth c H1 locs1 cells slots Q (F0 m (pc + 3) ls rest)) : W p l e R s m args below meth c H locs cells slots Q (F0 m pc ls (.int v :: .ref q :: rest)) := by
  subst hq
  exact gw_put (ci := 1) (C := RX1) (T := TX1) (Nf := 7) hx hb hts hin tyX1 tyX1_ok nmX1 hown hK hW hS (k := 1) hi (fs := [.int (cI z 6 i), .int (cI z 7 i), .int (cI z 8 i), .int (cI z 9 i), .int (cI z 10 i), .int (cI z 11 i), .ref (cA z 5 (cS z 2 i))]) rfl rfl 1 (by decide) hlink (fun _ h9 => h9) rfl (ty := .int) (by decide +kernel) rfl rfl (Nat.le_of_ble_eq_true rfl) hdg (cell' := cC y (sI z 7 i v)) (cp_Message_asker y z i v) (fun k' i' _ h => co_Message_asker y z i v k' i' h) (fun H1 locs1 h1 h2 => kk H1 locs1 h1 h2)
theorem gN_Message_asker (hx : p.tables.exec = Jvm.exec) (hb : c.code = cc) (hts : ∀ w ∈ Ts, w.before args s = true) (hin : ∀ w ∈ wsX10, w ∈ Ts) (hown : s.vm.findClass own = some m.cls) (hK : va_K D vwCl (ctys y) s) (hW : cw D y A z H) {q : Nat} (hq : q = cA z 1 i) (hi : i < 301) (hlink : va_Nw (.fieldLinkNest own index "SharedRegisters$Message" "asker" "I" "SharedRegisters") s) (hdg : decode cc pc = .ok (.getfield index, 3)) (kk : W p l e R s m args below meth c H locs cells slots Q (F0 m (pc + 3) ls (.int (cI z 7 i) :: rest))) : W p l e R s m args below meth c H locs cells slots Q (F0 m pc ls (.ref q :: rest)) := by
  subst hq
  exact gw_getN (ci := 1) (C := RX1) (T := TX1) (Nf := 7) hx hb hts hin hown hK hW (k := 1) hi (fs := [.int (cI z 6 i), .int (cI z 7 i), .int (cI z 8 i), .int (cI z 9 i), .int (cI z 10 i), .int (cI z 11 i), .ref (cA z 5 (cS z 2 i))]) rfl rfl 1 (by decide) hlink (fun _ h9 => h9) rfl hdg kk
theorem pN_Message_asker (hx : p.tables.exec = Jvm.exec) (hb : c.code = cc) (hts : ∀ w ∈ Ts, w.before args s = true) (hin : ∀ w ∈ wsX10, w ∈ Ts) (hown : s.vm.findClass own = some m.cls) (hK : va_K D vwCl (ctys y) s) (hW : cw D y A z H) (hS : va_S A H0 H locs) {q : Nat} (hq : q = cA z 1 i) (hi : i < 301) {v : Int32} (hlink : va_Nw (.fieldLinkNest own index "SharedRegisters$Message" "asker" "I" "SharedRegisters") s) (hdg : decode cc pc = .ok (.putfield index, 3)) (kk : ∀ (H1 : Heap) (locs1 : List Loc), cw D y A (sI z 7 i v) H1 → va_S A H0 H1 locs1 → W p l e R s m args below meth c H1 locs1 cells slots Q (F0 m (pc + 3) ls rest)) : W p l e R s m args below meth c H locs cells slots Q (F0 m pc ls (.int v :: .ref q :: rest)) := by
  subst hq
  exact gw_putN (ci := 1) (C := RX1) (T := TX1) (Nf := 7) hx hb hts hin tyX1 tyX1_ok nmX1 hown hK hW hS (k := 1) hi (fs := [.int (cI z 6 i), .int (cI z 7 i), .int (cI z 8 i), .int (cI z 9 i), .int (cI z 10 i), .int (cI z 11 i), .ref (cA z 5 (cS z 2 i))]) rfl rfl 1 (by decide) hlink (fun _ h9 => h9) rfl (ty := .int) (by decide +kernel) rfl rfl (Nat.le_of_ble_eq_true rfl) hdg (cell' := cC y (sI z 7 i v)) (cp_Message_asker y z i v) (fun k' i' _ h => co_Message_asker y z i v k' i' h) (fun H1 locs1 h1 h2 => kk H1 locs1 h1 h2)
theorem g_Message_keeper (hx : p.tables.exec = Jvm.exec) (hb : c.code = cc) (hts : ∀ w ∈ Ts, w.before args s = true) (hin : ∀ w ∈ wsX10, w ∈ Ts) (hown : s.vm.findClass own = some m.cls) (hK : va_K D vwCl (ctys y) s) (hW : cw D y A z H) {q : Nat} (hq : q = cA z 1 i) (hi : i < 301) (hlink : (Cond.fieldLink own index "SharedRegisters$Message" "keeper" "I").before args s = true) (hdg : decode cc pc = .ok (.getfield index, 3)) (kk : W p l e R s m args below meth c H locs cells slots Q (F0 m (pc + 3) ls (.int (cI z 8 i) :: rest))) : W p l e R s m args below meth c H locs cells slots Q (F0 m pc ls (.ref q :: rest)) := by
  subst hq
  exact gw_get (ci := 1) (C := RX1) (T := TX1) (Nf := 7) hx hb hts hin hown hK hW (k := 1) hi (fs := [.int (cI z 6 i), .int (cI z 7 i), .int (cI z 8 i), .int (cI z 9 i), .int (cI z 10 i), .int (cI z 11 i), .ref (cA z 5 (cS z 2 i))]) rfl rfl 2 (by decide) hlink (fun _ h9 => h9) rfl hdg kk
theorem p_Message_keeper (hx : p.tables.exec = Jvm.exec) (hb : c.code = cc) (hts : ∀ w ∈ Ts, w.before args s = true) (hin : ∀ w ∈ wsX10, w ∈ Ts) (hown : s.vm.findClass own = some m.cls) (hK : va_K D vwCl (ctys y) s) (hW : cw D y A z H) (hS : va_S A H0 H locs) {q : Nat} (hq : q = cA z 1 i) (hi : i < 301) {v : Int32} (hlink : (Cond.fieldLink own index "SharedRegisters$Message" "keeper" "I").before args s = true) (hdg : decode cc pc = .ok (.putfield index, 3)) (kk : ∀ (H1 : Heap) (locs1 : List Loc), cw D y A (sI z 8 i v) H1 → va_S A H0 H1 locs1 → W p l e R s m args below meth c H1 locs1 cells slots Q (F0 m (pc + 3) ls rest)) : W p l e R s m args below meth c H locs cells slots Q (F0 m pc ls (.int v :: .ref q :: rest)) := by
  subst hq
  exact gw_put (ci := 1) (C := RX1) (T := TX1) (Nf := 7) hx hb hts hin tyX1 tyX1_ok nmX1 hown hK hW hS (k := 1) hi (fs := [.int (cI z 6 i), .int (cI z 7 i), .int (cI z 8 i), .int (cI z 9 i), .int (cI z 10 i), .int (cI z 11 i), .ref (cA z 5 (cS z 2 i))]) rfl rfl 2 (by decide) hlink (fun _ h9 => h9) rfl (ty := .int) (by decide +kernel) rfl rfl (Nat.le_of_ble_eq_true rfl) hdg (cell' := cC y (sI z 8 i v)) (cp_Message_keeper y z i v) (fun k' i' _ h => co_Message_keeper y z i v k' i' h) (fun H1 locs1 h1 h2 => kk H1 locs1 h1 h2)
theorem gN_Message_keeper (hx : p.tables.exec = Jvm.exec) (hb : c.code = cc) (hts : ∀ w ∈ Ts, w.before args s = true) (hin : ∀ w ∈ wsX10, w ∈ Ts) (hown : s.vm.findClass own = some m.cls) (hK : va_K D vwCl (ctys y) s) (hW : cw D y A z H) {q : Nat} (hq : q = cA z 1 i) (hi : i < 301) (hlink : va_Nw (.fieldLinkNest own index "SharedRegisters$Message" "keeper" "I" "SharedRegisters") s) (hdg : decode cc pc = .ok (.getfield index, 3)) (kk : W p l e R s m args below meth c H locs cells slots Q (F0 m (pc + 3) ls (.int (cI z 8 i) :: rest))) : W p l e R s m args below meth c H locs cells slots Q (F0 m pc ls (.ref q :: rest)) := by
  subst hq
  exact gw_getN (ci := 1) (C := RX1) (T := TX1) (Nf := 7) hx hb hts hin hown hK hW (k := 1) hi (fs := [.int (cI z 6 i), .int (cI z 7 i), .int (cI z 8 i), .int (cI z 9 i), .int (cI z 10 i), .int (cI z 11 i), .ref (cA z 5 (cS z 2 i))]) rfl rfl 2 (by decide) hlink (fun _ h9 => h9) rfl hdg kk
theorem pN_Message_keeper (hx : p.tables.exec = Jvm.exec) (hb : c.code = cc) (hts : ∀ w ∈ Ts, w.before args s = true) (hin : ∀ w ∈ wsX10, w ∈ Ts) (hown : s.vm.findClass own = some m.cls) (hK : va_K D vwCl (ctys y) s) (hW : cw D y A z H) (hS : va_S A H0 H locs) {q : Nat} (hq : q = cA z 1 i) (hi : i < 301) {v : Int32} (hlink : va_Nw (.fieldLinkNest own index "SharedRegisters$Message" "keeper" "I" "SharedRegisters") s) (hdg : decode cc pc = .ok (.putfield index, 3)) (kk : ∀ (H1 : Heap) (locs1 : List Loc), cw D y A (sI z 8 i v) H1 → va_S A H0 H1 locs1 → W p l e R s m args below meth c H1 locs1 cells slots Q (F0 m (pc + 3) ls rest)) : W p l e R s m args below meth c H locs cells slots Q (F0 m pc ls (.int v :: .ref q :: rest)) := by
  subst hq
  exact gw_putN (ci := 1) (C := RX1) (T := TX1) (Nf := 7) hx hb hts hin tyX1 tyX1_ok nmX1 hown hK hW hS (k := 1) hi (fs := [.int (cI z 6 i), .int (cI z 7 i), .int (cI z 8 i), .int (cI z 9 i), .int (cI z 10 i), .int (cI z 11 i), .ref (cA z 5 (cS z 2 i))]) rfl rfl 2 (by decide) hlink (fun _ h9 => h9) rfl (ty := .int) (by decide +kernel) rfl rfl (Nat.le_of_ble_eq_true rfl) hdg (cell' := cC y (sI z 8 i v)) (cp_Message_keeper y z i v) (fun k' i' _ h => co_Message_keeper y z i v k' i' h) (fun H1 locs1 h1 h2 => kk H1 locs1 h1 h2)
theorem g_Message_request (hx : p.tables.exec = Jvm.exec) (hb : c.code = cc) (hts : ∀ w ∈ Ts, w.before args s = true) (hin : ∀ w ∈ wsX10, w ∈ Ts) (hown : s.vm.findClass own = some m.cls) (hK : va_K D vwCl (ctys y) s) (hW : cw D y A z H) {q : Nat} (hq : q = cA z 1 i) (hi : i < 301) (hlink : (Cond.fieldLink own index "SharedRegisters$Message" "request" "I").before args s = true) (hdg : decode cc pc = .ok (.getfield index, 3)) (kk : W p l e R s m args below meth c H locs cells slots Q (F0 m (pc + 3) ls (.int (cI z 9 i) :: rest))) : W p l e R s m args below meth c H locs cells slots Q (F0 m pc ls (.ref q :: rest)) := by
  subst hq
  exact gw_get (ci := 1) (C := RX1) (T := TX1) (Nf := 7) hx hb hts hin hown hK hW (k := 1) hi (fs := [.int (cI z 6 i), .int (cI z 7 i), .int (cI z 8 i), .int (cI z 9 i), .int (cI z 10 i), .int (cI z 11 i), .ref (cA z 5 (cS z 2 i))]) rfl rfl 3 (by decide) hlink (fun _ h9 => h9) rfl hdg kk
theorem p_Message_request (hx : p.tables.exec = Jvm.exec) (hb : c.code = cc) (hts : ∀ w ∈ Ts, w.before args s = true) (hin : ∀ w ∈ wsX10, w ∈ Ts) (hown : s.vm.findClass own = some m.cls) (hK : va_K D vwCl (ctys y) s) (hW : cw D y A z H) (hS : va_S A H0 H locs) {q : Nat} (hq : q = cA z 1 i) (hi : i < 301) {v : Int32} (hlink : (Cond.fieldLink own index "SharedRegisters$Message" "request" "I").before args s = true) (hdg : decode cc pc = .ok (.putfield index, 3)) (kk : ∀ (H1 : Heap) (locs1 : List Loc), cw D y A (sI z 9 i v) H1 → va_S A H0 H1 locs1 → W p l e R s m args below meth c H1 locs1 cells slots Q (F0 m (pc + 3) ls rest)) : W p l e R s m args below meth c H locs cells slots Q (F0 m pc ls (.int v :: .ref q :: rest)) := by
  subst hq
  exact gw_put (ci := 1) (C := RX1) (T := TX1) (Nf := 7) hx hb hts hin tyX1 tyX1_ok nmX1 hown hK hW hS (k := 1) hi (fs := [.int (cI z 6 i), .int (cI z 7 i), .int (cI z 8 i), .int (cI z 9 i), .int (cI z 10 i), .int (cI z 11 i), .ref (cA z 5 (cS z 2 i))]) rfl rfl 3 (by decide) hlink (fun _ h9 => h9) rfl (ty := .int) (by decide +kernel) rfl rfl (Nat.le_of_ble_eq_true rfl) hdg (cell' := cC y (sI z 9 i v)) (cp_Message_request y z i v) (fun k' i' _ h => co_Message_request y z i v k' i' h) (fun H1 locs1 h1 h2 => kk H1 locs1 h1 h2)
theorem gN_Message_request (hx : p.tables.exec = Jvm.exec) (hb : c.code = cc) (hts : ∀ w ∈ Ts, w.before args s = true) (hin : ∀ w ∈ wsX10, w ∈ Ts) (hown : s.vm.findClass own = some m.cls) (hK : va_K D vwCl (ctys y) s) (hW : cw D y A z H) {q : Nat} (hq : q = cA z 1 i) (hi : i < 301) (hlink : va_Nw (.fieldLinkNest own index "SharedRegisters$Message" "request" "I" "SharedRegisters") s) (hdg : decode cc pc = .ok (.getfield index, 3)) (kk : W p l e R s m args below meth c H locs cells slots Q (F0 m (pc + 3) ls (.int (cI z 9 i) :: rest))) : W p l e R s m args below meth c H locs cells slots Q (F0 m pc ls (.ref q :: rest)) := by
  subst hq
  exact gw_getN (ci := 1) (C := RX1) (T := TX1) (Nf := 7) hx hb hts hin hown hK hW (k := 1) hi (fs := [.int (cI z 6 i), .int (cI z 7 i), .int (cI z 8 i), .int (cI z 9 i), .int (cI z 10 i), .int (cI z 11 i), .ref (cA z 5 (cS z 2 i))]) rfl rfl 3 (by decide) hlink (fun _ h9 => h9) rfl hdg kk
theorem pN_Message_request (hx : p.tables.exec = Jvm.exec) (hb : c.code = cc) (hts : ∀ w ∈ Ts, w.before args s = true) (hin : ∀ w ∈ wsX10, w ∈ Ts) (hown : s.vm.findClass own = some m.cls) (hK : va_K D vwCl (ctys y) s) (hW : cw D y A z H) (hS : va_S A H0 H locs) {q : Nat} (hq : q = cA z 1 i) (hi : i < 301) {v : Int32} (hlink : va_Nw (.fieldLinkNest own index "SharedRegisters$Message" "request" "I" "SharedRegisters") s) (hdg : decode cc pc = .ok (.putfield index, 3)) (kk : ∀ (H1 : Heap) (locs1 : List Loc), cw D y A (sI z 9 i v) H1 → va_S A H0 H1 locs1 → W p l e R s m args below meth c H1 locs1 cells slots Q (F0 m (pc + 3) ls rest)) : W p l e R s m args below meth c H locs cells slots Q (F0 m pc ls (.int v :: .ref q :: rest)) := by
  subst hq
  exact gw_putN (ci := 1) (C := RX1) (T := TX1) (Nf := 7) hx hb hts hin tyX1 tyX1_ok nmX1 hown hK hW hS (k := 1) hi (fs := [.int (cI z 6 i), .int (cI z 7 i), .int (cI z 8 i), .int (cI z 9 i), .int (cI z 10 i), .int (cI z 11 i), .ref (cA z 5 (cS z 2 i))]) rfl rfl 3 (by decide) hlink (fun _ h9 => h9) rfl (ty := .int) (by decide +kernel) rfl rfl (Nat.le_of_ble_eq_true rfl) hdg (cell' := cC y (sI z 9 i v)) (cp_Message_request y z i v) (fun k' i' _ h => co_Message_request y z i v k' i' h) (fun H1 locs1 h1 h2 => kk H1 locs1 h1 h2)
theorem g_Message_key (hx : p.tables.exec = Jvm.exec) (hb : c.code = cc) (hts : ∀ w ∈ Ts, w.before args s = true) (hin : ∀ w ∈ wsX10, w ∈ Ts) (hown : s.vm.findClass own = some m.cls) (hK : va_K D vwCl (ctys y) s) (hW : cw D y A z H) {q : Nat} (hq : q = cA z 1 i) (hi : i < 301) (hlink : (Cond.fieldLink own index "SharedRegisters$Message" "key" "I").before args s = true) (hdg : decode cc pc = .ok (.getfield index, 3)) (kk : W p l e R s m args below meth c H locs cells slots Q (F0 m (pc + 3) ls (.int (cI z 10 i) :: rest))) : W p l e R s m args below meth c H locs cells slots Q (F0 m pc ls (.ref q :: rest)) := by
  subst hq
  exact gw_get (ci := 1) (C := RX1) (T := TX1) (Nf := 7) hx hb hts hin hown hK hW (k := 1) hi (fs := [.int (cI z 6 i), .int (cI z 7 i), .int (cI z 8 i), .int (cI z 9 i), .int (cI z 10 i), .int (cI z 11 i), .ref (cA z 5 (cS z 2 i))]) rfl rfl 4 (by decide) hlink (fun _ h9 => h9) rfl hdg kk
theorem p_Message_key (hx : p.tables.exec = Jvm.exec) (hb : c.code = cc) (hts : ∀ w ∈ Ts, w.before args s = true) (hin : ∀ w ∈ wsX10, w ∈ Ts) (hown : s.vm.findClass own = some m.cls) (hK : va_K D vwCl (ctys y) s) (hW : cw D y A z H) (hS : va_S A H0 H locs) {q : Nat} (hq : q = cA z 1 i) (hi : i < 301) {v : Int32} (hlink : (Cond.fieldLink own index "SharedRegisters$Message" "key" "I").before args s = true) (hdg : decode cc pc = .ok (.putfield index, 3)) (kk : ∀ (H1 : Heap) (locs1 : List Loc), cw D y A (sI z 10 i v) H1 → va_S A H0 H1 locs1 → W p l e R s m args below meth c H1 locs1 cells slots Q (F0 m (pc + 3) ls rest)) : W p l e R s m args below meth c H locs cells slots Q (F0 m pc ls (.int v :: .ref q :: rest)) := by
  subst hq
  exact gw_put (ci := 1) (C := RX1) (T := TX1) (Nf := 7) hx hb hts hin tyX1 tyX1_ok nmX1 hown hK hW hS (k := 1) hi (fs := [.int (cI z 6 i), .int (cI z 7 i), .int (cI z 8 i), .int (cI z 9 i), .int (cI z 10 i), .int (cI z 11 i), .ref (cA z 5 (cS z 2 i))]) rfl rfl 4 (by decide) hlink (fun _ h9 => h9) rfl (ty := .int) (by decide +kernel) rfl rfl (Nat.le_of_ble_eq_true rfl) hdg (cell' := cC y (sI z 10 i v)) (cp_Message_key y z i v) (fun k' i' _ h => co_Message_key y z i v k' i' h) (fun H1 locs1 h1 h2 => kk H1 locs1 h1 h2)
theorem gN_Message_key (hx : p.tables.exec = Jvm.exec) (hb : c.code = cc) (hts : ∀ w ∈ Ts, w.before args s = true) (hin : ∀ w ∈ wsX10, w ∈ Ts) (hown : s.vm.findClass own = some m.cls) (hK : va_K D vwCl (ctys y) s) (hW : cw D y A z H) {q : Nat} (hq : q = cA z 1 i) (hi : i < 301) (hlink : va_Nw (.fieldLinkNest own index "SharedRegisters$Message" "key" "I" "SharedRegisters") s) (hdg : decode cc pc = .ok (.getfield index, 3)) (kk : W p l e R s m args below meth c H locs cells slots Q (F0 m (pc + 3) ls (.int (cI z 10 i) :: rest))) : W p l e R s m args below meth c H locs cells slots Q (F0 m pc ls (.ref q :: rest)) := by
  subst hq
  exact gw_getN (ci := 1) (C := RX1) (T := TX1) (Nf := 7) hx hb hts hin hown hK hW (k := 1) hi (fs := [.int (cI z 6 i), .int (cI z 7 i), .int (cI z 8 i), .int (cI z 9 i), .int (cI z 10 i), .int (cI z 11 i), .ref (cA z 5 (cS z 2 i))]) rfl rfl 4 (by decide) hlink (fun _ h9 => h9) rfl hdg kk
theorem pN_Message_key (hx : p.tables.exec = Jvm.exec) (hb : c.code = cc) (hts : ∀ w ∈ Ts, w.before args s = true) (hin : ∀ w ∈ wsX10, w ∈ Ts) (hown : s.vm.findClass own = some m.cls) (hK : va_K D vwCl (ctys y) s) (hW : cw D y A z H) (hS : va_S A H0 H locs) {q : Nat} (hq : q = cA z 1 i) (hi : i < 301) {v : Int32} (hlink : va_Nw (.fieldLinkNest own index "SharedRegisters$Message" "key" "I" "SharedRegisters") s) (hdg : decode cc pc = .ok (.putfield index, 3)) (kk : ∀ (H1 : Heap) (locs1 : List Loc), cw D y A (sI z 10 i v) H1 → va_S A H0 H1 locs1 → W p l e R s m args below meth c H1 locs1 cells slots Q (F0 m (pc + 3) ls rest)) : W p l e R s m args below meth c H locs cells slots Q (F0 m pc ls (.int v :: .ref q :: rest)) := by
  subst hq
  exact gw_putN (ci := 1) (C := RX1) (T := TX1) (Nf := 7) hx hb hts hin tyX1 tyX1_ok nmX1 hown hK hW hS (k := 1) hi (fs := [.int (cI z 6 i), .int (cI z 7 i), .int (cI z 8 i), .int (cI z 9 i), .int (cI z 10 i), .int (cI z 11 i), .ref (cA z 5 (cS z 2 i))]) rfl rfl 4 (by decide) hlink (fun _ h9 => h9) rfl (ty := .int) (by decide +kernel) rfl rfl (Nat.le_of_ble_eq_true rfl) hdg (cell' := cC y (sI z 10 i v)) (cp_Message_key y z i v) (fun k' i' _ h => co_Message_key y z i v k' i' h) (fun H1 locs1 h1 h2 => kk H1 locs1 h1 h2)
theorem g_Message_ballot (hx : p.tables.exec = Jvm.exec) (hb : c.code = cc) (hts : ∀ w ∈ Ts, w.before args s = true) (hin : ∀ w ∈ wsX10, w ∈ Ts) (hown : s.vm.findClass own = some m.cls) (hK : va_K D vwCl (ctys y) s) (hW : cw D y A z H) {q : Nat} (hq : q = cA z 1 i) (hi : i < 301) (hlink : (Cond.fieldLink own index "SharedRegisters$Message" "ballot" "I").before args s = true) (hdg : decode cc pc = .ok (.getfield index, 3)) (kk : W p l e R s m args below meth c H locs cells slots Q (F0 m (pc + 3) ls (.int (cI z 11 i) :: rest))) : W p l e R s m args below meth c H locs cells slots Q (F0 m pc ls (.ref q :: rest)) := by
  subst hq
  exact gw_get (ci := 1) (C := RX1) (T := TX1) (Nf := 7) hx hb hts hin hown hK hW (k := 1) hi (fs := [.int (cI z 6 i), .int (cI z 7 i), .int (cI z 8 i), .int (cI z 9 i), .int (cI z 10 i), .int (cI z 11 i), .ref (cA z 5 (cS z 2 i))]) rfl rfl 5 (by decide) hlink (fun _ h9 => h9) rfl hdg kk
theorem p_Message_ballot (hx : p.tables.exec = Jvm.exec) (hb : c.code = cc) (hts : ∀ w ∈ Ts, w.before args s = true) (hin : ∀ w ∈ wsX10, w ∈ Ts) (hown : s.vm.findClass own = some m.cls) (hK : va_K D vwCl (ctys y) s) (hW : cw D y A z H) (hS : va_S A H0 H locs) {q : Nat} (hq : q = cA z 1 i) (hi : i < 301) {v : Int32} (hlink : (Cond.fieldLink own index "SharedRegisters$Message" "ballot" "I").before args s = true) (hdg : decode cc pc = .ok (.putfield index, 3)) (kk : ∀ (H1 : Heap) (locs1 : List Loc), cw D y A (sI z 11 i v) H1 → va_S A H0 H1 locs1 → W p l e R s m args below meth c H1 locs1 cells slots Q (F0 m (pc + 3) ls rest)) : W p l e R s m args below meth c H locs cells slots Q (F0 m pc ls (.int v :: .ref q :: rest)) := by
  subst hq
  exact gw_put (ci := 1) (C := RX1) (T := TX1) (Nf := 7) hx hb hts hin tyX1 tyX1_ok nmX1 hown hK hW hS (k := 1) hi (fs := [.int (cI z 6 i), .int (cI z 7 i), .int (cI z 8 i), .int (cI z 9 i), .int (cI z 10 i), .int (cI z 11 i), .ref (cA z 5 (cS z 2 i))]) rfl rfl 5 (by decide) hlink (fun _ h9 => h9) rfl (ty := .int) (by decide +kernel) rfl rfl (Nat.le_of_ble_eq_true rfl) hdg (cell' := cC y (sI z 11 i v)) (cp_Message_ballot y z i v) (fun k' i' _ h => co_Message_ballot y z i v k' i' h) (fun H1 locs1 h1 h2 => kk H1 locs1 h1 h2)
theorem gN_Message_ballot (hx : p.tables.exec = Jvm.exec) (hb : c.code = cc) (hts : ∀ w ∈ Ts, w.before args s = true) (hin : ∀ w ∈ wsX10, w ∈ Ts) (hown : s.vm.findClass own = some m.cls) (hK : va_K D vwCl (ctys y) s) (hW : cw D y A z H) {q : Nat} (hq : q = cA z 1 i) (hi : i < 301) (hlink : va_Nw (.fieldLinkNest own index "SharedRegisters$Message" "ballot" "I" "SharedRegisters") s) (hdg : decode cc pc = .ok (.getfield index, 3)) (kk : W p l e R s m args below meth c H locs cells slots Q (F0 m (pc + 3) ls (.int (cI z 11 i) :: rest))) : W p l e R s m args below meth c H locs cells slots Q (F0 m pc ls (.ref q :: rest)) := by
  subst hq
  exact gw_getN (ci := 1) (C := RX1) (T := TX1) (Nf := 7) hx hb hts hin hown hK hW (k := 1) hi (fs := [.int (cI z 6 i), .int (cI z 7 i), .int (cI z 8 i), .int (cI z 9 i), .int (cI z 10 i), .int (cI z 11 i), .ref (cA z 5 (cS z 2 i))]) rfl rfl 5 (by decide) hlink (fun _ h9 => h9) rfl hdg kk
theorem pN_Message_ballot (hx : p.tables.exec = Jvm.exec) (hb : c.code = cc) (hts : ∀ w ∈ Ts, w.before args s = true) (hin : ∀ w ∈ wsX10, w ∈ Ts) (hown : s.vm.findClass own = some m.cls) (hK : va_K D vwCl (ctys y) s) (hW : cw D y A z H) (hS : va_S A H0 H locs) {q : Nat} (hq : q = cA z 1 i) (hi : i < 301) {v : Int32} (hlink : va_Nw (.fieldLinkNest own index "SharedRegisters$Message" "ballot" "I" "SharedRegisters") s) (hdg : decode cc pc = .ok (.putfield index, 3)) (kk : ∀ (H1 : Heap) (locs1 : List Loc), cw D y A (sI z 11 i v) H1 → va_S A H0 H1 locs1 → W p l e R s m args below meth c H1 locs1 cells slots Q (F0 m (pc + 3) ls rest)) : W p l e R s m args below meth c H locs cells slots Q (F0 m pc ls (.int v :: .ref q :: rest)) := by
  subst hq
  exact gw_putN (ci := 1) (C := RX1) (T := TX1) (Nf := 7) hx hb hts hin tyX1 tyX1_ok nmX1 hown hK hW hS (k := 1) hi (fs := [.int (cI z 6 i), .int (cI z 7 i), .int (cI z 8 i), .int (cI z 9 i), .int (cI z 10 i), .int (cI z 11 i), .ref (cA z 5 (cS z 2 i))]) rfl rfl 5 (by decide) hlink (fun _ h9 => h9) rfl (ty := .int) (by decide +kernel) rfl rfl (Nat.le_of_ble_eq_true rfl) hdg (cell' := cC y (sI z 11 i v)) (cp_Message_ballot y z i v) (fun k' i' _ h => co_Message_ballot y z i v k' i' h) (fun H1 locs1 h1 h2 => kk H1 locs1 h1 h2)
theorem g_Message_state (hx : p.tables.exec = Jvm.exec) (hb : c.code = cc) (hts : ∀ w ∈ Ts, w.before args s = true) (hin : ∀ w ∈ wsX10, w ∈ Ts) (hown : s.vm.findClass own = some m.cls) (hK : va_K D vwCl (ctys y) s) (hW : cw D y A z H) {q : Nat} (hq : q = cA z 1 i) (hi : i < 301) (hlink : (Cond.fieldLink own index "SharedRegisters$Message" "state" "LSharedRegisters$State;").before args s = true) (hdg : decode cc pc = .ok (.getfield index, 3)) (kk : W p l e R s m args below meth c H locs cells slots Q (F0 m (pc + 3) ls (.ref (cA z 5 (cS z 2 i)) :: rest))) : W p l e R s m args below meth c H locs cells slots Q (F0 m pc ls (.ref q :: rest)) := by
  subst hq
  exact gw_get (ci := 1) (C := RX1) (T := TX1) (Nf := 7) hx hb hts hin hown hK hW (k := 1) hi (fs := [.int (cI z 6 i), .int (cI z 7 i), .int (cI z 8 i), .int (cI z 9 i), .int (cI z 10 i), .int (cI z 11 i), .ref (cA z 5 (cS z 2 i))]) rfl rfl 6 (by decide) hlink (fun _ h9 => h9) rfl hdg kk
theorem p_Message_state (hx : p.tables.exec = Jvm.exec) (hb : c.code = cc) (hts : ∀ w ∈ Ts, w.before args s = true) (hin : ∀ w ∈ wsX10, w ∈ Ts) (hown : s.vm.findClass own = some m.cls) (hK : va_K D vwCl (ctys y) s) (hW : cw D y A z H) (hS : va_S A H0 H locs) {q : Nat} (hq : q = cA z 1 i) (hi : i < 301) {v : Nat} {qv : Nat} (hv : qv = cA z 5 v) (hlink : (Cond.fieldLink own index "SharedRegisters$Message" "state" "LSharedRegisters$State;").before args s = true) (hdg : decode cc pc = .ok (.putfield index, 3)) (kk : ∀ (H1 : Heap) (locs1 : List Loc), cw D y A (sS z 2 i v) H1 → va_S A H0 H1 locs1 → W p l e R s m args below meth c H1 locs1 cells slots Q (F0 m (pc + 3) ls rest)) : W p l e R s m args below meth c H locs cells slots Q (F0 m pc ls (.ref qv :: .ref q :: rest)) := by
  subst hq
  subst hv
  exact gw_put (ci := 1) (C := RX1) (T := TX1) (Nf := 7) hx hb hts hin tyX1 tyX1_ok nmX1 hown hK hW hS (k := 1) hi (fs := [.int (cI z 6 i), .int (cI z 7 i), .int (cI z 8 i), .int (cI z 9 i), .int (cI z 10 i), .int (cI z 11 i), .ref (cA z 5 (cS z 2 i))]) rfl rfl 6 (by decide) hlink (fun _ h9 => h9) rfl (ty := .object "SharedRegisters$State") (by decide +kernel) rfl rfl (Nat.le_of_ble_eq_true rfl) hdg (cell' := cC y (sS z 2 i v)) (cp_Message_state y z i v) (fun k' i' _ h => co_Message_state y z i v k' i' h) (fun H1 locs1 h1 h2 => kk H1 locs1 h1 h2)
theorem gN_Message_state (hx : p.tables.exec = Jvm.exec) (hb : c.code = cc) (hts : ∀ w ∈ Ts, w.before args s = true) (hin : ∀ w ∈ wsX10, w ∈ Ts) (hown : s.vm.findClass own = some m.cls) (hK : va_K D vwCl (ctys y) s) (hW : cw D y A z H) {q : Nat} (hq : q = cA z 1 i) (hi : i < 301) (hlink : va_Nw (.fieldLinkNest own index "SharedRegisters$Message" "state" "LSharedRegisters$State;" "SharedRegisters") s) (hdg : decode cc pc = .ok (.getfield index, 3)) (kk : W p l e R s m args below meth c H locs cells slots Q (F0 m (pc + 3) ls (.ref (cA z 5 (cS z 2 i)) :: rest))) : W p l e R s m args below meth c H locs cells slots Q (F0 m pc ls (.ref q :: rest)) := by
  subst hq
  exact gw_getN (ci := 1) (C := RX1) (T := TX1) (Nf := 7) hx hb hts hin hown hK hW (k := 1) hi (fs := [.int (cI z 6 i), .int (cI z 7 i), .int (cI z 8 i), .int (cI z 9 i), .int (cI z 10 i), .int (cI z 11 i), .ref (cA z 5 (cS z 2 i))]) rfl rfl 6 (by decide) hlink (fun _ h9 => h9) rfl hdg kk
theorem pN_Message_state (hx : p.tables.exec = Jvm.exec) (hb : c.code = cc) (hts : ∀ w ∈ Ts, w.before args s = true) (hin : ∀ w ∈ wsX10, w ∈ Ts) (hown : s.vm.findClass own = some m.cls) (hK : va_K D vwCl (ctys y) s) (hW : cw D y A z H) (hS : va_S A H0 H locs) {q : Nat} (hq : q = cA z 1 i) (hi : i < 301) {v : Nat} {qv : Nat} (hv : qv = cA z 5 v) (hlink : va_Nw (.fieldLinkNest own index "SharedRegisters$Message" "state" "LSharedRegisters$State;" "SharedRegisters") s) (hdg : decode cc pc = .ok (.putfield index, 3)) (kk : ∀ (H1 : Heap) (locs1 : List Loc), cw D y A (sS z 2 i v) H1 → va_S A H0 H1 locs1 → W p l e R s m args below meth c H1 locs1 cells slots Q (F0 m (pc + 3) ls rest)) : W p l e R s m args below meth c H locs cells slots Q (F0 m pc ls (.ref qv :: .ref q :: rest)) := by
  subst hq
  subst hv
  exact gw_putN (ci := 1) (C := RX1) (T := TX1) (Nf := 7) hx hb hts hin tyX1 tyX1_ok nmX1 hown hK hW hS (k := 1) hi (fs := [.int (cI z 6 i), .int (cI z 7 i), .int (cI z 8 i), .int (cI z 9 i), .int (cI z 10 i), .int (cI z 11 i), .ref (cA z 5 (cS z 2 i))]) rfl rfl 6 (by decide) hlink (fun _ h9 => h9) rfl (ty := .object "SharedRegisters$State") (by decide +kernel) rfl rfl (Nat.le_of_ble_eq_true rfl) hdg (cell' := cC y (sS z 2 i v)) (cp_Message_state y z i v) (fun k' i' _ h => co_Message_state y z i v k' i' h) (fun H1 locs1 h1 h2 => kk H1 locs1 h1 h2)
theorem g_Register_promise (hx : p.tables.exec = Jvm.exec) (hb : c.code = cc) (hts : ∀ w ∈ Ts, w.before args s = true) (hin : ∀ w ∈ wsX20, w ∈ Ts) (hown : s.vm.findClass own = some m.cls) (hK : va_K D vwCl (ctys y) s) (hW : cw D y A z H) {q : Nat} (hq : q = cA z 2 i) (hi : i < 36) (hlink : (Cond.fieldLink own index "SharedRegisters$Register" "promise" "I").before args s = true) (hdg : decode cc pc = .ok (.getfield index, 3)) (kk : W p l e R s m args below meth c H locs cells slots Q (F0 m (pc + 3) ls (.int (cI z 0 i) :: rest))) : W p l e R s m args below meth c H locs cells slots Q (F0 m pc ls (.ref q :: rest)) := by
  subst hq
  exact gw_get (ci := 2) (C := RX2) (T := TX2) (Nf := 3) hx hb hts hin hown hK hW (k := 2) hi (fs := [.int (cI z 0 i), .int (cI z 1 i), .ref (cA z 5 (cS z 0 i))]) rfl rfl 0 (by decide) hlink (fun _ h9 => h9) rfl hdg kk
theorem p_Register_promise (hx : p.tables.exec = Jvm.exec) (hb : c.code = cc) (hts : ∀ w ∈ Ts, w.before args s = true) (hin : ∀ w ∈ wsX20, w ∈ Ts) (hown : s.vm.findClass own = some m.cls) (hK : va_K D vwCl (ctys y) s) (hW : cw D y A z H) (hS : va_S A H0 H locs) {q : Nat} (hq : q = cA z 2 i) (hi : i < 36) {v : Int32} (hlink : (Cond.fieldLink own index "SharedRegisters$Register" "promise" "I").before args s = true) (hdg : decode cc pc = .ok (.putfield index, 3)) (kk : ∀ (H1 : Heap) (locs1 : List Loc), cw D y A (sI z 0 i v) H1 → va_S A H0 H1 locs1 → W p l e R s m args below meth c H1 locs1 cells slots Q (F0 m (pc + 3) ls rest)) : W p l e R s m args below meth c H locs cells slots Q (F0 m pc ls (.int v :: .ref q :: rest)) := by
  subst hq
  exact gw_put (ci := 2) (C := RX2) (T := TX2) (Nf := 3) hx hb hts hin tyX2 tyX2_ok nmX2 hown hK hW hS (k := 2) hi (fs := [.int (cI z 0 i), .int (cI z 1 i), .ref (cA z 5 (cS z 0 i))]) rfl rfl 0 (by decide) hlink (fun _ h9 => h9) rfl (ty := .int) (by decide +kernel) rfl rfl (Nat.le_of_ble_eq_true rfl) hdg (cell' := cC y (sI z 0 i v)) (cp_Register_promise y z i v) (fun k' i' _ h => co_Register_promise y z i v k' i' h) (fun H1 locs1 h1 h2 => kk H1 locs1 h1 h2)
theorem gN_Register_promise (hx : p.tables.exec = Jvm.exec) (hb : c.code = cc) (hts : ∀ w ∈ Ts, w.before args s = true) (hin : ∀ w ∈ wsX20, w ∈ Ts) (hown : s.vm.findClass own = some m.cls) (hK : va_K D vwCl (ctys y) s) (hW : cw D y A z H) {q : Nat} (hq : q = cA z 2 i) (hi : i < 36) (hlink : va_Nw (.fieldLinkNest own index "SharedRegisters$Register" "promise" "I" "SharedRegisters") s) (hdg : decode cc pc = .ok (.getfield index, 3)) (kk : W p l e R s m args below meth c H locs cells slots Q (F0 m (pc + 3) ls (.int (cI z 0 i) :: rest))) : W p l e R s m args below meth c H locs cells slots Q (F0 m pc ls (.ref q :: rest)) := by
  subst hq
  exact gw_getN (ci := 2) (C := RX2) (T := TX2) (Nf := 3) hx hb hts hin hown hK hW (k := 2) hi (fs := [.int (cI z 0 i), .int (cI z 1 i), .ref (cA z 5 (cS z 0 i))]) rfl rfl 0 (by decide) hlink (fun _ h9 => h9) rfl hdg kk
theorem pN_Register_promise (hx : p.tables.exec = Jvm.exec) (hb : c.code = cc) (hts : ∀ w ∈ Ts, w.before args s = true) (hin : ∀ w ∈ wsX20, w ∈ Ts) (hown : s.vm.findClass own = some m.cls) (hK : va_K D vwCl (ctys y) s) (hW : cw D y A z H) (hS : va_S A H0 H locs) {q : Nat} (hq : q = cA z 2 i) (hi : i < 36) {v : Int32} (hlink : va_Nw (.fieldLinkNest own index "SharedRegisters$Register" "promise" "I" "SharedRegisters") s) (hdg : decode cc pc = .ok (.putfield index, 3)) (kk : ∀ (H1 : Heap) (locs1 : List Loc), cw D y A (sI z 0 i v) H1 → va_S A H0 H1 locs1 → W p l e R s m args below meth c H1 locs1 cells slots Q (F0 m (pc + 3) ls rest)) : W p l e R s m args below meth c H locs cells slots Q (F0 m pc ls (.int v :: .ref q :: rest)) := by
  subst hq
  exact gw_putN (ci := 2) (C := RX2) (T := TX2) (Nf := 3) hx hb hts hin tyX2 tyX2_ok nmX2 hown hK hW hS (k := 2) hi (fs := [.int (cI z 0 i), .int (cI z 1 i), .ref (cA z 5 (cS z 0 i))]) rfl rfl 0 (by decide) hlink (fun _ h9 => h9) rfl (ty := .int) (by decide +kernel) rfl rfl (Nat.le_of_ble_eq_true rfl) hdg (cell' := cC y (sI z 0 i v)) (cp_Register_promise y z i v) (fun k' i' _ h => co_Register_promise y z i v k' i' h) (fun H1 locs1 h1 h2 => kk H1 locs1 h1 h2)
theorem g_Register_ballot (hx : p.tables.exec = Jvm.exec) (hb : c.code = cc) (hts : ∀ w ∈ Ts, w.before args s = true) (hin : ∀ w ∈ wsX20, w ∈ Ts) (hown : s.vm.findClass own = some m.cls) (hK : va_K D vwCl (ctys y) s) (hW : cw D y A z H) {q : Nat} (hq : q = cA z 2 i) (hi : i < 36) (hlink : (Cond.fieldLink own index "SharedRegisters$Register" "ballot" "I").before args s = true) (hdg : decode cc pc = .ok (.getfield index, 3)) (kk : W p l e R s m args below meth c H locs cells slots Q (F0 m (pc + 3) ls (.int (cI z 1 i) :: rest))) : W p l e R s m args below meth c H locs cells slots Q (F0 m pc ls (.ref q :: rest)) := by
  subst hq
  exact gw_get (ci := 2) (C := RX2) (T := TX2) (Nf := 3) hx hb hts hin hown hK hW (k := 2) hi (fs := [.int (cI z 0 i), .int (cI z 1 i), .ref (cA z 5 (cS z 0 i))]) rfl rfl 1 (by decide) hlink (fun _ h9 => h9) rfl hdg kk
theorem p_Register_ballot (hx : p.tables.exec = Jvm.exec) (hb : c.code = cc) (hts : ∀ w ∈ Ts, w.before args s = true) (hin : ∀ w ∈ wsX20, w ∈ Ts) (hown : s.vm.findClass own = some m.cls) (hK : va_K D vwCl (ctys y) s) (hW : cw D y A z H) (hS : va_S A H0 H locs) {q : Nat} (hq : q = cA z 2 i) (hi : i < 36) {v : Int32} (hlink : (Cond.fieldLink own index "SharedRegisters$Register" "ballot" "I").before args s = true) (hdg : decode cc pc = .ok (.putfield index, 3)) (kk : ∀ (H1 : Heap) (locs1 : List Loc), cw D y A (sI z 1 i v) H1 → va_S A H0 H1 locs1 → W p l e R s m args below meth c H1 locs1 cells slots Q (F0 m (pc + 3) ls rest)) : W p l e R s m args below meth c H locs cells slots Q (F0 m pc ls (.int v :: .ref q :: rest)) := by
  subst hq
  exact gw_put (ci := 2) (C := RX2) (T := TX2) (Nf := 3) hx hb hts hin tyX2 tyX2_ok nmX2 hown hK hW hS (k := 2) hi (fs := [.int (cI z 0 i), .int (cI z 1 i), .ref (cA z 5 (cS z 0 i))]) rfl rfl 1 (by decide) hlink (fun _ h9 => h9) rfl (ty := .int) (by decide +kernel) rfl rfl (Nat.le_of_ble_eq_true rfl) hdg (cell' := cC y (sI z 1 i v)) (cp_Register_ballot y z i v) (fun k' i' _ h => co_Register_ballot y z i v k' i' h) (fun H1 locs1 h1 h2 => kk H1 locs1 h1 h2)
theorem gN_Register_ballot (hx : p.tables.exec = Jvm.exec) (hb : c.code = cc) (hts : ∀ w ∈ Ts, w.before args s = true) (hin : ∀ w ∈ wsX20, w ∈ Ts) (hown : s.vm.findClass own = some m.cls) (hK : va_K D vwCl (ctys y) s) (hW : cw D y A z H) {q : Nat} (hq : q = cA z 2 i) (hi : i < 36) (hlink : va_Nw (.fieldLinkNest own index "SharedRegisters$Register" "ballot" "I" "SharedRegisters") s) (hdg : decode cc pc = .ok (.getfield index, 3)) (kk : W p l e R s m args below meth c H locs cells slots Q (F0 m (pc + 3) ls (.int (cI z 1 i) :: rest))) : W p l e R s m args below meth c H locs cells slots Q (F0 m pc ls (.ref q :: rest)) := by
  subst hq
  exact gw_getN (ci := 2) (C := RX2) (T := TX2) (Nf := 3) hx hb hts hin hown hK hW (k := 2) hi (fs := [.int (cI z 0 i), .int (cI z 1 i), .ref (cA z 5 (cS z 0 i))]) rfl rfl 1 (by decide) hlink (fun _ h9 => h9) rfl hdg kk
theorem pN_Register_ballot (hx : p.tables.exec = Jvm.exec) (hb : c.code = cc) (hts : ∀ w ∈ Ts, w.before args s = true) (hin : ∀ w ∈ wsX20, w ∈ Ts) (hown : s.vm.findClass own = some m.cls) (hK : va_K D vwCl (ctys y) s) (hW : cw D y A z H) (hS : va_S A H0 H locs) {q : Nat} (hq : q = cA z 2 i) (hi : i < 36) {v : Int32} (hlink : va_Nw (.fieldLinkNest own index "SharedRegisters$Register" "ballot" "I" "SharedRegisters") s) (hdg : decode cc pc = .ok (.putfield index, 3)) (kk : ∀ (H1 : Heap) (locs1 : List Loc), cw D y A (sI z 1 i v) H1 → va_S A H0 H1 locs1 → W p l e R s m args below meth c H1 locs1 cells slots Q (F0 m (pc + 3) ls rest)) : W p l e R s m args below meth c H locs cells slots Q (F0 m pc ls (.int v :: .ref q :: rest)) := by
  subst hq
  exact gw_putN (ci := 2) (C := RX2) (T := TX2) (Nf := 3) hx hb hts hin tyX2 tyX2_ok nmX2 hown hK hW hS (k := 2) hi (fs := [.int (cI z 0 i), .int (cI z 1 i), .ref (cA z 5 (cS z 0 i))]) rfl rfl 1 (by decide) hlink (fun _ h9 => h9) rfl (ty := .int) (by decide +kernel) rfl rfl (Nat.le_of_ble_eq_true rfl) hdg (cell' := cC y (sI z 1 i v)) (cp_Register_ballot y z i v) (fun k' i' _ h => co_Register_ballot y z i v k' i' h) (fun H1 locs1 h1 h2 => kk H1 locs1 h1 h2)
theorem g_Register_state (hx : p.tables.exec = Jvm.exec) (hb : c.code = cc) (hts : ∀ w ∈ Ts, w.before args s = true) (hin : ∀ w ∈ wsX20, w ∈ Ts) (hown : s.vm.findClass own = some m.cls) (hK : va_K D vwCl (ctys y) s) (hW : cw D y A z H) {q : Nat} (hq : q = cA z 2 i) (hi : i < 36) (hlink : (Cond.fieldLink own index "SharedRegisters$Register" "state" "LSharedRegisters$State;").before args s = true) (hdg : decode cc pc = .ok (.getfield index, 3)) (kk : W p l e R s m args below meth c H locs cells slots Q (F0 m (pc + 3) ls (.ref (cA z 5 (cS z 0 i)) :: rest))) : W p l e R s m args below meth c H locs cells slots Q (F0 m pc ls (.ref q :: rest)) := by
  subst hq
  exact gw_get (ci := 2) (C := RX2) (T := TX2) (Nf := 3) hx hb hts hin hown hK hW (k := 2) hi (fs := [.int (cI z 0 i), .int (cI z 1 i), .ref (cA z 5 (cS z 0 i))]) rfl rfl 2 (by decide) hlink (fun _ h9 => h9) rfl hdg kk
theorem p_Register_state (hx : p.tables.exec = Jvm.exec) (hb : c.code = cc) (hts : ∀ w ∈ Ts, w.before args s = true) (hin : ∀ w ∈ wsX20, w ∈ Ts) (hown : s.vm.findClass own = some m.cls) (hK : va_K D vwCl (ctys y) s) (hW : cw D y A z H) (hS : va_S A H0 H locs) {q : Nat} (hq : q = cA z 2 i) (hi : i < 36) {v : Nat} {qv : Nat} (hv : qv = cA z 5 v) (hlink : (Cond.fieldLink own index "SharedRegisters$Register" "state" "LSharedRegisters$State;").before args s = true) (hdg : decode cc pc = .ok (.putfield index, 3)) (kk : ∀ (H1 : Heap) (locs1 : List Loc), cw D y A (sS z 0 i v) H1 → va_S A H0 H1 locs1 → W p l e R s m args below meth c H1 locs1 cells slots Q (F0 m (pc + 3) ls rest)) : W p l e R s m args below meth c H locs cells slots Q (F0 m pc ls (.ref qv :: .ref q :: rest)) := by
  subst hq
  subst hv
  exact gw_put (ci := 2) (C := RX2) (T := TX2) (Nf := 3) hx hb hts hin tyX2 tyX2_ok nmX2 hown hK hW hS (k := 2) hi (fs := [.int (cI z 0 i), .int (cI z 1 i), .ref (cA z 5 (cS z 0 i))]) rfl rfl 2 (by decide) hlink (fun _ h9 => h9) rfl (ty := .object "SharedRegisters$State") (by decide +kernel) rfl rfl (Nat.le_of_ble_eq_true rfl) hdg (cell' := cC y (sS z 0 i v)) (cp_Register_state y z i v) (fun k' i' _ h => co_Register_state y z i v k' i' h) (fun H1 locs1 h1 h2 => kk H1 locs1 h1 h2)
theorem gN_Register_state (hx : p.tables.exec = Jvm.exec) (hb : c.code = cc) (hts : ∀ w ∈ Ts, w.before args s = true) (hin : ∀ w ∈ wsX20, w ∈ Ts) (hown : s.vm.findClass own = some m.cls) (hK : va_K D vwCl (ctys y) s) (hW : cw D y A z H) {q : Nat} (hq : q = cA z 2 i) (hi : i < 36) (hlink : va_Nw (.fieldLinkNest own index "SharedRegisters$Register" "state" "LSharedRegisters$State;" "SharedRegisters") s) (hdg : decode cc pc = .ok (.getfield index, 3)) (kk : W p l e R s m args below meth c H locs cells slots Q (F0 m (pc + 3) ls (.ref (cA z 5 (cS z 0 i)) :: rest))) : W p l e R s m args below meth c H locs cells slots Q (F0 m pc ls (.ref q :: rest)) := by
  subst hq
  exact gw_getN (ci := 2) (C := RX2) (T := TX2) (Nf := 3) hx hb hts hin hown hK hW (k := 2) hi (fs := [.int (cI z 0 i), .int (cI z 1 i), .ref (cA z 5 (cS z 0 i))]) rfl rfl 2 (by decide) hlink (fun _ h9 => h9) rfl hdg kk
theorem pN_Register_state (hx : p.tables.exec = Jvm.exec) (hb : c.code = cc) (hts : ∀ w ∈ Ts, w.before args s = true) (hin : ∀ w ∈ wsX20, w ∈ Ts) (hown : s.vm.findClass own = some m.cls) (hK : va_K D vwCl (ctys y) s) (hW : cw D y A z H) (hS : va_S A H0 H locs) {q : Nat} (hq : q = cA z 2 i) (hi : i < 36) {v : Nat} {qv : Nat} (hv : qv = cA z 5 v) (hlink : va_Nw (.fieldLinkNest own index "SharedRegisters$Register" "state" "LSharedRegisters$State;" "SharedRegisters") s) (hdg : decode cc pc = .ok (.putfield index, 3)) (kk : ∀ (H1 : Heap) (locs1 : List Loc), cw D y A (sS z 0 i v) H1 → va_S A H0 H1 locs1 → W p l e R s m args below meth c H1 locs1 cells slots Q (F0 m (pc + 3) ls rest)) : W p l e R s m args below meth c H locs cells slots Q (F0 m pc ls (.ref qv :: .ref q :: rest)) := by
  subst hq
  subst hv
  exact gw_putN (ci := 2) (C := RX2) (T := TX2) (Nf := 3) hx hb hts hin tyX2 tyX2_ok nmX2 hown hK hW hS (k := 2) hi (fs := [.int (cI z 0 i), .int (cI z 1 i), .ref (cA z 5 (cS z 0 i))]) rfl rfl 2 (by decide) hlink (fun _ h9 => h9) rfl (ty := .object "SharedRegisters$State") (by decide +kernel) rfl rfl (Nat.le_of_ble_eq_true rfl) hdg (cell' := cC y (sS z 0 i v)) (cp_Register_state y z i v) (fun k' i' _ h => co_Register_state y z i v k' i' h) (fun H1 locs1 h1 h2 => kk H1 locs1 h1 h2)
theorem g_Request_number (hx : p.tables.exec = Jvm.exec) (hb : c.code = cc) (hts : ∀ w ∈ Ts, w.before args s = true) (hin : ∀ w ∈ wsX30, w ∈ Ts) (hown : s.vm.findClass own = some m.cls) (hK : va_K D vwCl (ctys y) s) (hW : cw D y A z H) {q : Nat} (hq : q = cA z 3 i) (hi : i < cNr z) (hlink : (Cond.fieldLink own index "SharedRegisters$Request" "number" "I").before args s = true) (hdg : decode cc pc = .ok (.getfield index, 3)) (kk : W p l e R s m args below meth c H locs cells slots Q (F0 m (pc + 3) ls (.int (cI z 12 i) :: rest))) : W p l e R s m args below meth c H locs cells slots Q (F0 m pc ls (.ref q :: rest)) := by
  subst hq
  exact gw_get (ci := 3) (C := RX3) (T := TX3) (Nf := 15) hx hb hts hin hown hK hW (k := 3) hi (fs := [.int (cI z 12 i), .int (cI z 13 i), .int (cI z 14 i), .int (cI z 15 i), .long (cJ z 0 i), .int (cI z 16 i), .int (cI z 17 i), .int (cI z 18 i), .int (cI z 19 i), .int (cI z 20 i), .int (cI z 21 i), .int (cI z 22 i), va_rf ((cR z 3 i).map (cA z 5)), .int (cI z 23 i), .int (cI z 24 i)]) rfl rfl 0 (by decide) hlink (fun _ h9 => h9) rfl hdg kk
theorem pF_Request_number (hx : p.tables.exec = Jvm.exec) (hb : c.code = cc) (hts : ∀ w ∈ Ts, w.before args s = true) (hin : ∀ w ∈ wsX30, w ∈ Ts) (hown : s.vm.findClass own = some m.cls) (hK : va_K D vwCl (ctys y) s) (hW : cw D y A z H) (hS : va_S A H0 H locs) (hin2 : meth.name = "<init>") (howr : own = RX3) {q : Nat} (hq : q = cA z 3 i) (hi : i < cNr z) {v : Int32} (hlink : (Cond.fieldLink own index "SharedRegisters$Request" "number" "I").before args s = true) (hdg : decode cc pc = .ok (.putfield index, 3)) (kk : ∀ (H1 : Heap) (locs1 : List Loc), cw D y A (sI z 12 i v) H1 → va_S A H0 H1 locs1 → W p l e R s m args below meth c H1 locs1 cells slots Q (F0 m (pc + 3) ls rest)) : W p l e R s m args below meth c H locs cells slots Q (F0 m pc ls (.int v :: .ref q :: rest)) := by
  subst hq
  subst howr
  exact gw_putF (ci := 3) (C := RX3) (T := TX3) (Nf := 15) hx hb hts hin tyX3 tyX3_ok nmX3 hown hK hW hS (k := 3) hi (fs := [.int (cI z 12 i), .int (cI z 13 i), .int (cI z 14 i), .int (cI z 15 i), .long (cJ z 0 i), .int (cI z 16 i), .int (cI z 17 i), .int (cI z 18 i), .int (cI z 19 i), .int (cI z 20 i), .int (cI z 21 i), .int (cI z 22 i), va_rf ((cR z 3 i).map (cA z 5)), .int (cI z 23 i), .int (cI z 24 i)]) rfl rfl 0 (by decide) hlink (fun _ h9 => h9) rfl hin2 rfl (ty := .int) (by decide +kernel) rfl rfl (Nat.le_of_ble_eq_true rfl) hdg (cell' := cC y (sI z 12 i v)) (cp_Request_number y z i v) (fun k' i' _ h => co_Request_number y z i v k' i' h) (fun H1 locs1 h1 h2 => kk H1 locs1 h1 h2)
theorem gN_Request_number (hx : p.tables.exec = Jvm.exec) (hb : c.code = cc) (hts : ∀ w ∈ Ts, w.before args s = true) (hin : ∀ w ∈ wsX30, w ∈ Ts) (hown : s.vm.findClass own = some m.cls) (hK : va_K D vwCl (ctys y) s) (hW : cw D y A z H) {q : Nat} (hq : q = cA z 3 i) (hi : i < cNr z) (hlink : va_Nw (.fieldLinkNest own index "SharedRegisters$Request" "number" "I" "SharedRegisters") s) (hdg : decode cc pc = .ok (.getfield index, 3)) (kk : W p l e R s m args below meth c H locs cells slots Q (F0 m (pc + 3) ls (.int (cI z 12 i) :: rest))) : W p l e R s m args below meth c H locs cells slots Q (F0 m pc ls (.ref q :: rest)) := by
  subst hq
  exact gw_getN (ci := 3) (C := RX3) (T := TX3) (Nf := 15) hx hb hts hin hown hK hW (k := 3) hi (fs := [.int (cI z 12 i), .int (cI z 13 i), .int (cI z 14 i), .int (cI z 15 i), .long (cJ z 0 i), .int (cI z 16 i), .int (cI z 17 i), .int (cI z 18 i), .int (cI z 19 i), .int (cI z 20 i), .int (cI z 21 i), .int (cI z 22 i), va_rf ((cR z 3 i).map (cA z 5)), .int (cI z 23 i), .int (cI z 24 i)]) rfl rfl 0 (by decide) hlink (fun _ h9 => h9) rfl hdg kk
theorem g_Request_asker (hx : p.tables.exec = Jvm.exec) (hb : c.code = cc) (hts : ∀ w ∈ Ts, w.before args s = true) (hin : ∀ w ∈ wsX30, w ∈ Ts) (hown : s.vm.findClass own = some m.cls) (hK : va_K D vwCl (ctys y) s) (hW : cw D y A z H) {q : Nat} (hq : q = cA z 3 i) (hi : i < cNr z) (hlink : (Cond.fieldLink own index "SharedRegisters$Request" "asker" "I").before args s = true) (hdg : decode cc pc = .ok (.getfield index, 3)) (kk : W p l e R s m args below meth c H locs cells slots Q (F0 m (pc + 3) ls (.int (cI z 13 i) :: rest))) : W p l e R s m args below meth c H locs cells slots Q (F0 m pc ls (.ref q :: rest)) := by
  subst hq
  exact gw_get (ci := 3) (C := RX3) (T := TX3) (Nf := 15) hx hb hts hin hown hK hW (k := 3) hi (fs := [.int (cI z 12 i), .int (cI z 13 i), .int (cI z 14 i), .int (cI z 15 i), .long (cJ z 0 i), .int (cI z 16 i), .int (cI z 17 i), .int (cI z 18 i), .int (cI z 19 i), .int (cI z 20 i), .int (cI z 21 i), .int (cI z 22 i), va_rf ((cR z 3 i).map (cA z 5)), .int (cI z 23 i), .int (cI z 24 i)]) rfl rfl 1 (by decide) hlink (fun _ h9 => h9) rfl hdg kk
theorem pF_Request_asker (hx : p.tables.exec = Jvm.exec) (hb : c.code = cc) (hts : ∀ w ∈ Ts, w.before args s = true) (hin : ∀ w ∈ wsX30, w ∈ Ts) (hown : s.vm.findClass own = some m.cls) (hK : va_K D vwCl (ctys y) s) (hW : cw D y A z H) (hS : va_S A H0 H locs) (hin2 : meth.name = "<init>") (howr : own = RX3) {q : Nat} (hq : q = cA z 3 i) (hi : i < cNr z) {v : Int32} (hlink : (Cond.fieldLink own index "SharedRegisters$Request" "asker" "I").before args s = true) (hdg : decode cc pc = .ok (.putfield index, 3)) (kk : ∀ (H1 : Heap) (locs1 : List Loc), cw D y A (sI z 13 i v) H1 → va_S A H0 H1 locs1 → W p l e R s m args below meth c H1 locs1 cells slots Q (F0 m (pc + 3) ls rest)) : W p l e R s m args below meth c H locs cells slots Q (F0 m pc ls (.int v :: .ref q :: rest)) := by
  subst hq
  subst howr
  exact gw_putF (ci := 3) (C := RX3) (T := TX3) (Nf := 15) hx hb hts hin tyX3 tyX3_ok nmX3 hown hK hW hS (k := 3) hi (fs := [.int (cI z 12 i), .int (cI z 13 i), .int (cI z 14 i), .int (cI z 15 i), .long (cJ z 0 i), .int (cI z 16 i), .int (cI z 17 i), .int (cI z 18 i), .int (cI z 19 i), .int (cI z 20 i), .int (cI z 21 i), .int (cI z 22 i), va_rf ((cR z 3 i).map (cA z 5)), .int (cI z 23 i), .int (cI z 24 i)]) rfl rfl 1 (by decide) hlink (fun _ h9 => h9) rfl hin2 rfl (ty := .int) (by decide +kernel) rfl rfl (Nat.le_of_ble_eq_true rfl) hdg (cell' := cC y (sI z 13 i v)) (cp_Request_asker y z i v) (fun k' i' _ h => co_Request_asker y z i v k' i' h) (fun H1 locs1 h1 h2 => kk H1 locs1 h1 h2)
theorem gN_Request_asker (hx : p.tables.exec = Jvm.exec) (hb : c.code = cc) (hts : ∀ w ∈ Ts, w.before args s = true) (hin : ∀ w ∈ wsX30, w ∈ Ts) (hown : s.vm.findClass own = some m.cls) (hK : va_K D vwCl (ctys y) s) (hW : cw D y A z H) {q : Nat} (hq : q = cA z 3 i) (hi : i < cNr z) (hlink : va_Nw (.fieldLinkNest own index "SharedRegisters$Request" "asker" "I" "SharedRegisters") s) (hdg : decode cc pc = .ok (.getfield index, 3)) (kk : W p l e R s m args below meth c H locs cells slots Q (F0 m (pc + 3) ls (.int (cI z 13 i) :: rest))) : W p l e R s m args below meth c H locs cells slots Q (F0 m pc ls (.ref q :: rest)) := by
  subst hq
  exact gw_getN (ci := 3) (C := RX3) (T := TX3) (Nf := 15) hx hb hts hin hown hK hW (k := 3) hi (fs := [.int (cI z 12 i), .int (cI z 13 i), .int (cI z 14 i), .int (cI z 15 i), .long (cJ z 0 i), .int (cI z 16 i), .int (cI z 17 i), .int (cI z 18 i), .int (cI z 19 i), .int (cI z 20 i), .int (cI z 21 i), .int (cI z 22 i), va_rf ((cR z 3 i).map (cA z 5)), .int (cI z 23 i), .int (cI z 24 i)]) rfl rfl 1 (by decide) hlink (fun _ h9 => h9) rfl hdg kk
theorem g_Request_key (hx : p.tables.exec = Jvm.exec) (hb : c.code = cc) (hts : ∀ w ∈ Ts, w.before args s = true) (hin : ∀ w ∈ wsX30, w ∈ Ts) (hown : s.vm.findClass own = some m.cls) (hK : va_K D vwCl (ctys y) s) (hW : cw D y A z H) {q : Nat} (hq : q = cA z 3 i) (hi : i < cNr z) (hlink : (Cond.fieldLink own index "SharedRegisters$Request" "key" "I").before args s = true) (hdg : decode cc pc = .ok (.getfield index, 3)) (kk : W p l e R s m args below meth c H locs cells slots Q (F0 m (pc + 3) ls (.int (cI z 14 i) :: rest))) : W p l e R s m args below meth c H locs cells slots Q (F0 m pc ls (.ref q :: rest)) := by
  subst hq
  exact gw_get (ci := 3) (C := RX3) (T := TX3) (Nf := 15) hx hb hts hin hown hK hW (k := 3) hi (fs := [.int (cI z 12 i), .int (cI z 13 i), .int (cI z 14 i), .int (cI z 15 i), .long (cJ z 0 i), .int (cI z 16 i), .int (cI z 17 i), .int (cI z 18 i), .int (cI z 19 i), .int (cI z 20 i), .int (cI z 21 i), .int (cI z 22 i), va_rf ((cR z 3 i).map (cA z 5)), .int (cI z 23 i), .int (cI z 24 i)]) rfl rfl 2 (by decide) hlink (fun _ h9 => h9) rfl hdg kk
theorem pF_Request_key (hx : p.tables.exec = Jvm.exec) (hb : c.code = cc) (hts : ∀ w ∈ Ts, w.before args s = true) (hin : ∀ w ∈ wsX30, w ∈ Ts) (hown : s.vm.findClass own = some m.cls) (hK : va_K D vwCl (ctys y) s) (hW : cw D y A z H) (hS : va_S A H0 H locs) (hin2 : meth.name = "<init>") (howr : own = RX3) {q : Nat} (hq : q = cA z 3 i) (hi : i < cNr z) {v : Int32} (hlink : (Cond.fieldLink own index "SharedRegisters$Request" "key" "I").before args s = true) (hdg : decode cc pc = .ok (.putfield index, 3)) (kk : ∀ (H1 : Heap) (locs1 : List Loc), cw D y A (sI z 14 i v) H1 → va_S A H0 H1 locs1 → W p l e R s m args below meth c H1 locs1 cells slots Q (F0 m (pc + 3) ls rest)) : W p l e R s m args below meth c H locs cells slots Q (F0 m pc ls (.int v :: .ref q :: rest)) := by
  subst hq
  subst howr
  exact gw_putF (ci := 3) (C := RX3) (T := TX3) (Nf := 15) hx hb hts hin tyX3 tyX3_ok nmX3 hown hK hW hS (k := 3) hi (fs := [.int (cI z 12 i), .int (cI z 13 i), .int (cI z 14 i), .int (cI z 15 i), .long (cJ z 0 i), .int (cI z 16 i), .int (cI z 17 i), .int (cI z 18 i), .int (cI z 19 i), .int (cI z 20 i), .int (cI z 21 i), .int (cI z 22 i), va_rf ((cR z 3 i).map (cA z 5)), .int (cI z 23 i), .int (cI z 24 i)]) rfl rfl 2 (by decide) hlink (fun _ h9 => h9) rfl hin2 rfl (ty := .int) (by decide +kernel) rfl rfl (Nat.le_of_ble_eq_true rfl) hdg (cell' := cC y (sI z 14 i v)) (cp_Request_key y z i v) (fun k' i' _ h => co_Request_key y z i v k' i' h) (fun H1 locs1 h1 h2 => kk H1 locs1 h1 h2)
theorem gN_Request_key (hx : p.tables.exec = Jvm.exec) (hb : c.code = cc) (hts : ∀ w ∈ Ts, w.before args s = true) (hin : ∀ w ∈ wsX30, w ∈ Ts) (hown : s.vm.findClass own = some m.cls) (hK : va_K D vwCl (ctys y) s) (hW : cw D y A z H) {q : Nat} (hq : q = cA z 3 i) (hi : i < cNr z) (hlink : va_Nw (.fieldLinkNest own index "SharedRegisters$Request" "key" "I" "SharedRegisters") s) (hdg : decode cc pc = .ok (.getfield index, 3)) (kk : W p l e R s m args below meth c H locs cells slots Q (F0 m (pc + 3) ls (.int (cI z 14 i) :: rest))) : W p l e R s m args below meth c H locs cells slots Q (F0 m pc ls (.ref q :: rest)) := by
  subst hq
  exact gw_getN (ci := 3) (C := RX3) (T := TX3) (Nf := 15) hx hb hts hin hown hK hW (k := 3) hi (fs := [.int (cI z 12 i), .int (cI z 13 i), .int (cI z 14 i), .int (cI z 15 i), .long (cJ z 0 i), .int (cI z 16 i), .int (cI z 17 i), .int (cI z 18 i), .int (cI z 19 i), .int (cI z 20 i), .int (cI z 21 i), .int (cI z 22 i), va_rf ((cR z 3 i).map (cA z 5)), .int (cI z 23 i), .int (cI z 24 i)]) rfl rfl 2 (by decide) hlink (fun _ h9 => h9) rfl hdg kk
theorem g_Request_change (hx : p.tables.exec = Jvm.exec) (hb : c.code = cc) (hts : ∀ w ∈ Ts, w.before args s = true) (hin : ∀ w ∈ wsX30, w ∈ Ts) (hown : s.vm.findClass own = some m.cls) (hK : va_K D vwCl (ctys y) s) (hW : cw D y A z H) {q : Nat} (hq : q = cA z 3 i) (hi : i < cNr z) (hlink : (Cond.fieldLink own index "SharedRegisters$Request" "change" "I").before args s = true) (hdg : decode cc pc = .ok (.getfield index, 3)) (kk : W p l e R s m args below meth c H locs cells slots Q (F0 m (pc + 3) ls (.int (cI z 15 i) :: rest))) : W p l e R s m args below meth c H locs cells slots Q (F0 m pc ls (.ref q :: rest)) := by
  subst hq
  exact gw_get (ci := 3) (C := RX3) (T := TX3) (Nf := 15) hx hb hts hin hown hK hW (k := 3) hi (fs := [.int (cI z 12 i), .int (cI z 13 i), .int (cI z 14 i), .int (cI z 15 i), .long (cJ z 0 i), .int (cI z 16 i), .int (cI z 17 i), .int (cI z 18 i), .int (cI z 19 i), .int (cI z 20 i), .int (cI z 21 i), .int (cI z 22 i), va_rf ((cR z 3 i).map (cA z 5)), .int (cI z 23 i), .int (cI z 24 i)]) rfl rfl 3 (by decide) hlink (fun _ h9 => h9) rfl hdg kk
theorem pF_Request_change (hx : p.tables.exec = Jvm.exec) (hb : c.code = cc) (hts : ∀ w ∈ Ts, w.before args s = true) (hin : ∀ w ∈ wsX30, w ∈ Ts) (hown : s.vm.findClass own = some m.cls) (hK : va_K D vwCl (ctys y) s) (hW : cw D y A z H) (hS : va_S A H0 H locs) (hin2 : meth.name = "<init>") (howr : own = RX3) {q : Nat} (hq : q = cA z 3 i) (hi : i < cNr z) {v : Int32} (hlink : (Cond.fieldLink own index "SharedRegisters$Request" "change" "I").before args s = true) (hdg : decode cc pc = .ok (.putfield index, 3)) (kk : ∀ (H1 : Heap) (locs1 : List Loc), cw D y A (sI z 15 i v) H1 → va_S A H0 H1 locs1 → W p l e R s m args below meth c H1 locs1 cells slots Q (F0 m (pc + 3) ls rest)) : W p l e R s m args below meth c H locs cells slots Q (F0 m pc ls (.int v :: .ref q :: rest)) := by
  subst hq
  subst howr
  exact gw_putF (ci := 3) (C := RX3) (T := TX3) (Nf := 15) hx hb hts hin tyX3 tyX3_ok nmX3 hown hK hW hS (k := 3) hi (fs := [.int (cI z 12 i), .int (cI z 13 i), .int (cI z 14 i), .int (cI z 15 i), .long (cJ z 0 i), .int (cI z 16 i), .int (cI z 17 i), .int (cI z 18 i), .int (cI z 19 i), .int (cI z 20 i), .int (cI z 21 i), .int (cI z 22 i), va_rf ((cR z 3 i).map (cA z 5)), .int (cI z 23 i), .int (cI z 24 i)]) rfl rfl 3 (by decide) hlink (fun _ h9 => h9) rfl hin2 rfl (ty := .int) (by decide +kernel) rfl rfl (Nat.le_of_ble_eq_true rfl) hdg (cell' := cC y (sI z 15 i v)) (cp_Request_change y z i v) (fun k' i' _ h => co_Request_change y z i v k' i' h) (fun H1 locs1 h1 h2 => kk H1 locs1 h1 h2)
theorem gN_Request_change (hx : p.tables.exec = Jvm.exec) (hb : c.code = cc) (hts : ∀ w ∈ Ts, w.before args s = true) (hin : ∀ w ∈ wsX30, w ∈ Ts) (hown : s.vm.findClass own = some m.cls) (hK : va_K D vwCl (ctys y) s) (hW : cw D y A z H) {q : Nat} (hq : q = cA z 3 i) (hi : i < cNr z) (hlink : va_Nw (.fieldLinkNest own index "SharedRegisters$Request" "change" "I" "SharedRegisters") s) (hdg : decode cc pc = .ok (.getfield index, 3)) (kk : W p l e R s m args below meth c H locs cells slots Q (F0 m (pc + 3) ls (.int (cI z 15 i) :: rest))) : W p l e R s m args below meth c H locs cells slots Q (F0 m pc ls (.ref q :: rest)) := by
  subst hq
  exact gw_getN (ci := 3) (C := RX3) (T := TX3) (Nf := 15) hx hb hts hin hown hK hW (k := 3) hi (fs := [.int (cI z 12 i), .int (cI z 13 i), .int (cI z 14 i), .int (cI z 15 i), .long (cJ z 0 i), .int (cI z 16 i), .int (cI z 17 i), .int (cI z 18 i), .int (cI z 19 i), .int (cI z 20 i), .int (cI z 21 i), .int (cI z 22 i), va_rf ((cR z 3 i).map (cA z 5)), .int (cI z 23 i), .int (cI z 24 i)]) rfl rfl 3 (by decide) hlink (fun _ h9 => h9) rfl hdg kk
theorem g_Request_argument (hx : p.tables.exec = Jvm.exec) (hb : c.code = cc) (hts : ∀ w ∈ Ts, w.before args s = true) (hin : ∀ w ∈ wsX30, w ∈ Ts) (hown : s.vm.findClass own = some m.cls) (hK : va_K D vwCl (ctys y) s) (hW : cw D y A z H) {q : Nat} (hq : q = cA z 3 i) (hi : i < cNr z) (hlink : (Cond.fieldLink own index "SharedRegisters$Request" "argument" "J").before args s = true) (hdg : decode cc pc = .ok (.getfield index, 3)) (kk : W p l e R s m args below meth c H locs cells slots Q (F0 m (pc + 3) ls (.long (cJ z 0 i) :: rest))) : W p l e R s m args below meth c H locs cells slots Q (F0 m pc ls (.ref q :: rest)) := by
  subst hq
  exact gw_get (ci := 3) (C := RX3) (T := TX3) (Nf := 15) hx hb hts hin hown hK hW (k := 3) hi (fs := [.int (cI z 12 i), .int (cI z 13 i), .int (cI z 14 i), .int (cI z 15 i), .long (cJ z 0 i), .int (cI z 16 i), .int (cI z 17 i), .int (cI z 18 i), .int (cI z 19 i), .int (cI z 20 i), .int (cI z 21 i), .int (cI z 22 i), va_rf ((cR z 3 i).map (cA z 5)), .int (cI z 23 i), .int (cI z 24 i)]) rfl rfl 4 (by decide) hlink (fun _ h9 => h9) rfl hdg kk
theorem pF_Request_argument (hx : p.tables.exec = Jvm.exec) (hb : c.code = cc) (hts : ∀ w ∈ Ts, w.before args s = true) (hin : ∀ w ∈ wsX30, w ∈ Ts) (hown : s.vm.findClass own = some m.cls) (hK : va_K D vwCl (ctys y) s) (hW : cw D y A z H) (hS : va_S A H0 H locs) (hin2 : meth.name = "<init>") (howr : own = RX3) {q : Nat} (hq : q = cA z 3 i) (hi : i < cNr z) {v : Int64} (hlink : (Cond.fieldLink own index "SharedRegisters$Request" "argument" "J").before args s = true) (hdg : decode cc pc = .ok (.putfield index, 3)) (kk : ∀ (H1 : Heap) (locs1 : List Loc), cw D y A (sJ z 0 i v) H1 → va_S A H0 H1 locs1 → W p l e R s m args below meth c H1 locs1 cells slots Q (F0 m (pc + 3) ls rest)) : W p l e R s m args below meth c H locs cells slots Q (F0 m pc ls (.long v :: .ref q :: rest)) := by
  subst hq
  subst howr
  exact gw_putF (ci := 3) (C := RX3) (T := TX3) (Nf := 15) hx hb hts hin tyX3 tyX3_ok nmX3 hown hK hW hS (k := 3) hi (fs := [.int (cI z 12 i), .int (cI z 13 i), .int (cI z 14 i), .int (cI z 15 i), .long (cJ z 0 i), .int (cI z 16 i), .int (cI z 17 i), .int (cI z 18 i), .int (cI z 19 i), .int (cI z 20 i), .int (cI z 21 i), .int (cI z 22 i), va_rf ((cR z 3 i).map (cA z 5)), .int (cI z 23 i), .int (cI z 24 i)]) rfl rfl 4 (by decide) hlink (fun _ h9 => h9) rfl hin2 rfl (ty := .long) (by decide +kernel) rfl rfl (Nat.le_of_ble_eq_true rfl) hdg (cell' := cC y (sJ z 0 i v)) (cp_Request_argument y z i v) (fun k' i' _ h => co_Request_argument y z i v k' i' h) (fun H1 locs1 h1 h2 => kk H1 locs1 h1 h2)
theorem gN_Request_argument (hx : p.tables.exec = Jvm.exec) (hb : c.code = cc) (hts : ∀ w ∈ Ts, w.before args s = true) (hin : ∀ w ∈ wsX30, w ∈ Ts) (hown : s.vm.findClass own = some m.cls) (hK : va_K D vwCl (ctys y) s) (hW : cw D y A z H) {q : Nat} (hq : q = cA z 3 i) (hi : i < cNr z) (hlink : va_Nw (.fieldLinkNest own index "SharedRegisters$Request" "argument" "J" "SharedRegisters") s) (hdg : decode cc pc = .ok (.getfield index, 3)) (kk : W p l e R s m args below meth c H locs cells slots Q (F0 m (pc + 3) ls (.long (cJ z 0 i) :: rest))) : W p l e R s m args below meth c H locs cells slots Q (F0 m pc ls (.ref q :: rest)) := by
  subst hq
  exact gw_getN (ci := 3) (C := RX3) (T := TX3) (Nf := 15) hx hb hts hin hown hK hW (k := 3) hi (fs := [.int (cI z 12 i), .int (cI z 13 i), .int (cI z 14 i), .int (cI z 15 i), .long (cJ z 0 i), .int (cI z 16 i), .int (cI z 17 i), .int (cI z 18 i), .int (cI z 19 i), .int (cI z 20 i), .int (cI z 21 i), .int (cI z 22 i), va_rf ((cR z 3 i).map (cA z 5)), .int (cI z 23 i), .int (cI z 24 i)]) rfl rfl 4 (by decide) hlink (fun _ h9 => h9) rfl hdg kk
theorem g_Request_ballot (hx : p.tables.exec = Jvm.exec) (hb : c.code = cc) (hts : ∀ w ∈ Ts, w.before args s = true) (hin : ∀ w ∈ wsX30, w ∈ Ts) (hown : s.vm.findClass own = some m.cls) (hK : va_K D vwCl (ctys y) s) (hW : cw D y A z H) {q : Nat} (hq : q = cA z 3 i) (hi : i < cNr z) (hlink : (Cond.fieldLink own index "SharedRegisters$Request" "ballot" "I").before args s = true) (hdg : decode cc pc = .ok (.getfield index, 3)) (kk : W p l e R s m args below meth c H locs cells slots Q (F0 m (pc + 3) ls (.int (cI z 16 i) :: rest))) : W p l e R s m args below meth c H locs cells slots Q (F0 m pc ls (.ref q :: rest)) := by
  subst hq
  exact gw_get (ci := 3) (C := RX3) (T := TX3) (Nf := 15) hx hb hts hin hown hK hW (k := 3) hi (fs := [.int (cI z 12 i), .int (cI z 13 i), .int (cI z 14 i), .int (cI z 15 i), .long (cJ z 0 i), .int (cI z 16 i), .int (cI z 17 i), .int (cI z 18 i), .int (cI z 19 i), .int (cI z 20 i), .int (cI z 21 i), .int (cI z 22 i), va_rf ((cR z 3 i).map (cA z 5)), .int (cI z 23 i), .int (cI z 24 i)]) rfl rfl 5 (by decide) hlink (fun _ h9 => h9) rfl hdg kk
theorem pF_Request_ballot (hx : p.tables.exec = Jvm.exec) (hb : c.code = cc) (hts : ∀ w ∈ Ts, w.before args s = true) (hin : ∀ w ∈ wsX30, w ∈ Ts) (hown : s.vm.findClass own = some m.cls) (hK : va_K D vwCl (ctys y) s) (hW : cw D y A z H) (hS : va_S A H0 H locs) (hin2 : meth.name = "<init>") (howr : own = RX3) {q : Nat} (hq : q = cA z 3 i) (hi : i < cNr z) {v : Int32} (hlink : (Cond.fieldLink own index "SharedRegisters$Request" "ballot" "I").before args s = true) (hdg : decode cc pc = .ok (.putfield index, 3)) (kk : ∀ (H1 : Heap) (locs1 : List Loc), cw D y A (sI z 16 i v) H1 → va_S A H0 H1 locs1 → W p l e R s m args below meth c H1 locs1 cells slots Q (F0 m (pc + 3) ls rest)) : W p l e R s m args below meth c H locs cells slots Q (F0 m pc ls (.int v :: .ref q :: rest)) := by
  subst hq
  subst howr
  exact gw_putF (ci := 3) (C := RX3) (T := TX3) (Nf := 15) hx hb hts hin tyX3 tyX3_ok nmX3 hown hK hW hS (k := 3) hi (fs := [.int (cI z 12 i), .int (cI z 13 i), .int (cI z 14 i), .int (cI z 15 i), .long (cJ z 0 i), .int (cI z 16 i), .int (cI z 17 i), .int (cI z 18 i), .int (cI z 19 i), .int (cI z 20 i), .int (cI z 21 i), .int (cI z 22 i), va_rf ((cR z 3 i).map (cA z 5)), .int (cI z 23 i), .int (cI z 24 i)]) rfl rfl 5 (by decide) hlink (fun _ h9 => h9) rfl hin2 rfl (ty := .int) (by decide +kernel) rfl rfl (Nat.le_of_ble_eq_true rfl) hdg (cell' := cC y (sI z 16 i v)) (cp_Request_ballot y z i v) (fun k' i' _ h => co_Request_ballot y z i v k' i' h) (fun H1 locs1 h1 h2 => kk H1 locs1 h1 h2)
theorem gN_Request_ballot (hx : p.tables.exec = Jvm.exec) (hb : c.code = cc) (hts : ∀ w ∈ Ts, w.before args s = true) (hin : ∀ w ∈ wsX30, w ∈ Ts) (hown : s.vm.findClass own = some m.cls) (hK : va_K D vwCl (ctys y) s) (hW : cw D y A z H) {q : Nat} (hq : q = cA z 3 i) (hi : i < cNr z) (hlink : va_Nw (.fieldLinkNest own index "SharedRegisters$Request" "ballot" "I" "SharedRegisters") s) (hdg : decode cc pc = .ok (.getfield index, 3)) (kk : W p l e R s m args below meth c H locs cells slots Q (F0 m (pc + 3) ls (.int (cI z 16 i) :: rest))) : W p l e R s m args below meth c H locs cells slots Q (F0 m pc ls (.ref q :: rest)) := by
  subst hq
  exact gw_getN (ci := 3) (C := RX3) (T := TX3) (Nf := 15) hx hb hts hin hown hK hW (k := 3) hi (fs := [.int (cI z 12 i), .int (cI z 13 i), .int (cI z 14 i), .int (cI z 15 i), .long (cJ z 0 i), .int (cI z 16 i), .int (cI z 17 i), .int (cI z 18 i), .int (cI z 19 i), .int (cI z 20 i), .int (cI z 21 i), .int (cI z 22 i), va_rf ((cR z 3 i).map (cA z 5)), .int (cI z 23 i), .int (cI z 24 i)]) rfl rfl 5 (by decide) hlink (fun _ h9 => h9) rfl hdg kk
theorem g_Request_enoughPromised (hx : p.tables.exec = Jvm.exec) (hb : c.code = cc) (hts : ∀ w ∈ Ts, w.before args s = true) (hin : ∀ w ∈ wsX30, w ∈ Ts) (hown : s.vm.findClass own = some m.cls) (hK : va_K D vwCl (ctys y) s) (hW : cw D y A z H) {q : Nat} (hq : q = cA z 3 i) (hi : i < cNr z) (hlink : (Cond.fieldLink own index "SharedRegisters$Request" "enoughPromised" "I").before args s = true) (hdg : decode cc pc = .ok (.getfield index, 3)) (kk : W p l e R s m args below meth c H locs cells slots Q (F0 m (pc + 3) ls (.int (cI z 17 i) :: rest))) : W p l e R s m args below meth c H locs cells slots Q (F0 m pc ls (.ref q :: rest)) := by
  subst hq
  exact gw_get (ci := 3) (C := RX3) (T := TX3) (Nf := 15) hx hb hts hin hown hK hW (k := 3) hi (fs := [.int (cI z 12 i), .int (cI z 13 i), .int (cI z 14 i), .int (cI z 15 i), .long (cJ z 0 i), .int (cI z 16 i), .int (cI z 17 i), .int (cI z 18 i), .int (cI z 19 i), .int (cI z 20 i), .int (cI z 21 i), .int (cI z 22 i), va_rf ((cR z 3 i).map (cA z 5)), .int (cI z 23 i), .int (cI z 24 i)]) rfl rfl 6 (by decide) hlink (fun _ h9 => h9) rfl hdg kk
theorem pF_Request_enoughPromised (hx : p.tables.exec = Jvm.exec) (hb : c.code = cc) (hts : ∀ w ∈ Ts, w.before args s = true) (hin : ∀ w ∈ wsX30, w ∈ Ts) (hown : s.vm.findClass own = some m.cls) (hK : va_K D vwCl (ctys y) s) (hW : cw D y A z H) (hS : va_S A H0 H locs) (hin2 : meth.name = "<init>") (howr : own = RX3) {q : Nat} (hq : q = cA z 3 i) (hi : i < cNr z) {v : Int32} (hlink : (Cond.fieldLink own index "SharedRegisters$Request" "enoughPromised" "I").before args s = true) (hdg : decode cc pc = .ok (.putfield index, 3)) (kk : ∀ (H1 : Heap) (locs1 : List Loc), cw D y A (sI z 17 i v) H1 → va_S A H0 H1 locs1 → W p l e R s m args below meth c H1 locs1 cells slots Q (F0 m (pc + 3) ls rest)) : W p l e R s m args below meth c H locs cells slots Q (F0 m pc ls (.int v :: .ref q :: rest)) := by
  subst hq
  subst howr
  exact gw_putF (ci := 3) (C := RX3) (T := TX3) (Nf := 15) hx hb hts hin tyX3 tyX3_ok nmX3 hown hK hW hS (k := 3) hi (fs := [.int (cI z 12 i), .int (cI z 13 i), .int (cI z 14 i), .int (cI z 15 i), .long (cJ z 0 i), .int (cI z 16 i), .int (cI z 17 i), .int (cI z 18 i), .int (cI z 19 i), .int (cI z 20 i), .int (cI z 21 i), .int (cI z 22 i), va_rf ((cR z 3 i).map (cA z 5)), .int (cI z 23 i), .int (cI z 24 i)]) rfl rfl 6 (by decide) hlink (fun _ h9 => h9) rfl hin2 rfl (ty := .int) (by decide +kernel) rfl rfl (Nat.le_of_ble_eq_true rfl) hdg (cell' := cC y (sI z 17 i v)) (cp_Request_enoughPromised y z i v) (fun k' i' _ h => co_Request_enoughPromised y z i v k' i' h) (fun H1 locs1 h1 h2 => kk H1 locs1 h1 h2)
theorem gN_Request_enoughPromised (hx : p.tables.exec = Jvm.exec) (hb : c.code = cc) (hts : ∀ w ∈ Ts, w.before args s = true) (hin : ∀ w ∈ wsX30, w ∈ Ts) (hown : s.vm.findClass own = some m.cls) (hK : va_K D vwCl (ctys y) s) (hW : cw D y A z H) {q : Nat} (hq : q = cA z 3 i) (hi : i < cNr z) (hlink : va_Nw (.fieldLinkNest own index "SharedRegisters$Request" "enoughPromised" "I" "SharedRegisters") s) (hdg : decode cc pc = .ok (.getfield index, 3)) (kk : W p l e R s m args below meth c H locs cells slots Q (F0 m (pc + 3) ls (.int (cI z 17 i) :: rest))) : W p l e R s m args below meth c H locs cells slots Q (F0 m pc ls (.ref q :: rest)) := by
  subst hq
  exact gw_getN (ci := 3) (C := RX3) (T := TX3) (Nf := 15) hx hb hts hin hown hK hW (k := 3) hi (fs := [.int (cI z 12 i), .int (cI z 13 i), .int (cI z 14 i), .int (cI z 15 i), .long (cJ z 0 i), .int (cI z 16 i), .int (cI z 17 i), .int (cI z 18 i), .int (cI z 19 i), .int (cI z 20 i), .int (cI z 21 i), .int (cI z 22 i), va_rf ((cR z 3 i).map (cA z 5)), .int (cI z 23 i), .int (cI z 24 i)]) rfl rfl 6 (by decide) hlink (fun _ h9 => h9) rfl hdg kk
theorem g_Request_acceptSet (hx : p.tables.exec = Jvm.exec) (hb : c.code = cc) (hts : ∀ w ∈ Ts, w.before args s = true) (hin : ∀ w ∈ wsX30, w ∈ Ts) (hown : s.vm.findClass own = some m.cls) (hK : va_K D vwCl (ctys y) s) (hW : cw D y A z H) {q : Nat} (hq : q = cA z 3 i) (hi : i < cNr z) (hlink : (Cond.fieldLink own index "SharedRegisters$Request" "acceptSet" "I").before args s = true) (hdg : decode cc pc = .ok (.getfield index, 3)) (kk : W p l e R s m args below meth c H locs cells slots Q (F0 m (pc + 3) ls (.int (cI z 18 i) :: rest))) : W p l e R s m args below meth c H locs cells slots Q (F0 m pc ls (.ref q :: rest)) := by
  subst hq
  exact gw_get (ci := 3) (C := RX3) (T := TX3) (Nf := 15) hx hb hts hin hown hK hW (k := 3) hi (fs := [.int (cI z 12 i), .int (cI z 13 i), .int (cI z 14 i), .int (cI z 15 i), .long (cJ z 0 i), .int (cI z 16 i), .int (cI z 17 i), .int (cI z 18 i), .int (cI z 19 i), .int (cI z 20 i), .int (cI z 21 i), .int (cI z 22 i), va_rf ((cR z 3 i).map (cA z 5)), .int (cI z 23 i), .int (cI z 24 i)]) rfl rfl 7 (by decide) hlink (fun _ h9 => h9) rfl hdg kk
theorem pF_Request_acceptSet (hx : p.tables.exec = Jvm.exec) (hb : c.code = cc) (hts : ∀ w ∈ Ts, w.before args s = true) (hin : ∀ w ∈ wsX30, w ∈ Ts) (hown : s.vm.findClass own = some m.cls) (hK : va_K D vwCl (ctys y) s) (hW : cw D y A z H) (hS : va_S A H0 H locs) (hin2 : meth.name = "<init>") (howr : own = RX3) {q : Nat} (hq : q = cA z 3 i) (hi : i < cNr z) {v : Int32} (hlink : (Cond.fieldLink own index "SharedRegisters$Request" "acceptSet" "I").before args s = true) (hdg : decode cc pc = .ok (.putfield index, 3)) (kk : ∀ (H1 : Heap) (locs1 : List Loc), cw D y A (sI z 18 i v) H1 → va_S A H0 H1 locs1 → W p l e R s m args below meth c H1 locs1 cells slots Q (F0 m (pc + 3) ls rest)) : W p l e R s m args below meth c H locs cells slots Q (F0 m pc ls (.int v :: .ref q :: rest)) := by
  subst hq
  subst howr
  exact gw_putF (ci := 3) (C := RX3) (T := TX3) (Nf := 15) hx hb hts hin tyX3 tyX3_ok nmX3 hown hK hW hS (k := 3) hi (fs := [.int (cI z 12 i), .int (cI z 13 i), .int (cI z 14 i), .int (cI z 15 i), .long (cJ z 0 i), .int (cI z 16 i), .int (cI z 17 i), .int (cI z 18 i), .int (cI z 19 i), .int (cI z 20 i), .int (cI z 21 i), .int (cI z 22 i), va_rf ((cR z 3 i).map (cA z 5)), .int (cI z 23 i), .int (cI z 24 i)]) rfl rfl 7 (by decide) hlink (fun _ h9 => h9) rfl hin2 rfl (ty := .int) (by decide +kernel) rfl rfl (Nat.le_of_ble_eq_true rfl) hdg (cell' := cC y (sI z 18 i v)) (cp_Request_acceptSet y z i v) (fun k' i' _ h => co_Request_acceptSet y z i v k' i' h) (fun H1 locs1 h1 h2 => kk H1 locs1 h1 h2)
theorem gN_Request_acceptSet (hx : p.tables.exec = Jvm.exec) (hb : c.code = cc) (hts : ∀ w ∈ Ts, w.before args s = true) (hin : ∀ w ∈ wsX30, w ∈ Ts) (hown : s.vm.findClass own = some m.cls) (hK : va_K D vwCl (ctys y) s) (hW : cw D y A z H) {q : Nat} (hq : q = cA z 3 i) (hi : i < cNr z) (hlink : va_Nw (.fieldLinkNest own index "SharedRegisters$Request" "acceptSet" "I" "SharedRegisters") s) (hdg : decode cc pc = .ok (.getfield index, 3)) (kk : W p l e R s m args below meth c H locs cells slots Q (F0 m (pc + 3) ls (.int (cI z 18 i) :: rest))) : W p l e R s m args below meth c H locs cells slots Q (F0 m pc ls (.ref q :: rest)) := by
  subst hq
  exact gw_getN (ci := 3) (C := RX3) (T := TX3) (Nf := 15) hx hb hts hin hown hK hW (k := 3) hi (fs := [.int (cI z 12 i), .int (cI z 13 i), .int (cI z 14 i), .int (cI z 15 i), .long (cJ z 0 i), .int (cI z 16 i), .int (cI z 17 i), .int (cI z 18 i), .int (cI z 19 i), .int (cI z 20 i), .int (cI z 21 i), .int (cI z 22 i), va_rf ((cR z 3 i).map (cA z 5)), .int (cI z 23 i), .int (cI z 24 i)]) rfl rfl 7 (by decide) hlink (fun _ h9 => h9) rfl hdg kk
theorem g_Request_enoughTaken (hx : p.tables.exec = Jvm.exec) (hb : c.code = cc) (hts : ∀ w ∈ Ts, w.before args s = true) (hin : ∀ w ∈ wsX30, w ∈ Ts) (hown : s.vm.findClass own = some m.cls) (hK : va_K D vwCl (ctys y) s) (hW : cw D y A z H) {q : Nat} (hq : q = cA z 3 i) (hi : i < cNr z) (hlink : (Cond.fieldLink own index "SharedRegisters$Request" "enoughTaken" "I").before args s = true) (hdg : decode cc pc = .ok (.getfield index, 3)) (kk : W p l e R s m args below meth c H locs cells slots Q (F0 m (pc + 3) ls (.int (cI z 19 i) :: rest))) : W p l e R s m args below meth c H locs cells slots Q (F0 m pc ls (.ref q :: rest)) := by
  subst hq
  exact gw_get (ci := 3) (C := RX3) (T := TX3) (Nf := 15) hx hb hts hin hown hK hW (k := 3) hi (fs := [.int (cI z 12 i), .int (cI z 13 i), .int (cI z 14 i), .int (cI z 15 i), .long (cJ z 0 i), .int (cI z 16 i), .int (cI z 17 i), .int (cI z 18 i), .int (cI z 19 i), .int (cI z 20 i), .int (cI z 21 i), .int (cI z 22 i), va_rf ((cR z 3 i).map (cA z 5)), .int (cI z 23 i), .int (cI z 24 i)]) rfl rfl 8 (by decide) hlink (fun _ h9 => h9) rfl hdg kk
theorem pF_Request_enoughTaken (hx : p.tables.exec = Jvm.exec) (hb : c.code = cc) (hts : ∀ w ∈ Ts, w.before args s = true) (hin : ∀ w ∈ wsX30, w ∈ Ts) (hown : s.vm.findClass own = some m.cls) (hK : va_K D vwCl (ctys y) s) (hW : cw D y A z H) (hS : va_S A H0 H locs) (hin2 : meth.name = "<init>") (howr : own = RX3) {q : Nat} (hq : q = cA z 3 i) (hi : i < cNr z) {v : Int32} (hlink : (Cond.fieldLink own index "SharedRegisters$Request" "enoughTaken" "I").before args s = true) (hdg : decode cc pc = .ok (.putfield index, 3)) (kk : ∀ (H1 : Heap) (locs1 : List Loc), cw D y A (sI z 19 i v) H1 → va_S A H0 H1 locs1 → W p l e R s m args below meth c H1 locs1 cells slots Q (F0 m (pc + 3) ls rest)) : W p l e R s m args below meth c H locs cells slots Q (F0 m pc ls (.int v :: .ref q :: rest)) := by
  subst hq
  subst howr
  exact gw_putF (ci := 3) (C := RX3) (T := TX3) (Nf := 15) hx hb hts hin tyX3 tyX3_ok nmX3 hown hK hW hS (k := 3) hi (fs := [.int (cI z 12 i), .int (cI z 13 i), .int (cI z 14 i), .int (cI z 15 i), .long (cJ z 0 i), .int (cI z 16 i), .int (cI z 17 i), .int (cI z 18 i), .int (cI z 19 i), .int (cI z 20 i), .int (cI z 21 i), .int (cI z 22 i), va_rf ((cR z 3 i).map (cA z 5)), .int (cI z 23 i), .int (cI z 24 i)]) rfl rfl 8 (by decide) hlink (fun _ h9 => h9) rfl hin2 rfl (ty := .int) (by decide +kernel) rfl rfl (Nat.le_of_ble_eq_true rfl) hdg (cell' := cC y (sI z 19 i v)) (cp_Request_enoughTaken y z i v) (fun k' i' _ h => co_Request_enoughTaken y z i v k' i' h) (fun H1 locs1 h1 h2 => kk H1 locs1 h1 h2)
theorem gN_Request_enoughTaken (hx : p.tables.exec = Jvm.exec) (hb : c.code = cc) (hts : ∀ w ∈ Ts, w.before args s = true) (hin : ∀ w ∈ wsX30, w ∈ Ts) (hown : s.vm.findClass own = some m.cls) (hK : va_K D vwCl (ctys y) s) (hW : cw D y A z H) {q : Nat} (hq : q = cA z 3 i) (hi : i < cNr z) (hlink : va_Nw (.fieldLinkNest own index "SharedRegisters$Request" "enoughTaken" "I" "SharedRegisters") s) (hdg : decode cc pc = .ok (.getfield index, 3)) (kk : W p l e R s m args below meth c H locs cells slots Q (F0 m (pc + 3) ls (.int (cI z 19 i) :: rest))) : W p l e R s m args below meth c H locs cells slots Q (F0 m pc ls (.ref q :: rest)) := by
  subst hq
  exact gw_getN (ci := 3) (C := RX3) (T := TX3) (Nf := 15) hx hb hts hin hown hK hW (k := 3) hi (fs := [.int (cI z 12 i), .int (cI z 13 i), .int (cI z 14 i), .int (cI z 15 i), .long (cJ z 0 i), .int (cI z 16 i), .int (cI z 17 i), .int (cI z 18 i), .int (cI z 19 i), .int (cI z 20 i), .int (cI z 21 i), .int (cI z 22 i), va_rf ((cR z 3 i).map (cA z 5)), .int (cI z 23 i), .int (cI z 24 i)]) rfl rfl 8 (by decide) hlink (fun _ h9 => h9) rfl hdg kk
theorem g_Request_accepting (hx : p.tables.exec = Jvm.exec) (hb : c.code = cc) (hts : ∀ w ∈ Ts, w.before args s = true) (hin : ∀ w ∈ wsX30, w ∈ Ts) (hown : s.vm.findClass own = some m.cls) (hK : va_K D vwCl (ctys y) s) (hW : cw D y A z H) {q : Nat} (hq : q = cA z 3 i) (hi : i < cNr z) (hlink : (Cond.fieldLink own index "SharedRegisters$Request" "accepting" "Z").before args s = true) (hdg : decode cc pc = .ok (.getfield index, 3)) (kk : W p l e R s m args below meth c H locs cells slots Q (F0 m (pc + 3) ls (.int (cI z 20 i) :: rest))) : W p l e R s m args below meth c H locs cells slots Q (F0 m pc ls (.ref q :: rest)) := by
  subst hq
  exact gw_get (ci := 3) (C := RX3) (T := TX3) (Nf := 15) hx hb hts hin hown hK hW (k := 3) hi (fs := [.int (cI z 12 i), .int (cI z 13 i), .int (cI z 14 i), .int (cI z 15 i), .long (cJ z 0 i), .int (cI z 16 i), .int (cI z 17 i), .int (cI z 18 i), .int (cI z 19 i), .int (cI z 20 i), .int (cI z 21 i), .int (cI z 22 i), va_rf ((cR z 3 i).map (cA z 5)), .int (cI z 23 i), .int (cI z 24 i)]) rfl rfl 9 (by decide) hlink (fun _ h9 => h9) rfl hdg kk
theorem p_Request_accepting (hx : p.tables.exec = Jvm.exec) (hb : c.code = cc) (hts : ∀ w ∈ Ts, w.before args s = true) (hin : ∀ w ∈ wsX30, w ∈ Ts) (hown : s.vm.findClass own = some m.cls) (hK : va_K D vwCl (ctys y) s) (hW : cw D y A z H) (hS : va_S A H0 H locs) {q : Nat} (hq : q = cA z 3 i) (hi : i < cNr z) {v : Int32} (hz : narrow .boolean (.int v) = .int v) (hz2 : fits .boolean (.int v) = true) (hlink : (Cond.fieldLink own index "SharedRegisters$Request" "accepting" "Z").before args s = true) (hdg : decode cc pc = .ok (.putfield index, 3)) (kk : ∀ (H1 : Heap) (locs1 : List Loc), cw D y A (sI z 20 i v) H1 → va_S A H0 H1 locs1 → W p l e R s m args below meth c H1 locs1 cells slots Q (F0 m (pc + 3) ls rest)) : W p l e R s m args below meth c H locs cells slots Q (F0 m pc ls (.int v :: .ref q :: rest)) := by
  subst hq
  exact gw_put (ci := 3) (C := RX3) (T := TX3) (Nf := 15) hx hb hts hin tyX3 tyX3_ok nmX3 hown hK hW hS (k := 3) hi (fs := [.int (cI z 12 i), .int (cI z 13 i), .int (cI z 14 i), .int (cI z 15 i), .long (cJ z 0 i), .int (cI z 16 i), .int (cI z 17 i), .int (cI z 18 i), .int (cI z 19 i), .int (cI z 20 i), .int (cI z 21 i), .int (cI z 22 i), va_rf ((cR z 3 i).map (cA z 5)), .int (cI z 23 i), .int (cI z 24 i)]) rfl rfl 9 (by decide) hlink (fun _ h9 => h9) rfl (ty := .boolean) (by decide +kernel) hz hz2 (Nat.le_of_ble_eq_true rfl) hdg (cell' := cC y (sI z 20 i v)) (cp_Request_accepting y z i v) (fun k' i' _ h => co_Request_accepting y z i v k' i' h) (fun H1 locs1 h1 h2 => kk H1 locs1 h1 h2)
theorem gN_Request_accepting (hx : p.tables.exec = Jvm.exec) (hb : c.code = cc) (hts : ∀ w ∈ Ts, w.before args s = true) (hin : ∀ w ∈ wsX30, w ∈ Ts) (hown : s.vm.findClass own = some m.cls) (hK : va_K D vwCl (ctys y) s) (hW : cw D y A z H) {q : Nat} (hq : q = cA z 3 i) (hi : i < cNr z) (hlink : va_Nw (.fieldLinkNest own index "SharedRegisters$Request" "accepting" "Z" "SharedRegisters") s) (hdg : decode cc pc = .ok (.getfield index, 3)) (kk : W p l e R s m args below meth c H locs cells slots Q (F0 m (pc + 3) ls (.int (cI z 20 i) :: rest))) : W p l e R s m args below meth c H locs cells slots Q (F0 m pc ls (.ref q :: rest)) := by
  subst hq
  exact gw_getN (ci := 3) (C := RX3) (T := TX3) (Nf := 15) hx hb hts hin hown hK hW (k := 3) hi (fs := [.int (cI z 12 i), .int (cI z 13 i), .int (cI z 14 i), .int (cI z 15 i), .long (cJ z 0 i), .int (cI z 16 i), .int (cI z 17 i), .int (cI z 18 i), .int (cI z 19 i), .int (cI z 20 i), .int (cI z 21 i), .int (cI z 22 i), va_rf ((cR z 3 i).map (cA z 5)), .int (cI z 23 i), .int (cI z 24 i)]) rfl rfl 9 (by decide) hlink (fun _ h9 => h9) rfl hdg kk
theorem pN_Request_accepting (hx : p.tables.exec = Jvm.exec) (hb : c.code = cc) (hts : ∀ w ∈ Ts, w.before args s = true) (hin : ∀ w ∈ wsX30, w ∈ Ts) (hown : s.vm.findClass own = some m.cls) (hK : va_K D vwCl (ctys y) s) (hW : cw D y A z H) (hS : va_S A H0 H locs) {q : Nat} (hq : q = cA z 3 i) (hi : i < cNr z) {v : Int32} (hz : narrow .boolean (.int v) = .int v) (hz2 : fits .boolean (.int v) = true) (hlink : va_Nw (.fieldLinkNest own index "SharedRegisters$Request" "accepting" "Z" "SharedRegisters") s) (hdg : decode cc pc = .ok (.putfield index, 3)) (kk : ∀ (H1 : Heap) (locs1 : List Loc), cw D y A (sI z 20 i v) H1 → va_S A H0 H1 locs1 → W p l e R s m args below meth c H1 locs1 cells slots Q (F0 m (pc + 3) ls rest)) : W p l e R s m args below meth c H locs cells slots Q (F0 m pc ls (.int v :: .ref q :: rest)) := by
  subst hq
  exact gw_putN (ci := 3) (C := RX3) (T := TX3) (Nf := 15) hx hb hts hin tyX3 tyX3_ok nmX3 hown hK hW hS (k := 3) hi (fs := [.int (cI z 12 i), .int (cI z 13 i), .int (cI z 14 i), .int (cI z 15 i), .long (cJ z 0 i), .int (cI z 16 i), .int (cI z 17 i), .int (cI z 18 i), .int (cI z 19 i), .int (cI z 20 i), .int (cI z 21 i), .int (cI z 22 i), va_rf ((cR z 3 i).map (cA z 5)), .int (cI z 23 i), .int (cI z 24 i)]) rfl rfl 9 (by decide) hlink (fun _ h9 => h9) rfl (ty := .boolean) (by decide +kernel) hz hz2 (Nat.le_of_ble_eq_true rfl) hdg (cell' := cC y (sI z 20 i v)) (cp_Request_accepting y z i v) (fun k' i' _ h => co_Request_accepting y z i v k' i' h) (fun H1 locs1 h1 h2 => kk H1 locs1 h1 h2)
theorem g_Request_answered (hx : p.tables.exec = Jvm.exec) (hb : c.code = cc) (hts : ∀ w ∈ Ts, w.before args s = true) (hin : ∀ w ∈ wsX30, w ∈ Ts) (hown : s.vm.findClass own = some m.cls) (hK : va_K D vwCl (ctys y) s) (hW : cw D y A z H) {q : Nat} (hq : q = cA z 3 i) (hi : i < cNr z) (hlink : (Cond.fieldLink own index "SharedRegisters$Request" "answered" "I").before args s = true) (hdg : decode cc pc = .ok (.getfield index, 3)) (kk : W p l e R s m args below meth c H locs cells slots Q (F0 m (pc + 3) ls (.int (cI z 21 i) :: rest))) : W p l e R s m args below meth c H locs cells slots Q (F0 m pc ls (.ref q :: rest)) := by
  subst hq
  exact gw_get (ci := 3) (C := RX3) (T := TX3) (Nf := 15) hx hb hts hin hown hK hW (k := 3) hi (fs := [.int (cI z 12 i), .int (cI z 13 i), .int (cI z 14 i), .int (cI z 15 i), .long (cJ z 0 i), .int (cI z 16 i), .int (cI z 17 i), .int (cI z 18 i), .int (cI z 19 i), .int (cI z 20 i), .int (cI z 21 i), .int (cI z 22 i), va_rf ((cR z 3 i).map (cA z 5)), .int (cI z 23 i), .int (cI z 24 i)]) rfl rfl 10 (by decide) hlink (fun _ h9 => h9) rfl hdg kk
theorem p_Request_answered (hx : p.tables.exec = Jvm.exec) (hb : c.code = cc) (hts : ∀ w ∈ Ts, w.before args s = true) (hin : ∀ w ∈ wsX30, w ∈ Ts) (hown : s.vm.findClass own = some m.cls) (hK : va_K D vwCl (ctys y) s) (hW : cw D y A z H) (hS : va_S A H0 H locs) {q : Nat} (hq : q = cA z 3 i) (hi : i < cNr z) {v : Int32} (hlink : (Cond.fieldLink own index "SharedRegisters$Request" "answered" "I").before args s = true) (hdg : decode cc pc = .ok (.putfield index, 3)) (kk : ∀ (H1 : Heap) (locs1 : List Loc), cw D y A (sI z 21 i v) H1 → va_S A H0 H1 locs1 → W p l e R s m args below meth c H1 locs1 cells slots Q (F0 m (pc + 3) ls rest)) : W p l e R s m args below meth c H locs cells slots Q (F0 m pc ls (.int v :: .ref q :: rest)) := by
  subst hq
  exact gw_put (ci := 3) (C := RX3) (T := TX3) (Nf := 15) hx hb hts hin tyX3 tyX3_ok nmX3 hown hK hW hS (k := 3) hi (fs := [.int (cI z 12 i), .int (cI z 13 i), .int (cI z 14 i), .int (cI z 15 i), .long (cJ z 0 i), .int (cI z 16 i), .int (cI z 17 i), .int (cI z 18 i), .int (cI z 19 i), .int (cI z 20 i), .int (cI z 21 i), .int (cI z 22 i), va_rf ((cR z 3 i).map (cA z 5)), .int (cI z 23 i), .int (cI z 24 i)]) rfl rfl 10 (by decide) hlink (fun _ h9 => h9) rfl (ty := .int) (by decide +kernel) rfl rfl (Nat.le_of_ble_eq_true rfl) hdg (cell' := cC y (sI z 21 i v)) (cp_Request_answered y z i v) (fun k' i' _ h => co_Request_answered y z i v k' i' h) (fun H1 locs1 h1 h2 => kk H1 locs1 h1 h2)
theorem gN_Request_answered (hx : p.tables.exec = Jvm.exec) (hb : c.code = cc) (hts : ∀ w ∈ Ts, w.before args s = true) (hin : ∀ w ∈ wsX30, w ∈ Ts) (hown : s.vm.findClass own = some m.cls) (hK : va_K D vwCl (ctys y) s) (hW : cw D y A z H) {q : Nat} (hq : q = cA z 3 i) (hi : i < cNr z) (hlink : va_Nw (.fieldLinkNest own index "SharedRegisters$Request" "answered" "I" "SharedRegisters") s) (hdg : decode cc pc = .ok (.getfield index, 3)) (kk : W p l e R s m args below meth c H locs cells slots Q (F0 m (pc + 3) ls (.int (cI z 21 i) :: rest))) : W p l e R s m args below meth c H locs cells slots Q (F0 m pc ls (.ref q :: rest)) := by
  subst hq
  exact gw_getN (ci := 3) (C := RX3) (T := TX3) (Nf := 15) hx hb hts hin hown hK hW (k := 3) hi (fs := [.int (cI z 12 i), .int (cI z 13 i), .int (cI z 14 i), .int (cI z 15 i), .long (cJ z 0 i), .int (cI z 16 i), .int (cI z 17 i), .int (cI z 18 i), .int (cI z 19 i), .int (cI z 20 i), .int (cI z 21 i), .int (cI z 22 i), va_rf ((cR z 3 i).map (cA z 5)), .int (cI z 23 i), .int (cI z 24 i)]) rfl rfl 10 (by decide) hlink (fun _ h9 => h9) rfl hdg kk
theorem pN_Request_answered (hx : p.tables.exec = Jvm.exec) (hb : c.code = cc) (hts : ∀ w ∈ Ts, w.before args s = true) (hin : ∀ w ∈ wsX30, w ∈ Ts) (hown : s.vm.findClass own = some m.cls) (hK : va_K D vwCl (ctys y) s) (hW : cw D y A z H) (hS : va_S A H0 H locs) {q : Nat} (hq : q = cA z 3 i) (hi : i < cNr z) {v : Int32} (hlink : va_Nw (.fieldLinkNest own index "SharedRegisters$Request" "answered" "I" "SharedRegisters") s) (hdg : decode cc pc = .ok (.putfield index, 3)) (kk : ∀ (H1 : Heap) (locs1 : List Loc), cw D y A (sI z 21 i v) H1 → va_S A H0 H1 locs1 → W p l e R s m args below meth c H1 locs1 cells slots Q (F0 m (pc + 3) ls rest)) : W p l e R s m args below meth c H locs cells slots Q (F0 m pc ls (.int v :: .ref q :: rest)) := by
  subst hq
  exact gw_putN (ci := 3) (C := RX3) (T := TX3) (Nf := 15) hx hb hts hin tyX3 tyX3_ok nmX3 hown hK hW hS (k := 3) hi (fs := [.int (cI z 12 i), .int (cI z 13 i), .int (cI z 14 i), .int (cI z 15 i), .long (cJ z 0 i), .int (cI z 16 i), .int (cI z 17 i), .int (cI z 18 i), .int (cI z 19 i), .int (cI z 20 i), .int (cI z 21 i), .int (cI z 22 i), va_rf ((cR z 3 i).map (cA z 5)), .int (cI z 23 i), .int (cI z 24 i)]) rfl rfl 10 (by decide) hlink (fun _ h9 => h9) rfl (ty := .int) (by decide +kernel) rfl rfl (Nat.le_of_ble_eq_true rfl) hdg (cell' := cC y (sI z 21 i v)) (cp_Request_answered y z i v) (fun k' i' _ h => co_Request_answered y z i v k' i' h) (fun H1 locs1 h1 h2 => kk H1 locs1 h1 h2)
theorem g_Request_toldBallot (hx : p.tables.exec = Jvm.exec) (hb : c.code = cc) (hts : ∀ w ∈ Ts, w.before args s = true) (hin : ∀ w ∈ wsX30, w ∈ Ts) (hown : s.vm.findClass own = some m.cls) (hK : va_K D vwCl (ctys y) s) (hW : cw D y A z H) {q : Nat} (hq : q = cA z 3 i) (hi : i < cNr z) (hlink : (Cond.fieldLink own index "SharedRegisters$Request" "toldBallot" "I").before args s = true) (hdg : decode cc pc = .ok (.getfield index, 3)) (kk : W p l e R s m args below meth c H locs cells slots Q (F0 m (pc + 3) ls (.int (cI z 22 i) :: rest))) : W p l e R s m args below meth c H locs cells slots Q (F0 m pc ls (.ref q :: rest)) := by
  subst hq
  exact gw_get (ci := 3) (C := RX3) (T := TX3) (Nf := 15) hx hb hts hin hown hK hW (k := 3) hi (fs := [.int (cI z 12 i), .int (cI z 13 i), .int (cI z 14 i), .int (cI z 15 i), .long (cJ z 0 i), .int (cI z 16 i), .int (cI z 17 i), .int (cI z 18 i), .int (cI z 19 i), .int (cI z 20 i), .int (cI z 21 i), .int (cI z 22 i), va_rf ((cR z 3 i).map (cA z 5)), .int (cI z 23 i), .int (cI z 24 i)]) rfl rfl 11 (by decide) hlink (fun _ h9 => h9) rfl hdg kk
theorem p_Request_toldBallot (hx : p.tables.exec = Jvm.exec) (hb : c.code = cc) (hts : ∀ w ∈ Ts, w.before args s = true) (hin : ∀ w ∈ wsX30, w ∈ Ts) (hown : s.vm.findClass own = some m.cls) (hK : va_K D vwCl (ctys y) s) (hW : cw D y A z H) (hS : va_S A H0 H locs) {q : Nat} (hq : q = cA z 3 i) (hi : i < cNr z) {v : Int32} (hlink : (Cond.fieldLink own index "SharedRegisters$Request" "toldBallot" "I").before args s = true) (hdg : decode cc pc = .ok (.putfield index, 3)) (kk : ∀ (H1 : Heap) (locs1 : List Loc), cw D y A (sI z 22 i v) H1 → va_S A H0 H1 locs1 → W p l e R s m args below meth c H1 locs1 cells slots Q (F0 m (pc + 3) ls rest)) : W p l e R s m args below meth c H locs cells slots Q (F0 m pc ls (.int v :: .ref q :: rest)) := by
  subst hq
  exact gw_put (ci := 3) (C := RX3) (T := TX3) (Nf := 15) hx hb hts hin tyX3 tyX3_ok nmX3 hown hK hW hS (k := 3) hi (fs := [.int (cI z 12 i), .int (cI z 13 i), .int (cI z 14 i), .int (cI z 15 i), .long (cJ z 0 i), .int (cI z 16 i), .int (cI z 17 i), .int (cI z 18 i), .int (cI z 19 i), .int (cI z 20 i), .int (cI z 21 i), .int (cI z 22 i), va_rf ((cR z 3 i).map (cA z 5)), .int (cI z 23 i), .int (cI z 24 i)]) rfl rfl 11 (by decide) hlink (fun _ h9 => h9) rfl (ty := .int) (by decide +kernel) rfl rfl (Nat.le_of_ble_eq_true rfl) hdg (cell' := cC y (sI z 22 i v)) (cp_Request_toldBallot y z i v) (fun k' i' _ h => co_Request_toldBallot y z i v k' i' h) (fun H1 locs1 h1 h2 => kk H1 locs1 h1 h2)
theorem gN_Request_toldBallot (hx : p.tables.exec = Jvm.exec) (hb : c.code = cc) (hts : ∀ w ∈ Ts, w.before args s = true) (hin : ∀ w ∈ wsX30, w ∈ Ts) (hown : s.vm.findClass own = some m.cls) (hK : va_K D vwCl (ctys y) s) (hW : cw D y A z H) {q : Nat} (hq : q = cA z 3 i) (hi : i < cNr z) (hlink : va_Nw (.fieldLinkNest own index "SharedRegisters$Request" "toldBallot" "I" "SharedRegisters") s) (hdg : decode cc pc = .ok (.getfield index, 3)) (kk : W p l e R s m args below meth c H locs cells slots Q (F0 m (pc + 3) ls (.int (cI z 22 i) :: rest))) : W p l e R s m args below meth c H locs cells slots Q (F0 m pc ls (.ref q :: rest)) := by
  subst hq
  exact gw_getN (ci := 3) (C := RX3) (T := TX3) (Nf := 15) hx hb hts hin hown hK hW (k := 3) hi (fs := [.int (cI z 12 i), .int (cI z 13 i), .int (cI z 14 i), .int (cI z 15 i), .long (cJ z 0 i), .int (cI z 16 i), .int (cI z 17 i), .int (cI z 18 i), .int (cI z 19 i), .int (cI z 20 i), .int (cI z 21 i), .int (cI z 22 i), va_rf ((cR z 3 i).map (cA z 5)), .int (cI z 23 i), .int (cI z 24 i)]) rfl rfl 11 (by decide) hlink (fun _ h9 => h9) rfl hdg kk
theorem pN_Request_toldBallot (hx : p.tables.exec = Jvm.exec) (hb : c.code = cc) (hts : ∀ w ∈ Ts, w.before args s = true) (hin : ∀ w ∈ wsX30, w ∈ Ts) (hown : s.vm.findClass own = some m.cls) (hK : va_K D vwCl (ctys y) s) (hW : cw D y A z H) (hS : va_S A H0 H locs) {q : Nat} (hq : q = cA z 3 i) (hi : i < cNr z) {v : Int32} (hlink : va_Nw (.fieldLinkNest own index "SharedRegisters$Request" "toldBallot" "I" "SharedRegisters") s) (hdg : decode cc pc = .ok (.putfield index, 3)) (kk : ∀ (H1 : Heap) (locs1 : List Loc), cw D y A (sI z 22 i v) H1 → va_S A H0 H1 locs1 → W p l e R s m args below meth c H1 locs1 cells slots Q (F0 m (pc + 3) ls rest)) : W p l e R s m args below meth c H locs cells slots Q (F0 m pc ls (.int v :: .ref q :: rest)) := by
  subst hq
  exact gw_putN (ci := 3) (C := RX3) (T := TX3) (Nf := 15) hx hb hts hin tyX3 tyX3_ok nmX3 hown hK hW hS (k := 3) hi (fs := [.int (cI z 12 i), .int (cI z 13 i), .int (cI z 14 i), .int (cI z 15 i), .long (cJ z 0 i), .int (cI z 16 i), .int (cI z 17 i), .int (cI z 18 i), .int (cI z 19 i), .int (cI z 20 i), .int (cI z 21 i), .int (cI z 22 i), va_rf ((cR z 3 i).map (cA z 5)), .int (cI z 23 i), .int (cI z 24 i)]) rfl rfl 11 (by decide) hlink (fun _ h9 => h9) rfl (ty := .int) (by decide +kernel) rfl rfl (Nat.le_of_ble_eq_true rfl) hdg (cell' := cC y (sI z 22 i v)) (cp_Request_toldBallot y z i v) (fun k' i' _ h => co_Request_toldBallot y z i v k' i' h) (fun H1 locs1 h1 h2 => kk H1 locs1 h1 h2)
theorem g_Request_state (hx : p.tables.exec = Jvm.exec) (hb : c.code = cc) (hts : ∀ w ∈ Ts, w.before args s = true) (hin : ∀ w ∈ wsX30, w ∈ Ts) (hown : s.vm.findClass own = some m.cls) (hK : va_K D vwCl (ctys y) s) (hW : cw D y A z H) {q : Nat} (hq : q = cA z 3 i) (hi : i < cNr z) (hlink : (Cond.fieldLink own index "SharedRegisters$Request" "state" "LSharedRegisters$State;").before args s = true) (hdg : decode cc pc = .ok (.getfield index, 3)) (kk : W p l e R s m args below meth c H locs cells slots Q (F0 m (pc + 3) ls (va_rf ((cR z 3 i).map (cA z 5)) :: rest))) : W p l e R s m args below meth c H locs cells slots Q (F0 m pc ls (.ref q :: rest)) := by
  subst hq
  exact gw_get (ci := 3) (C := RX3) (T := TX3) (Nf := 15) hx hb hts hin hown hK hW (k := 3) hi (fs := [.int (cI z 12 i), .int (cI z 13 i), .int (cI z 14 i), .int (cI z 15 i), .long (cJ z 0 i), .int (cI z 16 i), .int (cI z 17 i), .int (cI z 18 i), .int (cI z 19 i), .int (cI z 20 i), .int (cI z 21 i), .int (cI z 22 i), va_rf ((cR z 3 i).map (cA z 5)), .int (cI z 23 i), .int (cI z 24 i)]) rfl rfl 12 (by decide) hlink (fun _ h9 => h9) rfl hdg kk
theorem g_Request_state_s (hx : p.tables.exec = Jvm.exec) (hb : c.code = cc) (hts : ∀ w ∈ Ts, w.before args s = true) (hin : ∀ w ∈ wsX30, w ∈ Ts) (hown : s.vm.findClass own = some m.cls) (hK : va_K D vwCl (ctys y) s) (hW : cw D y A z H) {q st : Nat} (hq : q = cA z 3 i) (hst : cR z 3 i = some st) (hi : i < cNr z) (hlink : (Cond.fieldLink own index "SharedRegisters$Request" "state" "LSharedRegisters$State;").before args s = true) (hdg : decode cc pc = .ok (.getfield index, 3)) (kk : W p l e R s m args below meth c H locs cells slots Q (F0 m (pc + 3) ls (.ref (cA z 5 st) :: rest))) : W p l e R s m args below meth c H locs cells slots Q (F0 m pc ls (.ref q :: rest)) := by
  refine g_Request_state hx hb hts hin hown hK hW hq hi hlink hdg ?_
  rw [hst]; exact kk
theorem g_Request_state_n (hx : p.tables.exec = Jvm.exec) (hb : c.code = cc) (hts : ∀ w ∈ Ts, w.before args s = true) (hin : ∀ w ∈ wsX30, w ∈ Ts) (hown : s.vm.findClass own = some m.cls) (hK : va_K D vwCl (ctys y) s) (hW : cw D y A z H) {q : Nat} (hq : q = cA z 3 i) (hst : cR z 3 i = none) (hi : i < cNr z) (hlink : (Cond.fieldLink own index "SharedRegisters$Request" "state" "LSharedRegisters$State;").before args s = true) (hdg : decode cc pc = .ok (.getfield index, 3)) (kk : W p l e R s m args below meth c H locs cells slots Q (F0 m (pc + 3) ls (.null :: rest))) : W p l e R s m args below meth c H locs cells slots Q (F0 m pc ls (.ref q :: rest)) := by
  refine g_Request_state hx hb hts hin hown hK hW hq hi hlink hdg ?_
  rw [hst]; exact kk
theorem p_Request_state (hx : p.tables.exec = Jvm.exec) (hb : c.code = cc) (hts : ∀ w ∈ Ts, w.before args s = true) (hin : ∀ w ∈ wsX30, w ∈ Ts) (hown : s.vm.findClass own = some m.cls) (hK : va_K D vwCl (ctys y) s) (hW : cw D y A z H) (hS : va_S A H0 H locs) {q : Nat} (hq : q = cA z 3 i) (hi : i < cNr z) {v : Option Nat} {vv : Value} (hv : vv = va_rf (v.map (cA z 5))) (hlink : (Cond.fieldLink own index "SharedRegisters$Request" "state" "LSharedRegisters$State;").before args s = true) (hdg : decode cc pc = .ok (.putfield index, 3)) (kk : ∀ (H1 : Heap) (locs1 : List Loc), cw D y A (sR z 3 i v) H1 → va_S A H0 H1 locs1 → W p l e R s m args below meth c H1 locs1 cells slots Q (F0 m (pc + 3) ls rest)) : W p l e R s m args below meth c H locs cells slots Q (F0 m pc ls (vv :: .ref q :: rest)) := by
  subst hq
  subst hv
  exact gw_put (ci := 3) (C := RX3) (T := TX3) (Nf := 15) hx hb hts hin tyX3 tyX3_ok nmX3 hown hK hW hS (k := 3) hi (fs := [.int (cI z 12 i), .int (cI z 13 i), .int (cI z 14 i), .int (cI z 15 i), .long (cJ z 0 i), .int (cI z 16 i), .int (cI z 17 i), .int (cI z 18 i), .int (cI z 19 i), .int (cI z 20 i), .int (cI z 21 i), .int (cI z 22 i), va_rf ((cR z 3 i).map (cA z 5)), .int (cI z 23 i), .int (cI z 24 i)]) rfl rfl 12 (by decide) hlink (fun _ h9 => h9) rfl (ty := .object "SharedRegisters$State") (by decide +kernel) (by cases v <;> rfl) (by cases v <;> rfl) (Nat.le_of_ble_eq_true rfl) hdg (cell' := cC y (sR z 3 i v)) (cp_Request_state y z i v) (fun k' i' _ h => co_Request_state y z i v k' i' h) (fun H1 locs1 h1 h2 => kk H1 locs1 h1 h2)
theorem gN_Request_state (hx : p.tables.exec = Jvm.exec) (hb : c.code = cc) (hts : ∀ w ∈ Ts, w.before args s = true) (hin : ∀ w ∈ wsX30, w ∈ Ts) (hown : s.vm.findClass own = some m.cls) (hK : va_K D vwCl (ctys y) s) (hW : cw D y A z H) {q : Nat} (hq : q = cA z 3 i) (hi : i < cNr z) (hlink : va_Nw (.fieldLinkNest own index "SharedRegisters$Request" "state" "LSharedRegisters$State;" "SharedRegisters") s) (hdg : decode cc pc = .ok (.getfield index, 3)) (kk : W p l e R s m args below meth c H locs cells slots Q (F0 m (pc + 3) ls (va_rf ((cR z 3 i).map (cA z 5)) :: rest))) : W p l e R s m args below meth c H locs cells slots Q (F0 m pc ls (.ref q :: rest)) := by
  subst hq
  exact gw_getN (ci := 3) (C := RX3) (T := TX3) (Nf := 15) hx hb hts hin hown hK hW (k := 3) hi (fs := [.int (cI z 12 i), .int (cI z 13 i), .int (cI z 14 i), .int (cI z 15 i), .long (cJ z 0 i), .int (cI z 16 i), .int (cI z 17 i), .int (cI z 18 i), .int (cI z 19 i), .int (cI z 20 i), .int (cI z 21 i), .int (cI z 22 i), va_rf ((cR z 3 i).map (cA z 5)), .int (cI z 23 i), .int (cI z 24 i)]) rfl rfl 12 (by decide) hlink (fun _ h9 => h9) rfl hdg kk
theorem gN_Request_state_s (hx : p.tables.exec = Jvm.exec) (hb : c.code = cc) (hts : ∀ w ∈ Ts, w.before args s = true) (hin : ∀ w ∈ wsX30, w ∈ Ts) (hown : s.vm.findClass own = some m.cls) (hK : va_K D vwCl (ctys y) s) (hW : cw D y A z H) {q st : Nat} (hq : q = cA z 3 i) (hst : cR z 3 i = some st) (hi : i < cNr z) (hlink : va_Nw (.fieldLinkNest own index "SharedRegisters$Request" "state" "LSharedRegisters$State;" "SharedRegisters") s) (hdg : decode cc pc = .ok (.getfield index, 3)) (kk : W p l e R s m args below meth c H locs cells slots Q (F0 m (pc + 3) ls (.ref (cA z 5 st) :: rest))) : W p l e R s m args below meth c H locs cells slots Q (F0 m pc ls (.ref q :: rest)) := by
  refine gN_Request_state hx hb hts hin hown hK hW hq hi hlink hdg ?_
  rw [hst]; exact kk
theorem gN_Request_state_n (hx : p.tables.exec = Jvm.exec) (hb : c.code = cc) (hts : ∀ w ∈ Ts, w.before args s = true) (hin : ∀ w ∈ wsX30, w ∈ Ts) (hown : s.vm.findClass own = some m.cls) (hK : va_K D vwCl (ctys y) s) (hW : cw D y A z H) {q : Nat} (hq : q = cA z 3 i) (hst : cR z 3 i = none) (hi : i < cNr z) (hlink : va_Nw (.fieldLinkNest own index "SharedRegisters$Request" "state" "LSharedRegisters$State;" "SharedRegisters") s) (hdg : decode cc pc = .ok (.getfield index, 3)) (kk : W p l e R s m args below meth c H locs cells slots Q (F0 m (pc + 3) ls (.null :: rest))) : W p l e R s m args below meth c H locs cells slots Q (F0 m pc ls (.ref q :: rest)) := by
  refine gN_Request_state hx hb hts hin hown hK hW hq hi hlink hdg ?_
  rw [hst]; exact kk
theorem pN_Request_state (hx : p.tables.exec = Jvm.exec) (hb : c.code = cc) (hts : ∀ w ∈ Ts, w.before args s = true) (hin : ∀ w ∈ wsX30, w ∈ Ts) (hown : s.vm.findClass own = some m.cls) (hK : va_K D vwCl (ctys y) s) (hW : cw D y A z H) (hS : va_S A H0 H locs) {q : Nat} (hq : q = cA z 3 i) (hi : i < cNr z) {v : Option Nat} {vv : Value} (hv : vv = va_rf (v.map (cA z 5))) (hlink : va_Nw (.fieldLinkNest own index "SharedRegisters$Request" "state" "LSharedRegisters$State;" "SharedRegisters") s) (hdg : decode cc pc = .ok (.putfield index, 3)) (kk : ∀ (H1 : Heap) (locs1 : List Loc), cw D y A (sR z 3 i v) H1 → va_S A H0 H1 locs1 → W p l e R s m args below meth c H1 locs1 cells slots Q (F0 m (pc + 3) ls rest)) : W p l e R s m args below meth c H locs cells slots Q (F0 m pc ls (vv :: .ref q :: rest)) := by
  subst hq
  subst hv
  exact gw_putN (ci := 3) (C := RX3) (T := TX3) (Nf := 15) hx hb hts hin tyX3 tyX3_ok nmX3 hown hK hW hS (k := 3) hi (fs := [.int (cI z 12 i), .int (cI z 13 i), .int (cI z 14 i), .int (cI z 15 i), .long (cJ z 0 i), .int (cI z 16 i), .int (cI z 17 i), .int (cI z 18 i), .int (cI z 19 i), .int (cI z 20 i), .int (cI z 21 i), .int (cI z 22 i), va_rf ((cR z 3 i).map (cA z 5)), .int (cI z 23 i), .int (cI z 24 i)]) rfl rfl 12 (by decide) hlink (fun _ h9 => h9) rfl (ty := .object "SharedRegisters$State") (by decide +kernel) (by cases v <;> rfl) (by cases v <;> rfl) (Nat.le_of_ble_eq_true rfl) hdg (cell' := cC y (sR z 3 i v)) (cp_Request_state y z i v) (fun k' i' _ h => co_Request_state y z i v k' i' h) (fun H1 locs1 h1 h2 => kk H1 locs1 h1 h2)
theorem g_Request_failed (hx : p.tables.exec = Jvm.exec) (hb : c.code = cc) (hts : ∀ w ∈ Ts, w.before args s = true) (hin : ∀ w ∈ wsX30, w ∈ Ts) (hown : s.vm.findClass own = some m.cls) (hK : va_K D vwCl (ctys y) s) (hW : cw D y A z H) {q : Nat} (hq : q = cA z 3 i) (hi : i < cNr z) (hlink : (Cond.fieldLink own index "SharedRegisters$Request" "failed" "Z").before args s = true) (hdg : decode cc pc = .ok (.getfield index, 3)) (kk : W p l e R s m args below meth c H locs cells slots Q (F0 m (pc + 3) ls (.int (cI z 23 i) :: rest))) : W p l e R s m args below meth c H locs cells slots Q (F0 m pc ls (.ref q :: rest)) := by
  subst hq
  exact gw_get (ci := 3) (C := RX3) (T := TX3) (Nf := 15) hx hb hts hin hown hK hW (k := 3) hi (fs := [.int (cI z 12 i), .int (cI z 13 i), .int (cI z 14 i), .int (cI z 15 i), .long (cJ z 0 i), .int (cI z 16 i), .int (cI z 17 i), .int (cI z 18 i), .int (cI z 19 i), .int (cI z 20 i), .int (cI z 21 i), .int (cI z 22 i), va_rf ((cR z 3 i).map (cA z 5)), .int (cI z 23 i), .int (cI z 24 i)]) rfl rfl 13 (by decide) hlink (fun _ h9 => h9) rfl hdg kk
theorem p_Request_failed (hx : p.tables.exec = Jvm.exec) (hb : c.code = cc) (hts : ∀ w ∈ Ts, w.before args s = true) (hin : ∀ w ∈ wsX30, w ∈ Ts) (hown : s.vm.findClass own = some m.cls) (hK : va_K D vwCl (ctys y) s) (hW : cw D y A z H) (hS : va_S A H0 H locs) {q : Nat} (hq : q = cA z 3 i) (hi : i < cNr z) {v : Int32} (hz : narrow .boolean (.int v) = .int v) (hz2 : fits .boolean (.int v) = true) (hlink : (Cond.fieldLink own index "SharedRegisters$Request" "failed" "Z").before args s = true) (hdg : decode cc pc = .ok (.putfield index, 3)) (kk : ∀ (H1 : Heap) (locs1 : List Loc), cw D y A (sI z 23 i v) H1 → va_S A H0 H1 locs1 → W p l e R s m args below meth c H1 locs1 cells slots Q (F0 m (pc + 3) ls rest)) : W p l e R s m args below meth c H locs cells slots Q (F0 m pc ls (.int v :: .ref q :: rest)) := by
  subst hq
  exact gw_put (ci := 3) (C := RX3) (T := TX3) (Nf := 15) hx hb hts hin tyX3 tyX3_ok nmX3 hown hK hW hS (k := 3) hi (fs := [.int (cI z 12 i), .int (cI z 13 i), .int (cI z 14 i), .int (cI z 15 i), .long (cJ z 0 i), .int (cI z 16 i), .int (cI z 17 i), .int (cI z 18 i), .int (cI z 19 i), .int (cI z 20 i), .int (cI z 21 i), .int (cI z 22 i), va_rf ((cR z 3 i).map (cA z 5)), .int (cI z 23 i), .int (cI z 24 i)]) rfl rfl 13 (by decide) hlink (fun _ h9 => h9) rfl (ty := .boolean) (by decide +kernel) hz hz2 (Nat.le_of_ble_eq_true rfl) hdg (cell' := cC y (sI z 23 i v)) (cp_Request_failed y z i v) (fun k' i' _ h => co_Request_failed y z i v k' i' h) (fun H1 locs1 h1 h2 => kk H1 locs1 h1 h2)
theorem gN_Request_failed (hx : p.tables.exec = Jvm.exec) (hb : c.code = cc) (hts : ∀ w ∈ Ts, w.before args s = true) (hin : ∀ w ∈ wsX30, w ∈ Ts) (hown : s.vm.findClass own = some m.cls) (hK : va_K D vwCl (ctys y) s) (hW : cw D y A z H) {q : Nat} (hq : q = cA z 3 i) (hi : i < cNr z) (hlink : va_Nw (.fieldLinkNest own index "SharedRegisters$Request" "failed" "Z" "SharedRegisters") s) (hdg : decode cc pc = .ok (.getfield index, 3)) (kk : W p l e R s m args below meth c H locs cells slots Q (F0 m (pc + 3) ls (.int (cI z 23 i) :: rest))) : W p l e R s m args below meth c H locs cells slots Q (F0 m pc ls (.ref q :: rest)) := by
  subst hq
  exact gw_getN (ci := 3) (C := RX3) (T := TX3) (Nf := 15) hx hb hts hin hown hK hW (k := 3) hi (fs := [.int (cI z 12 i), .int (cI z 13 i), .int (cI z 14 i), .int (cI z 15 i), .long (cJ z 0 i), .int (cI z 16 i), .int (cI z 17 i), .int (cI z 18 i), .int (cI z 19 i), .int (cI z 20 i), .int (cI z 21 i), .int (cI z 22 i), va_rf ((cR z 3 i).map (cA z 5)), .int (cI z 23 i), .int (cI z 24 i)]) rfl rfl 13 (by decide) hlink (fun _ h9 => h9) rfl hdg kk
theorem pN_Request_failed (hx : p.tables.exec = Jvm.exec) (hb : c.code = cc) (hts : ∀ w ∈ Ts, w.before args s = true) (hin : ∀ w ∈ wsX30, w ∈ Ts) (hown : s.vm.findClass own = some m.cls) (hK : va_K D vwCl (ctys y) s) (hW : cw D y A z H) (hS : va_S A H0 H locs) {q : Nat} (hq : q = cA z 3 i) (hi : i < cNr z) {v : Int32} (hz : narrow .boolean (.int v) = .int v) (hz2 : fits .boolean (.int v) = true) (hlink : va_Nw (.fieldLinkNest own index "SharedRegisters$Request" "failed" "Z" "SharedRegisters") s) (hdg : decode cc pc = .ok (.putfield index, 3)) (kk : ∀ (H1 : Heap) (locs1 : List Loc), cw D y A (sI z 23 i v) H1 → va_S A H0 H1 locs1 → W p l e R s m args below meth c H1 locs1 cells slots Q (F0 m (pc + 3) ls rest)) : W p l e R s m args below meth c H locs cells slots Q (F0 m pc ls (.int v :: .ref q :: rest)) := by
  subst hq
  exact gw_putN (ci := 3) (C := RX3) (T := TX3) (Nf := 15) hx hb hts hin tyX3 tyX3_ok nmX3 hown hK hW hS (k := 3) hi (fs := [.int (cI z 12 i), .int (cI z 13 i), .int (cI z 14 i), .int (cI z 15 i), .long (cJ z 0 i), .int (cI z 16 i), .int (cI z 17 i), .int (cI z 18 i), .int (cI z 19 i), .int (cI z 20 i), .int (cI z 21 i), .int (cI z 22 i), va_rf ((cR z 3 i).map (cA z 5)), .int (cI z 23 i), .int (cI z 24 i)]) rfl rfl 13 (by decide) hlink (fun _ h9 => h9) rfl (ty := .boolean) (by decide +kernel) hz hz2 (Nat.le_of_ble_eq_true rfl) hdg (cell' := cC y (sI z 23 i v)) (cp_Request_failed y z i v) (fun k' i' _ h => co_Request_failed y z i v k' i' h) (fun H1 locs1 h1 h2 => kk H1 locs1 h1 h2)
theorem g_Request_ending (hx : p.tables.exec = Jvm.exec) (hb : c.code = cc) (hts : ∀ w ∈ Ts, w.before args s = true) (hin : ∀ w ∈ wsX30, w ∈ Ts) (hown : s.vm.findClass own = some m.cls) (hK : va_K D vwCl (ctys y) s) (hW : cw D y A z H) {q : Nat} (hq : q = cA z 3 i) (hi : i < cNr z) (hlink : (Cond.fieldLink own index "SharedRegisters$Request" "ending" "I").before args s = true) (hdg : decode cc pc = .ok (.getfield index, 3)) (kk : W p l e R s m args below meth c H locs cells slots Q (F0 m (pc + 3) ls (.int (cI z 24 i) :: rest))) : W p l e R s m args below meth c H locs cells slots Q (F0 m pc ls (.ref q :: rest)) := by
  subst hq
  exact gw_get (ci := 3) (C := RX3) (T := TX3) (Nf := 15) hx hb hts hin hown hK hW (k := 3) hi (fs := [.int (cI z 12 i), .int (cI z 13 i), .int (cI z 14 i), .int (cI z 15 i), .long (cJ z 0 i), .int (cI z 16 i), .int (cI z 17 i), .int (cI z 18 i), .int (cI z 19 i), .int (cI z 20 i), .int (cI z 21 i), .int (cI z 22 i), va_rf ((cR z 3 i).map (cA z 5)), .int (cI z 23 i), .int (cI z 24 i)]) rfl rfl 14 (by decide) hlink (fun _ h9 => h9) rfl hdg kk
theorem p_Request_ending (hx : p.tables.exec = Jvm.exec) (hb : c.code = cc) (hts : ∀ w ∈ Ts, w.before args s = true) (hin : ∀ w ∈ wsX30, w ∈ Ts) (hown : s.vm.findClass own = some m.cls) (hK : va_K D vwCl (ctys y) s) (hW : cw D y A z H) (hS : va_S A H0 H locs) {q : Nat} (hq : q = cA z 3 i) (hi : i < cNr z) {v : Int32} (hlink : (Cond.fieldLink own index "SharedRegisters$Request" "ending" "I").before args s = true) (hdg : decode cc pc = .ok (.putfield index, 3)) (kk : ∀ (H1 : Heap) (locs1 : List Loc), cw D y A (sI z 24 i v) H1 → va_S A H0 H1 locs1 → W p l e R s m args below meth c H1 locs1 cells slots Q (F0 m (pc + 3) ls rest)) : W p l e R s m args below meth c H locs cells slots Q (F0 m pc ls (.int v :: .ref q :: rest)) := by
  subst hq
  exact gw_put (ci := 3) (C := RX3) (T := TX3) (Nf := 15) hx hb hts hin tyX3 tyX3_ok nmX3 hown hK hW hS (k := 3) hi (fs := [.int (cI z 12 i), .int (cI z 13 i), .int (cI z 14 i), .int (cI z 15 i), .long (cJ z 0 i), .int (cI z 16 i), .int (cI z 17 i), .int (cI z 18 i), .int (cI z 19 i), .int (cI z 20 i), .int (cI z 21 i), .int (cI z 22 i), va_rf ((cR z 3 i).map (cA z 5)), .int (cI z 23 i), .int (cI z 24 i)]) rfl rfl 14 (by decide) hlink (fun _ h9 => h9) rfl (ty := .int) (by decide +kernel) rfl rfl (Nat.le_of_ble_eq_true rfl) hdg (cell' := cC y (sI z 24 i v)) (cp_Request_ending y z i v) (fun k' i' _ h => co_Request_ending y z i v k' i' h) (fun H1 locs1 h1 h2 => kk H1 locs1 h1 h2)
theorem gN_Request_ending (hx : p.tables.exec = Jvm.exec) (hb : c.code = cc) (hts : ∀ w ∈ Ts, w.before args s = true) (hin : ∀ w ∈ wsX30, w ∈ Ts) (hown : s.vm.findClass own = some m.cls) (hK : va_K D vwCl (ctys y) s) (hW : cw D y A z H) {q : Nat} (hq : q = cA z 3 i) (hi : i < cNr z) (hlink : va_Nw (.fieldLinkNest own index "SharedRegisters$Request" "ending" "I" "SharedRegisters") s) (hdg : decode cc pc = .ok (.getfield index, 3)) (kk : W p l e R s m args below meth c H locs cells slots Q (F0 m (pc + 3) ls (.int (cI z 24 i) :: rest))) : W p l e R s m args below meth c H locs cells slots Q (F0 m pc ls (.ref q :: rest)) := by
  subst hq
  exact gw_getN (ci := 3) (C := RX3) (T := TX3) (Nf := 15) hx hb hts hin hown hK hW (k := 3) hi (fs := [.int (cI z 12 i), .int (cI z 13 i), .int (cI z 14 i), .int (cI z 15 i), .long (cJ z 0 i), .int (cI z 16 i), .int (cI z 17 i), .int (cI z 18 i), .int (cI z 19 i), .int (cI z 20 i), .int (cI z 21 i), .int (cI z 22 i), va_rf ((cR z 3 i).map (cA z 5)), .int (cI z 23 i), .int (cI z 24 i)]) rfl rfl 14 (by decide) hlink (fun _ h9 => h9) rfl hdg kk
theorem pN_Request_ending (hx : p.tables.exec = Jvm.exec) (hb : c.code = cc) (hts : ∀ w ∈ Ts, w.before args s = true) (hin : ∀ w ∈ wsX30, w ∈ Ts) (hown : s.vm.findClass own = some m.cls) (hK : va_K D vwCl (ctys y) s) (hW : cw D y A z H) (hS : va_S A H0 H locs) {q : Nat} (hq : q = cA z 3 i) (hi : i < cNr z) {v : Int32} (hlink : va_Nw (.fieldLinkNest own index "SharedRegisters$Request" "ending" "I" "SharedRegisters") s) (hdg : decode cc pc = .ok (.putfield index, 3)) (kk : ∀ (H1 : Heap) (locs1 : List Loc), cw D y A (sI z 24 i v) H1 → va_S A H0 H1 locs1 → W p l e R s m args below meth c H1 locs1 cells slots Q (F0 m (pc + 3) ls rest)) : W p l e R s m args below meth c H locs cells slots Q (F0 m pc ls (.int v :: .ref q :: rest)) := by
  subst hq
  exact gw_putN (ci := 3) (C := RX3) (T := TX3) (Nf := 15) hx hb hts hin tyX3 tyX3_ok nmX3 hown hK hW hS (k := 3) hi (fs := [.int (cI z 12 i), .int (cI z 13 i), .int (cI z 14 i), .int (cI z 15 i), .long (cJ z 0 i), .int (cI z 16 i), .int (cI z 17 i), .int (cI z 18 i), .int (cI z 19 i), .int (cI z 20 i), .int (cI z 21 i), .int (cI z 22 i), va_rf ((cR z 3 i).map (cA z 5)), .int (cI z 23 i), .int (cI z 24 i)]) rfl rfl 14 (by decide) hlink (fun _ h9 => h9) rfl (ty := .int) (by decide +kernel) rfl rfl (Nat.le_of_ble_eq_true rfl) hdg (cell' := cC y (sI z 24 i v)) (cp_Request_ending y z i v) (fun k' i' _ h => co_Request_ending y z i v k' i' h) (fun H1 locs1 h1 h2 => kk H1 locs1 h1 h2)
theorem g_Row_messages (hx : p.tables.exec = Jvm.exec) (hb : c.code = cc) (hts : ∀ w ∈ Ts, w.before args s = true) (hin : ∀ w ∈ wsX40, w ∈ Ts) (hown : s.vm.findClass own = some m.cls) (hK : va_K D vwCl (ctys y) s) (hW : cw D y A z H) {q : Nat} (hq : q = cA z 4 i) (hi : i < 1) (hlink : (Cond.fieldLink own index "SharedRegisters$Row" "messages" "[LSharedRegisters$Message;").before args s = true) (hdg : decode cc pc = .ok (.getfield index, 3)) (kk : W p l e R s m args below meth c H locs cells slots Q (F0 m (pc + 3) ls (.ref (cA z 11 0) :: rest))) : W p l e R s m args below meth c H locs cells slots Q (F0 m pc ls (.ref q :: rest)) := by
  subst hq
  exact gw_get (ci := 4) (C := RX4) (T := TX4) (Nf := 2) hx hb hts hin hown hK hW (k := 4) hi (fs := [.ref (cA z 11 0), .int (cI z 25 i)]) rfl rfl 0 (by decide) hlink (fun _ h9 => h9) rfl hdg kk
theorem gN_Row_messages (hx : p.tables.exec = Jvm.exec) (hb : c.code = cc) (hts : ∀ w ∈ Ts, w.before args s = true) (hin : ∀ w ∈ wsX40, w ∈ Ts) (hown : s.vm.findClass own = some m.cls) (hK : va_K D vwCl (ctys y) s) (hW : cw D y A z H) {q : Nat} (hq : q = cA z 4 i) (hi : i < 1) (hlink : va_Nw (.fieldLinkNest own index "SharedRegisters$Row" "messages" "[LSharedRegisters$Message;" "SharedRegisters") s) (hdg : decode cc pc = .ok (.getfield index, 3)) (kk : W p l e R s m args below meth c H locs cells slots Q (F0 m (pc + 3) ls (.ref (cA z 11 0) :: rest))) : W p l e R s m args below meth c H locs cells slots Q (F0 m pc ls (.ref q :: rest)) := by
  subst hq
  exact gw_getN (ci := 4) (C := RX4) (T := TX4) (Nf := 2) hx hb hts hin hown hK hW (k := 4) hi (fs := [.ref (cA z 11 0), .int (cI z 25 i)]) rfl rfl 0 (by decide) hlink (fun _ h9 => h9) rfl hdg kk
theorem g_Row_size (hx : p.tables.exec = Jvm.exec) (hb : c.code = cc) (hts : ∀ w ∈ Ts, w.before args s = true) (hin : ∀ w ∈ wsX40, w ∈ Ts) (hown : s.vm.findClass own = some m.cls) (hK : va_K D vwCl (ctys y) s) (hW : cw D y A z H) {q : Nat} (hq : q = cA z 4 i) (hi : i < 1) (hlink : (Cond.fieldLink own index "SharedRegisters$Row" "size" "I").before args s = true) (hdg : decode cc pc = .ok (.getfield index, 3)) (kk : W p l e R s m args below meth c H locs cells slots Q (F0 m (pc + 3) ls (.int (cI z 25 i) :: rest))) : W p l e R s m args below meth c H locs cells slots Q (F0 m pc ls (.ref q :: rest)) := by
  subst hq
  exact gw_get (ci := 4) (C := RX4) (T := TX4) (Nf := 2) hx hb hts hin hown hK hW (k := 4) hi (fs := [.ref (cA z 11 0), .int (cI z 25 i)]) rfl rfl 1 (by decide) hlink (fun _ h9 => h9) rfl hdg kk
theorem p_Row_size (hx : p.tables.exec = Jvm.exec) (hb : c.code = cc) (hts : ∀ w ∈ Ts, w.before args s = true) (hin : ∀ w ∈ wsX40, w ∈ Ts) (hown : s.vm.findClass own = some m.cls) (hK : va_K D vwCl (ctys y) s) (hW : cw D y A z H) (hS : va_S A H0 H locs) {q : Nat} (hq : q = cA z 4 i) (hi : i < 1) {v : Int32} (hlink : (Cond.fieldLink own index "SharedRegisters$Row" "size" "I").before args s = true) (hdg : decode cc pc = .ok (.putfield index, 3)) (kk : ∀ (H1 : Heap) (locs1 : List Loc), cw D y A (sI z 25 i v) H1 → va_S A H0 H1 locs1 → W p l e R s m args below meth c H1 locs1 cells slots Q (F0 m (pc + 3) ls rest)) : W p l e R s m args below meth c H locs cells slots Q (F0 m pc ls (.int v :: .ref q :: rest)) := by
  subst hq
  exact gw_put (ci := 4) (C := RX4) (T := TX4) (Nf := 2) hx hb hts hin tyX4 tyX4_ok nmX4 hown hK hW hS (k := 4) hi (fs := [.ref (cA z 11 0), .int (cI z 25 i)]) rfl rfl 1 (by decide) hlink (fun _ h9 => h9) rfl (ty := .int) (by decide +kernel) rfl rfl (Nat.le_of_ble_eq_true rfl) hdg (cell' := cC y (sI z 25 i v)) (cp_Row_size y z i v) (fun k' i' _ h => co_Row_size y z i v k' i' h) (fun H1 locs1 h1 h2 => kk H1 locs1 h1 h2)
theorem gN_Row_size (hx : p.tables.exec = Jvm.exec) (hb : c.code = cc) (hts : ∀ w ∈ Ts, w.before args s = true) (hin : ∀ w ∈ wsX40, w ∈ Ts) (hown : s.vm.findClass own = some m.cls) (hK : va_K D vwCl (ctys y) s) (hW : cw D y A z H) {q : Nat} (hq : q = cA z 4 i) (hi : i < 1) (hlink : va_Nw (.fieldLinkNest own index "SharedRegisters$Row" "size" "I" "SharedRegisters") s) (hdg : decode cc pc = .ok (.getfield index, 3)) (kk : W p l e R s m args below meth c H locs cells slots Q (F0 m (pc + 3) ls (.int (cI z 25 i) :: rest))) : W p l e R s m args below meth c H locs cells slots Q (F0 m pc ls (.ref q :: rest)) := by
  subst hq
  exact gw_getN (ci := 4) (C := RX4) (T := TX4) (Nf := 2) hx hb hts hin hown hK hW (k := 4) hi (fs := [.ref (cA z 11 0), .int (cI z 25 i)]) rfl rfl 1 (by decide) hlink (fun _ h9 => h9) rfl hdg kk
theorem pN_Row_size (hx : p.tables.exec = Jvm.exec) (hb : c.code = cc) (hts : ∀ w ∈ Ts, w.before args s = true) (hin : ∀ w ∈ wsX40, w ∈ Ts) (hown : s.vm.findClass own = some m.cls) (hK : va_K D vwCl (ctys y) s) (hW : cw D y A z H) (hS : va_S A H0 H locs) {q : Nat} (hq : q = cA z 4 i) (hi : i < 1) {v : Int32} (hlink : va_Nw (.fieldLinkNest own index "SharedRegisters$Row" "size" "I" "SharedRegisters") s) (hdg : decode cc pc = .ok (.putfield index, 3)) (kk : ∀ (H1 : Heap) (locs1 : List Loc), cw D y A (sI z 25 i v) H1 → va_S A H0 H1 locs1 → W p l e R s m args below meth c H1 locs1 cells slots Q (F0 m (pc + 3) ls rest)) : W p l e R s m args below meth c H locs cells slots Q (F0 m pc ls (.int v :: .ref q :: rest)) := by
  subst hq
  exact gw_putN (ci := 4) (C := RX4) (T := TX4) (Nf := 2) hx hb hts hin tyX4 tyX4_ok nmX4 hown hK hW hS (k := 4) hi (fs := [.ref (cA z 11 0), .int (cI z 25 i)]) rfl rfl 1 (by decide) hlink (fun _ h9 => h9) rfl (ty := .int) (by decide +kernel) rfl rfl (Nat.le_of_ble_eq_true rfl) hdg (cell' := cC y (sI z 25 i v)) (cp_Row_size y z i v) (fun k' i' _ h => co_Row_size y z i v k' i' h) (fun H1 locs1 h1 h2 => kk H1 locs1 h1 h2)
theorem g_State_present (hx : p.tables.exec = Jvm.exec) (hb : c.code = cc) (hts : ∀ w ∈ Ts, w.before args s = true) (hin : ∀ w ∈ wsX50, w ∈ Ts) (hown : s.vm.findClass own = some m.cls) (hK : va_K D vwCl (ctys y) s) (hW : cw D y A z H) {q : Nat} (hq : q = cA z 5 i) (hi : i < cNs z) (hlink : (Cond.fieldLink own index "SharedRegisters$State" "present" "Z").before args s = true) (hdg : decode cc pc = .ok (.getfield index, 3)) (kk : W p l e R s m args below meth c H locs cells slots Q (F0 m (pc + 3) ls (.int (cI z 26 i) :: rest))) : W p l e R s m args below meth c H locs cells slots Q (F0 m pc ls (.ref q :: rest)) := by
  subst hq
  exact gw_get (ci := 5) (C := RX5) (T := TX5) (Nf := 3) hx hb hts hin hown hK hW (k := 5) hi (fs := [.int (cI z 26 i), .int (cI z 27 i), .long (cJ z 1 i)]) rfl rfl 0 (by decide) hlink (fun _ h9 => h9) rfl hdg kk
theorem pF_State_present (hx : p.tables.exec = Jvm.exec) (hb : c.code = cc) (hts : ∀ w ∈ Ts, w.before args s = true) (hin : ∀ w ∈ wsX50, w ∈ Ts) (hown : s.vm.findClass own = some m.cls) (hK : va_K D vwCl (ctys y) s) (hW : cw D y A z H) (hS : va_S A H0 H locs) (hin2 : meth.name = "<init>") (howr : own = RX5) {q : Nat} (hq : q = cA z 5 i) (hi : i < cNs z) {v : Int32} (hz : narrow .boolean (.int v) = .int v) (hz2 : fits .boolean (.int v) = true) (hlink : (Cond.fieldLink own index "SharedRegisters$State" "present" "Z").before args s = true) (hdg : decode cc pc = .ok (.putfield index, 3)) (kk : ∀ (H1 : Heap) (locs1 : List Loc), cw D y A (sI z 26 i v) H1 → va_S A H0 H1 locs1 → W p l e R s m args below meth c H1 locs1 cells slots Q (F0 m (pc + 3) ls rest)) : W p l e R s m args below meth c H locs cells slots Q (F0 m pc ls (.int v :: .ref q :: rest)) := by
  subst hq
  subst howr
  exact gw_putF (ci := 5) (C := RX5) (T := TX5) (Nf := 3) hx hb hts hin tyX5 tyX5_ok nmX5 hown hK hW hS (k := 5) hi (fs := [.int (cI z 26 i), .int (cI z 27 i), .long (cJ z 1 i)]) rfl rfl 0 (by decide) hlink (fun _ h9 => h9) rfl hin2 rfl (ty := .boolean) (by decide +kernel) hz hz2 (Nat.le_of_ble_eq_true rfl) hdg (cell' := cC y (sI z 26 i v)) (cp_State_present y z i v) (fun k' i' _ h => co_State_present y z i v k' i' h) (fun H1 locs1 h1 h2 => kk H1 locs1 h1 h2)
theorem gN_State_present (hx : p.tables.exec = Jvm.exec) (hb : c.code = cc) (hts : ∀ w ∈ Ts, w.before args s = true) (hin : ∀ w ∈ wsX50, w ∈ Ts) (hown : s.vm.findClass own = some m.cls) (hK : va_K D vwCl (ctys y) s) (hW : cw D y A z H) {q : Nat} (hq : q = cA z 5 i) (hi : i < cNs z) (hlink : va_Nw (.fieldLinkNest own index "SharedRegisters$State" "present" "Z" "SharedRegisters") s) (hdg : decode cc pc = .ok (.getfield index, 3)) (kk : W p l e R s m args below meth c H locs cells slots Q (F0 m (pc + 3) ls (.int (cI z 26 i) :: rest))) : W p l e R s m args below meth c H locs cells slots Q (F0 m pc ls (.ref q :: rest)) := by
  subst hq
  exact gw_getN (ci := 5) (C := RX5) (T := TX5) (Nf := 3) hx hb hts hin hown hK hW (k := 5) hi (fs := [.int (cI z 26 i), .int (cI z 27 i), .long (cJ z 1 i)]) rfl rfl 0 (by decide) hlink (fun _ h9 => h9) rfl hdg kk
theorem g_State_version (hx : p.tables.exec = Jvm.exec) (hb : c.code = cc) (hts : ∀ w ∈ Ts, w.before args s = true) (hin : ∀ w ∈ wsX50, w ∈ Ts) (hown : s.vm.findClass own = some m.cls) (hK : va_K D vwCl (ctys y) s) (hW : cw D y A z H) {q : Nat} (hq : q = cA z 5 i) (hi : i < cNs z) (hlink : (Cond.fieldLink own index "SharedRegisters$State" "version" "I").before args s = true) (hdg : decode cc pc = .ok (.getfield index, 3)) (kk : W p l e R s m args below meth c H locs cells slots Q (F0 m (pc + 3) ls (.int (cI z 27 i) :: rest))) : W p l e R s m args below meth c H locs cells slots Q (F0 m pc ls (.ref q :: rest)) := by
  subst hq
  exact gw_get (ci := 5) (C := RX5) (T := TX5) (Nf := 3) hx hb hts hin hown hK hW (k := 5) hi (fs := [.int (cI z 26 i), .int (cI z 27 i), .long (cJ z 1 i)]) rfl rfl 1 (by decide) hlink (fun _ h9 => h9) rfl hdg kk
theorem pF_State_version (hx : p.tables.exec = Jvm.exec) (hb : c.code = cc) (hts : ∀ w ∈ Ts, w.before args s = true) (hin : ∀ w ∈ wsX50, w ∈ Ts) (hown : s.vm.findClass own = some m.cls) (hK : va_K D vwCl (ctys y) s) (hW : cw D y A z H) (hS : va_S A H0 H locs) (hin2 : meth.name = "<init>") (howr : own = RX5) {q : Nat} (hq : q = cA z 5 i) (hi : i < cNs z) {v : Int32} (hlink : (Cond.fieldLink own index "SharedRegisters$State" "version" "I").before args s = true) (hdg : decode cc pc = .ok (.putfield index, 3)) (kk : ∀ (H1 : Heap) (locs1 : List Loc), cw D y A (sI z 27 i v) H1 → va_S A H0 H1 locs1 → W p l e R s m args below meth c H1 locs1 cells slots Q (F0 m (pc + 3) ls rest)) : W p l e R s m args below meth c H locs cells slots Q (F0 m pc ls (.int v :: .ref q :: rest)) := by
  subst hq
  subst howr
  exact gw_putF (ci := 5) (C := RX5) (T := TX5) (Nf := 3) hx hb hts hin tyX5 tyX5_ok nmX5 hown hK hW hS (k := 5) hi (fs := [.int (cI z 26 i), .int (cI z 27 i), .long (cJ z 1 i)]) rfl rfl 1 (by decide) hlink (fun _ h9 => h9) rfl hin2 rfl (ty := .int) (by decide +kernel) rfl rfl (Nat.le_of_ble_eq_true rfl) hdg (cell' := cC y (sI z 27 i v)) (cp_State_version y z i v) (fun k' i' _ h => co_State_version y z i v k' i' h) (fun H1 locs1 h1 h2 => kk H1 locs1 h1 h2)
theorem gN_State_version (hx : p.tables.exec = Jvm.exec) (hb : c.code = cc) (hts : ∀ w ∈ Ts, w.before args s = true) (hin : ∀ w ∈ wsX50, w ∈ Ts) (hown : s.vm.findClass own = some m.cls) (hK : va_K D vwCl (ctys y) s) (hW : cw D y A z H) {q : Nat} (hq : q = cA z 5 i) (hi : i < cNs z) (hlink : va_Nw (.fieldLinkNest own index "SharedRegisters$State" "version" "I" "SharedRegisters") s) (hdg : decode cc pc = .ok (.getfield index, 3)) (kk : W p l e R s m args below meth c H locs cells slots Q (F0 m (pc + 3) ls (.int (cI z 27 i) :: rest))) : W p l e R s m args below meth c H locs cells slots Q (F0 m pc ls (.ref q :: rest)) := by
  subst hq
  exact gw_getN (ci := 5) (C := RX5) (T := TX5) (Nf := 3) hx hb hts hin hown hK hW (k := 5) hi (fs := [.int (cI z 26 i), .int (cI z 27 i), .long (cJ z 1 i)]) rfl rfl 1 (by decide) hlink (fun _ h9 => h9) rfl hdg kk
theorem g_State_value (hx : p.tables.exec = Jvm.exec) (hb : c.code = cc) (hts : ∀ w ∈ Ts, w.before args s = true) (hin : ∀ w ∈ wsX50, w ∈ Ts) (hown : s.vm.findClass own = some m.cls) (hK : va_K D vwCl (ctys y) s) (hW : cw D y A z H) {q : Nat} (hq : q = cA z 5 i) (hi : i < cNs z) (hlink : (Cond.fieldLink own index "SharedRegisters$State" "value" "J").before args s = true) (hdg : decode cc pc = .ok (.getfield index, 3)) (kk : W p l e R s m args below meth c H locs cells slots Q (F0 m (pc + 3) ls (.long (cJ z 1 i) :: rest))) : W p l e R s m args below meth c H locs cells slots Q (F0 m pc ls (.ref q :: rest)) := by
  subst hq
  exact gw_get (ci := 5) (C := RX5) (T := TX5) (Nf := 3) hx hb hts hin hown hK hW (k := 5) hi (fs := [.int (cI z 26 i), .int (cI z 27 i), .long (cJ z 1 i)]) rfl rfl 2 (by decide) hlink (fun _ h9 => h9) rfl hdg kk
theorem pF_State_value (hx : p.tables.exec = Jvm.exec) (hb : c.code = cc) (hts : ∀ w ∈ Ts, w.before args s = true) (hin : ∀ w ∈ wsX50, w ∈ Ts) (hown : s.vm.findClass own = some m.cls) (hK : va_K D vwCl (ctys y) s) (hW : cw D y A z H) (hS : va_S A H0 H locs) (hin2 : meth.name = "<init>") (howr : own = RX5) {q : Nat} (hq : q = cA z 5 i) (hi : i < cNs z) {v : Int64} (hlink : (Cond.fieldLink own index "SharedRegisters$State" "value" "J").before args s = true) (hdg : decode cc pc = .ok (.putfield index, 3)) (kk : ∀ (H1 : Heap) (locs1 : List Loc), cw D y A (sJ z 1 i v) H1 → va_S A H0 H1 locs1 → W p l e R s m args below meth c H1 locs1 cells slots Q (F0 m (pc + 3) ls rest)) : W p l e R s m args below meth c H locs cells slots Q (F0 m pc ls (.long v :: .ref q :: rest)) := by
  subst hq
  subst howr
  exact gw_putF (ci := 5) (C := RX5) (T := TX5) (Nf := 3) hx hb hts hin tyX5 tyX5_ok nmX5 hown hK hW hS (k := 5) hi (fs := [.int (cI z 26 i), .int (cI z 27 i), .long (cJ z 1 i)]) rfl rfl 2 (by decide) hlink (fun _ h9 => h9) rfl hin2 rfl (ty := .long) (by decide +kernel) rfl rfl (Nat.le_of_ble_eq_true rfl) hdg (cell' := cC y (sJ z 1 i v)) (cp_State_value y z i v) (fun k' i' _ h => co_State_value y z i v k' i' h) (fun H1 locs1 h1 h2 => kk H1 locs1 h1 h2)
theorem gN_State_value (hx : p.tables.exec = Jvm.exec) (hb : c.code = cc) (hts : ∀ w ∈ Ts, w.before args s = true) (hin : ∀ w ∈ wsX50, w ∈ Ts) (hown : s.vm.findClass own = some m.cls) (hK : va_K D vwCl (ctys y) s) (hW : cw D y A z H) {q : Nat} (hq : q = cA z 5 i) (hi : i < cNs z) (hlink : va_Nw (.fieldLinkNest own index "SharedRegisters$State" "value" "J" "SharedRegisters") s) (hdg : decode cc pc = .ok (.getfield index, 3)) (kk : W p l e R s m args below meth c H locs cells slots Q (F0 m (pc + 3) ls (.long (cJ z 1 i) :: rest))) : W p l e R s m args below meth c H locs cells slots Q (F0 m pc ls (.ref q :: rest)) := by
  subst hq
  exact gw_getN (ci := 5) (C := RX5) (T := TX5) (Nf := 3) hx hb hts hin hown hK hW (k := 5) hi (fs := [.int (cI z 26 i), .int (cI z 27 i), .long (cJ z 1 i)]) rfl rfl 2 (by decide) hlink (fun _ h9 => h9) rfl hdg kk
theorem g_SharedRegisters_absent (hx : p.tables.exec = Jvm.exec) (hb : c.code = cc) (hts : ∀ w ∈ Ts, w.before args s = true) (hin : ∀ w ∈ wsX60, w ∈ Ts) (hown : s.vm.findClass own = some m.cls) (hK : va_K D vwCl (ctys y) s) (hW : cw D y A z H) {q : Nat} (hq : q = cA z 6 i) (hi : i < 1) (hlink : (Cond.fieldLink own index "SharedRegisters" "absent" "LSharedRegisters$State;").before args s = true) (hdg : decode cc pc = .ok (.getfield index, 3)) (kk : W p l e R s m args below meth c H locs cells slots Q (F0 m (pc + 3) ls (.ref (cA z 5 0) :: rest))) : W p l e R s m args below meth c H locs cells slots Q (F0 m pc ls (.ref q :: rest)) := by
  subst hq
  exact gw_get (ci := 6) (C := RX6) (T := TX6) (Nf := 7) hx hb hts hin hown hK hW (k := 6) hi (fs := [.ref (cA z 5 0), .ref (cA z 12 0), .ref (cA z 9 0), .ref (cA z 10 0), .ref (cA z 13 0), .ref (cA z 4 0), .int (cI z 28 i)]) rfl rfl 0 (by decide) hlink (fun _ h9 => h9) rfl hdg kk
theorem g_SharedRegisters_registers (hx : p.tables.exec = Jvm.exec) (hb : c.code = cc) (hts : ∀ w ∈ Ts, w.before args s = true) (hin : ∀ w ∈ wsX60, w ∈ Ts) (hown : s.vm.findClass own = some m.cls) (hK : va_K D vwCl (ctys y) s) (hW : cw D y A z H) {q : Nat} (hq : q = cA z 6 i) (hi : i < 1) (hlink : (Cond.fieldLink own index "SharedRegisters" "registers" "[LSharedRegisters$Register;").before args s = true) (hdg : decode cc pc = .ok (.getfield index, 3)) (kk : W p l e R s m args below meth c H locs cells slots Q (F0 m (pc + 3) ls (.ref (cA z 12 0) :: rest))) : W p l e R s m args below meth c H locs cells slots Q (F0 m pc ls (.ref q :: rest)) := by
  subst hq
  exact gw_get (ci := 6) (C := RX6) (T := TX6) (Nf := 7) hx hb hts hin hown hK hW (k := 6) hi (fs := [.ref (cA z 5 0), .ref (cA z 12 0), .ref (cA z 9 0), .ref (cA z 10 0), .ref (cA z 13 0), .ref (cA z 4 0), .int (cI z 28 i)]) rfl rfl 1 (by decide) hlink (fun _ h9 => h9) rfl hdg kk
theorem g_SharedRegisters_isDown (hx : p.tables.exec = Jvm.exec) (hb : c.code = cc) (hts : ∀ w ∈ Ts, w.before args s = true) (hin : ∀ w ∈ wsX60, w ∈ Ts) (hown : s.vm.findClass own = some m.cls) (hK : va_K D vwCl (ctys y) s) (hW : cw D y A z H) {q : Nat} (hq : q = cA z 6 i) (hi : i < 1) (hlink : (Cond.fieldLink own index "SharedRegisters" "isDown" "[Z").before args s = true) (hdg : decode cc pc = .ok (.getfield index, 3)) (kk : W p l e R s m args below meth c H locs cells slots Q (F0 m (pc + 3) ls (.ref (cA z 9 0) :: rest))) : W p l e R s m args below meth c H locs cells slots Q (F0 m pc ls (.ref q :: rest)) := by
  subst hq
  exact gw_get (ci := 6) (C := RX6) (T := TX6) (Nf := 7) hx hb hts hin hown hK hW (k := 6) hi (fs := [.ref (cA z 5 0), .ref (cA z 12 0), .ref (cA z 9 0), .ref (cA z 10 0), .ref (cA z 13 0), .ref (cA z 4 0), .int (cI z 28 i)]) rfl rfl 2 (by decide) hlink (fun _ h9 => h9) rfl hdg kk
theorem g_SharedRegisters_askers (hx : p.tables.exec = Jvm.exec) (hb : c.code = cc) (hts : ∀ w ∈ Ts, w.before args s = true) (hin : ∀ w ∈ wsX60, w ∈ Ts) (hown : s.vm.findClass own = some m.cls) (hK : va_K D vwCl (ctys y) s) (hW : cw D y A z H) {q : Nat} (hq : q = cA z 6 i) (hi : i < 1) (hlink : (Cond.fieldLink own index "SharedRegisters" "askers" "[LSharedRegisters$Asker;").before args s = true) (hdg : decode cc pc = .ok (.getfield index, 3)) (kk : W p l e R s m args below meth c H locs cells slots Q (F0 m (pc + 3) ls (.ref (cA z 10 0) :: rest))) : W p l e R s m args below meth c H locs cells slots Q (F0 m pc ls (.ref q :: rest)) := by
  subst hq
  exact gw_get (ci := 6) (C := RX6) (T := TX6) (Nf := 7) hx hb hts hin hown hK hW (k := 6) hi (fs := [.ref (cA z 5 0), .ref (cA z 12 0), .ref (cA z 9 0), .ref (cA z 10 0), .ref (cA z 13 0), .ref (cA z 4 0), .int (cI z 28 i)]) rfl rfl 3 (by decide) hlink (fun _ h9 => h9) rfl hdg kk
theorem g_SharedRegisters_requests (hx : p.tables.exec = Jvm.exec) (hb : c.code = cc) (hts : ∀ w ∈ Ts, w.before args s = true) (hin : ∀ w ∈ wsX60, w ∈ Ts) (hown : s.vm.findClass own = some m.cls) (hK : va_K D vwCl (ctys y) s) (hW : cw D y A z H) {q : Nat} (hq : q = cA z 6 i) (hi : i < 1) (hlink : (Cond.fieldLink own index "SharedRegisters" "requests" "[LSharedRegisters$Request;").before args s = true) (hdg : decode cc pc = .ok (.getfield index, 3)) (kk : W p l e R s m args below meth c H locs cells slots Q (F0 m (pc + 3) ls (.ref (cA z 13 0) :: rest))) : W p l e R s m args below meth c H locs cells slots Q (F0 m pc ls (.ref q :: rest)) := by
  subst hq
  exact gw_get (ci := 6) (C := RX6) (T := TX6) (Nf := 7) hx hb hts hin hown hK hW (k := 6) hi (fs := [.ref (cA z 5 0), .ref (cA z 12 0), .ref (cA z 9 0), .ref (cA z 10 0), .ref (cA z 13 0), .ref (cA z 4 0), .int (cI z 28 i)]) rfl rfl 4 (by decide) hlink (fun _ h9 => h9) rfl hdg kk
theorem g_SharedRegisters_row (hx : p.tables.exec = Jvm.exec) (hb : c.code = cc) (hts : ∀ w ∈ Ts, w.before args s = true) (hin : ∀ w ∈ wsX60, w ∈ Ts) (hown : s.vm.findClass own = some m.cls) (hK : va_K D vwCl (ctys y) s) (hW : cw D y A z H) {q : Nat} (hq : q = cA z 6 i) (hi : i < 1) (hlink : (Cond.fieldLink own index "SharedRegisters" "row" "LSharedRegisters$Row;").before args s = true) (hdg : decode cc pc = .ok (.getfield index, 3)) (kk : W p l e R s m args below meth c H locs cells slots Q (F0 m (pc + 3) ls (.ref (cA z 4 0) :: rest))) : W p l e R s m args below meth c H locs cells slots Q (F0 m pc ls (.ref q :: rest)) := by
  subst hq
  exact gw_get (ci := 6) (C := RX6) (T := TX6) (Nf := 7) hx hb hts hin hown hK hW (k := 6) hi (fs := [.ref (cA z 5 0), .ref (cA z 12 0), .ref (cA z 9 0), .ref (cA z 10 0), .ref (cA z 13 0), .ref (cA z 4 0), .int (cI z 28 i)]) rfl rfl 5 (by decide) hlink (fun _ h9 => h9) rfl hdg kk
theorem g_SharedRegisters_requestCount (hx : p.tables.exec = Jvm.exec) (hb : c.code = cc) (hts : ∀ w ∈ Ts, w.before args s = true) (hin : ∀ w ∈ wsX60, w ∈ Ts) (hown : s.vm.findClass own = some m.cls) (hK : va_K D vwCl (ctys y) s) (hW : cw D y A z H) {q : Nat} (hq : q = cA z 6 i) (hi : i < 1) (hlink : (Cond.fieldLink own index "SharedRegisters" "requestCount" "I").before args s = true) (hdg : decode cc pc = .ok (.getfield index, 3)) (kk : W p l e R s m args below meth c H locs cells slots Q (F0 m (pc + 3) ls (.int (cI z 28 i) :: rest))) : W p l e R s m args below meth c H locs cells slots Q (F0 m pc ls (.ref q :: rest)) := by
  subst hq
  exact gw_get (ci := 6) (C := RX6) (T := TX6) (Nf := 7) hx hb hts hin hown hK hW (k := 6) hi (fs := [.ref (cA z 5 0), .ref (cA z 12 0), .ref (cA z 9 0), .ref (cA z 10 0), .ref (cA z 13 0), .ref (cA z 4 0), .int (cI z 28 i)]) rfl rfl 6 (by decide) hlink (fun _ h9 => h9) rfl hdg kk
theorem p_SharedRegisters_requestCount (hx : p.tables.exec = Jvm.exec) (hb : c.code = cc) (hts : ∀ w ∈ Ts, w.before args s = true) (hin : ∀ w ∈ wsX60, w ∈ Ts) (hown : s.vm.findClass own = some m.cls) (hK : va_K D vwCl (ctys y) s) (hW : cw D y A z H) (hS : va_S A H0 H locs) {q : Nat} (hq : q = cA z 6 i) (hi : i < 1) {v : Int32} (hlink : (Cond.fieldLink own index "SharedRegisters" "requestCount" "I").before args s = true) (hdg : decode cc pc = .ok (.putfield index, 3)) (kk : ∀ (H1 : Heap) (locs1 : List Loc), cw D y A (sI z 28 i v) H1 → va_S A H0 H1 locs1 → W p l e R s m args below meth c H1 locs1 cells slots Q (F0 m (pc + 3) ls rest)) : W p l e R s m args below meth c H locs cells slots Q (F0 m pc ls (.int v :: .ref q :: rest)) := by
  subst hq
  exact gw_put (ci := 6) (C := RX6) (T := TX6) (Nf := 7) hx hb hts hin tyX6 tyX6_ok nmX6 hown hK hW hS (k := 6) hi (fs := [.ref (cA z 5 0), .ref (cA z 12 0), .ref (cA z 9 0), .ref (cA z 10 0), .ref (cA z 13 0), .ref (cA z 4 0), .int (cI z 28 i)]) rfl rfl 6 (by decide) hlink (fun _ h9 => h9) rfl (ty := .int) (by decide +kernel) rfl rfl (Nat.le_of_ble_eq_true rfl) hdg (cell' := cC y (sI z 28 i v)) (cp_SharedRegisters_requestCount y z i v) (fun k' i' _ h => co_SharedRegisters_requestCount y z i v k' i' h) (fun H1 locs1 h1 h2 => kk H1 locs1 h1 h2)
theorem gl_sets (hx : p.tables.exec = Jvm.exec) (hb : c.code = cc) (hK : va_K D vwCl (ctys y) s) (hW : cw D y A z H) {q : Nat} (hq : q = cA z 7 i) (hi : i < 4) {j : Int32} (hj : vp_in j 2) (hdg : decode cc pc = .ok (.iaload, 1)) (kk : W p l e R s m args below meth c H locs cells slots Q (F0 m (pc + 1) ls (.int (cE z 0 i j.toNatClampNeg) :: rest))) : W p l e R s m args below meth c H locs cells slots Q (F0 m pc ls (.int j :: .ref q :: rest)) := by subst hq; exact gw_iald hx hb hK hW (k := 7) hi 0 rfl rfl hj hdg kk
theorem cpE_sets (y : Nat → ClassId) (z : CS) (i j : Nat) (v : Int32) : cC y (sE z 0 i j v) 7 i = .inl (y 0, 2, .inl (fun q => if q = j then v else cE z 0 i q)) := by
  simp [cC, sE_cE]
theorem coE_sets (y : Nat → ClassId) (z : CS) (i j : Nat) (v : Int32) (k' i' : Nat) (h : ¬ (k' = 7 ∧ i' = i)) : cC y (sE z 0 i j v) k' i' = cC y z k' i' := by
  unfold cC; split <;> simp_all [sE_cI, sE_cA, sE_cJ, sE_cR, sE_cS, sE_cE] <;> (try rfl) <;> (try (funext q; simp_all))
theorem as_sets (hx : p.tables.exec = Jvm.exec) (hb : c.code = cc) (hK : va_K D vwCl (ctys y) s) (hW : cw D y A z H) (hS : va_S A H0 H locs) {q : Nat} (hq : q = cA z 7 i) (hi : i < 4) {j v : Int32} (hj : vp_in j 2) (hdg : decode cc pc = .ok (.iastore, 1)) (kk : ∀ (H1 : Heap) (locs1 : List Loc), cw D y A (sE z 0 i j.toNatClampNeg v) H1 → va_S A H0 H1 locs1 → W p l e R s m args below meth c H1 locs1 cells slots Q (F0 m (pc + 1) ls rest)) : W p l e R s m args below meth c H locs cells slots Q (F0 m pc ls (.int v :: .int j :: .ref q :: rest)) := by
  subst hq
  exact gw_iast hx hb hK hW hS (k := 7) hi 0 rfl rfl hj hdg (cell' := cC y (sE z 0 i j.toNatClampNeg v)) (cpE_sets y z i j.toNatClampNeg v) (fun _ => rfl) (fun k' i' _ h => coE_sets y z i _ v k' i' h) (fun H1 locs1 h1 h2 => kk H1 locs1 h1 h2)
theorem gl_enough (hx : p.tables.exec = Jvm.exec) (hb : c.code = cc) (hK : va_K D vwCl (ctys y) s) (hW : cw D y A z H) {q : Nat} (hq : q = cA z 8 i) (hi : i < 4) {j : Int32} (hj : vp_in j 2) (hdg : decode cc pc = .ok (.iaload, 1)) (kk : W p l e R s m args below meth c H locs cells slots Q (F0 m (pc + 1) ls (.int (cE z 1 i j.toNatClampNeg) :: rest))) : W p l e R s m args below meth c H locs cells slots Q (F0 m pc ls (.int j :: .ref q :: rest)) := by subst hq; exact gw_iald hx hb hK hW (k := 8) hi 0 rfl rfl hj hdg kk
theorem cpE_enough (y : Nat → ClassId) (z : CS) (i j : Nat) (v : Int32) : cC y (sE z 1 i j v) 8 i = .inl (y 0, 2, .inl (fun q => if q = j then v else cE z 1 i q)) := by
  simp [cC, sE_cE]
theorem coE_enough (y : Nat → ClassId) (z : CS) (i j : Nat) (v : Int32) (k' i' : Nat) (h : ¬ (k' = 8 ∧ i' = i)) : cC y (sE z 1 i j v) k' i' = cC y z k' i' := by
  unfold cC; split <;> simp_all [sE_cI, sE_cA, sE_cJ, sE_cR, sE_cS, sE_cE] <;> (try rfl) <;> (try (funext q; simp_all))
theorem as_enough (hx : p.tables.exec = Jvm.exec) (hb : c.code = cc) (hK : va_K D vwCl (ctys y) s) (hW : cw D y A z H) (hS : va_S A H0 H locs) {q : Nat} (hq : q = cA z 8 i) (hi : i < 4) {j v : Int32} (hj : vp_in j 2) (hdg : decode cc pc = .ok (.iastore, 1)) (kk : ∀ (H1 : Heap) (locs1 : List Loc), cw D y A (sE z 1 i j.toNatClampNeg v) H1 → va_S A H0 H1 locs1 → W p l e R s m args below meth c H1 locs1 cells slots Q (F0 m (pc + 1) ls rest)) : W p l e R s m args below meth c H locs cells slots Q (F0 m pc ls (.int v :: .int j :: .ref q :: rest)) := by
  subst hq
  exact gw_iast hx hb hK hW hS (k := 8) hi 0 rfl rfl hj hdg (cell' := cC y (sE z 1 i j.toNatClampNeg v)) (cpE_enough y z i j.toNatClampNeg v) (fun _ => rfl) (fun k' i' _ h => coE_enough y z i _ v k' i' h) (fun H1 locs1 h1 h2 => kk H1 locs1 h1 h2)
theorem al_isDown (hx : p.tables.exec = Jvm.exec) (hb : c.code = cc) (hK : va_K D vwCl (ctys y) s) (hW : cw D y A z H) {q : Nat} (hq : q = cA z 9 0) {j : Int32} (hj : vp_in j 9) (hdg : decode cc pc = .ok (.baload, 1)) (kk : W p l e R s m args below meth c H locs cells slots Q (F0 m (pc + 1) ls (.int (cI z 29 j.toNatClampNeg) :: rest))) : W p l e R s m args below meth c H locs cells slots Q (F0 m pc ls (.int j :: .ref q :: rest)) := by subst hq; exact gw_zald hx hb hK hW (k := 9) (i := 0) Nat.zero_lt_one 2 rfl rfl hj hdg kk
theorem as_isDown (hx : p.tables.exec = Jvm.exec) (hb : c.code = cc) (hK : va_K D vwCl (ctys y) s) (hW : cw D y A z H) (hS : va_S A H0 H locs) {q : Nat} (hq : q = cA z 9 0) {j v : Int32} (hj : vp_in j 9) (hv : vp_nar .boolean v = v) (hdg : decode cc pc = .ok (.bastore, 1)) (kk : ∀ (H1 : Heap) (locs1 : List Loc), cw D y A (sI z 29 j.toNatClampNeg v) H1 → va_S A H0 H1 locs1 → W p l e R s m args below meth c H1 locs1 cells slots Q (F0 m (pc + 1) ls rest)) : W p l e R s m args below meth c H locs cells slots Q (F0 m pc ls (.int v :: .int j :: .ref q :: rest)) := by
  subst hq
  refine gw_zast hx hb hK hW hS (k := 9) (i := 0) Nat.zero_lt_one 2 rfl rfl hj hdg hv (cell' := cC y (sI z 29 j.toNatClampNeg v)) (f' := up2 (cI z) 29 j.toNatClampNeg v 29) rfl (fun q => by simp [up2]) (fun k' i' hi' h => ?_) (fun H1 locs1 h1 h2 => kk H1 locs1 h1 h2)
  have h3 : k' = 9 → False := fun e => by subst e; exact h ⟨rfl, by have : i' < 1 := hi'; omega⟩
  unfold cC; split <;> simp_all [sI_cI, sI_cA, sI_cJ, sI_cR, sI_cS, sI_cE, up2]
theorem al_askers (hx : p.tables.exec = Jvm.exec) (hb : c.code = cc) (hK : va_K D vwCl (ctys y) s) (hW : cw D y A z H) {q : Nat} (hq : q = cA z 10 0) {j : Int32} (hj : vp_in j 4) (hdg : decode cc pc = .ok (.aaload, 1)) (kk : W p l e R s m args below meth c H locs cells slots Q (F0 m (pc + 1) ls (.ref (cA z 0 j.toNatClampNeg) :: rest))) : W p l e R s m args below meth c H locs cells slots Q (F0 m pc ls (.int j :: .ref q :: rest)) := by subst hq; exact gw_aald (C := RX0) hx hb hK hW (k := 10) (i := 0) Nat.zero_lt_one 3 rfl rfl hj hdg kk
theorem al_registers (hx : p.tables.exec = Jvm.exec) (hb : c.code = cc) (hK : va_K D vwCl (ctys y) s) (hW : cw D y A z H) {q : Nat} (hq : q = cA z 12 0) {j : Int32} (hj : vp_in j 36) (hdg : decode cc pc = .ok (.aaload, 1)) (kk : W p l e R s m args below meth c H locs cells slots Q (F0 m (pc + 1) ls (.ref (cA z 2 j.toNatClampNeg) :: rest))) : W p l e R s m args below meth c H locs cells slots Q (F0 m pc ls (.int j :: .ref q :: rest)) := by subst hq; exact gw_aald (C := RX2) hx hb hK hW (k := 12) (i := 0) Nat.zero_lt_one 5 rfl rfl hj hdg kk
theorem al_messages (hx : p.tables.exec = Jvm.exec) (hb : c.code = cc) (hK : va_K D vwCl (ctys y) s) (hW : cw D y A z H) {q : Nat} (hq : q = cA z 11 0) {j : Int32} (hj : vp_in j 301) (hdg : decode cc pc = .ok (.aaload, 1)) (kk : W p l e R s m args below meth c H locs cells slots Q (F0 m (pc + 1) ls (.ref (cA z 1 (cS z 3 j.toNatClampNeg)) :: rest))) : W p l e R s m args below meth c H locs cells slots Q (F0 m pc ls (.int j :: .ref q :: rest)) := by subst hq; exact gw_aald (C := RX1) hx hb hK hW (k := 11) (i := 0) Nat.zero_lt_one 4 rfl rfl hj hdg kk
theorem al_requests (hx : p.tables.exec = Jvm.exec) (hb : c.code = cc) (hK : va_K D vwCl (ctys y) s) (hW : cw D y A z H) {q : Nat} (hq : q = cA z 13 0) {j : Int32} (hj : vp_in j 200) (hdg : decode cc pc = .ok (.aaload, 1)) (kk : W p l e R s m args below meth c H locs cells slots Q (F0 m (pc + 1) ls (va_rf ((cR z 6 j.toNatClampNeg).map (cA z 3)) :: rest))) : W p l e R s m args below meth c H locs cells slots Q (F0 m pc ls (.int j :: .ref q :: rest)) := by subst hq; exact gw_aald (C := RX3) hx hb hK hW (k := 13) (i := 0) Nat.zero_lt_one 6 rfl rfl hj hdg kk
theorem as_messages (hx : p.tables.exec = Jvm.exec) (hb : c.code = cc) (hK : va_K D vwCl (ctys y) s) (hW : cw D y A z H) (hS : va_S A H0 H locs) {q : Nat} (hq : q = cA z 11 0) {j : Int32} {v qv : Nat} (hqv : qv = cA z 1 v) (hv : v < 301) (hj : vp_in j 301) (hdg : decode cc pc = .ok (.aastore, 1)) (kk : ∀ (H1 : Heap) (locs1 : List Loc), cw D y A (sS z 3 j.toNatClampNeg v) H1 → va_S A H0 H1 locs1 → W p l e R s m args below meth c H1 locs1 cells slots Q (F0 m (pc + 1) ls rest)) : W p l e R s m args below meth c H locs cells slots Q (F0 m pc ls (.ref qv :: .int j :: .ref q :: rest)) := by
  subst hq; subst hqv
  refine gw_aast hx hb hK hW hS (k := 11) (i := 0) (kv := 1) (iv := v) Nat.zero_lt_one hv 4 1 rfl rfl rfl rfl hj hdg (cell' := cC y (sS z 3 j.toNatClampNeg v)) (f' := fun q => some (cA z 1 (up2 (cS z) 3 j.toNatClampNeg v 3 q))) rfl (fun q => by by_cases hq : q = j.toNatClampNeg <;> simp [up2, hq]) (fun k' i' hi' h => ?_) (fun H1 locs1 h1 h2 => kk H1 locs1 h1 h2)
  have h3 : k' = 11 → False := fun e => by subst e; exact h ⟨rfl, by have : i' < 1 := hi'; omega⟩
  unfold cC; split <;> simp_all [sS_cI, sS_cA, sS_cJ, sS_cR, sS_cS, sS_cE, up2]
theorem as_requests (hx : p.tables.exec = Jvm.exec) (hb : c.code = cc) (hK : va_K D vwCl (ctys y) s) (hW : cw D y A z H) (hS : va_S A H0 H locs) {q : Nat} (hq : q = cA z 13 0) {j : Int32} {v qv : Nat} (hqv : qv = cA z 3 v) (hv : v < cNr z) (hj : vp_in j 200) (hdg : decode cc pc = .ok (.aastore, 1)) (kk : ∀ (H1 : Heap) (locs1 : List Loc), cw D y A (sR z 6 j.toNatClampNeg (some v)) H1 → va_S A H0 H1 locs1 → W p l e R s m args below meth c H1 locs1 cells slots Q (F0 m (pc + 1) ls rest)) : W p l e R s m args below meth c H locs cells slots Q (F0 m pc ls (.ref qv :: .int j :: .ref q :: rest)) := by
  subst hq; subst hqv
  refine gw_aast hx hb hK hW hS (k := 13) (i := 0) (kv := 3) (iv := v) Nat.zero_lt_one hv 6 3 rfl rfl rfl rfl hj hdg (cell' := cC y (sR z 6 j.toNatClampNeg (some v))) (f' := fun q => (up2 (cR z) 6 j.toNatClampNeg (some v) 6 q).map (cA z 3)) rfl (fun q => by by_cases hq : q = j.toNatClampNeg <;> simp [up2, hq]) (fun k' i' hi' h => ?_) (fun H1 locs1 h1 h2 => kk H1 locs1 h1 h2)
  have h3 : k' = 13 → False := fun e => by subst e; exact h ⟨rfl, by have : i' < 1 := hi'; omega⟩
  by_cases h14 : k' < 14
  · unfold cC; split <;> simp_all [sR_cI, sR_cA, sR_cJ, sR_cR, sR_cS, sR_cE, up2]
    all_goals omega
  · exact absurd hi' (by unfold cN; split <;> omega)
theorem al_requests_s (hx : p.tables.exec = Jvm.exec) (hb : c.code = cc) (hK : va_K D vwCl (ctys y) s) (hW : cw D y A z H) {q st : Nat} (hq : q = cA z 13 0) {j : Int32} (hst : cR z 6 j.toNatClampNeg = some st) (hj : vp_in j 200) (hdg : decode cc pc = .ok (.aaload, 1)) (kk : W p l e R s m args below meth c H locs cells slots Q (F0 m (pc + 1) ls (.ref (cA z 3 st) :: rest))) : W p l e R s m args below meth c H locs cells slots Q (F0 m pc ls (.int j :: .ref q :: rest)) := by
  refine al_requests hx hb hK hW hq hj hdg ?_
  rw [hst]; exact kk
end CR
end
section
def nestF : List (String × Nat × String × String × String × String) := [("SharedRegisters", 166, "SharedRegisters$State", "value", "J", "SharedRegisters"), ("SharedRegisters", 159, "SharedRegisters$Register", "promise", "I", "SharedRegisters"), ("SharedRegisters", 162, "SharedRegisters$Register", "ballot", "I", "SharedRegisters"), ("SharedRegisters", 163, "SharedRegisters$Register", "state", "LSharedRegisters$State;", "SharedRegisters"), ("SharedRegisters$Request", 15, "SharedRegisters$Asker", "number", "I", "SharedRegisters"), ("SharedRegisters$Request", 44, "SharedRegisters$Asker", "sets", "[I", "SharedRegisters"), ("SharedRegisters", 75, "SharedRegisters$Asker", "sets", "[I", "SharedRegisters"), ("SharedRegisters$Request", 37, "SharedRegisters$Asker", "enough", "[I", "SharedRegisters"), ("SharedRegisters", 96, "SharedRegisters$Asker", "enough", "[I", "SharedRegisters"), ("SharedRegisters$Request", 31, "SharedRegisters$Asker", "count", "I", "SharedRegisters"), ("SharedRegisters", 69, "SharedRegisters$Asker", "count", "I", "SharedRegisters"), ("SharedRegisters", 65, "SharedRegisters$Asker", "current", "LSharedRegisters$Request;", "SharedRegisters"), ("SharedRegisters$Row", 24, "SharedRegisters$Message", "sort", "I", "SharedRegisters"), ("SharedRegisters", 109, "SharedRegisters$Message", "sort", "I", "SharedRegisters"), ("SharedRegisters$Row", 27, "SharedRegisters$Message", "asker", "I", "SharedRegisters"), ("SharedRegisters", 118, "SharedRegisters$Message", "asker", "I", "SharedRegisters"), ("SharedRegisters$Row", 30, "SharedRegisters$Message", "keeper", "I", "SharedRegisters"), ("SharedRegisters", 121, "SharedRegisters$Message", "keeper", "I", "SharedRegisters"), ("SharedRegisters$Row", 33, "SharedRegisters$Message", "request", "I", "SharedRegisters"), ("SharedRegisters", 124, "SharedRegisters$Message", "request", "I", "SharedRegisters"), ("SharedRegisters$Row", 36, "SharedRegisters$Message", "key", "I", "SharedRegisters"), ("SharedRegisters", 127, "SharedRegisters$Message", "key", "I", "SharedRegisters"), ("SharedRegisters$Row", 39, "SharedRegisters$Message", "ballot", "I", "SharedRegisters"), ("SharedRegisters", 130, "SharedRegisters$Message", "ballot", "I", "SharedRegisters"), ("SharedRegisters$Row", 42, "SharedRegisters$Message", "state", "LSharedRegisters$State;", "SharedRegisters"), ("SharedRegisters", 133, "SharedRegisters$Message", "state", "LSharedRegisters$State;", "SharedRegisters"), ("SharedRegisters", 114, "SharedRegisters$Row", "messages", "[LSharedRegisters$Message;", "SharedRegisters"), ("SharedRegisters", 99, "SharedRegisters$Row", "size", "I", "SharedRegisters"), ("SharedRegisters", 83, "SharedRegisters$Request", "number", "I", "SharedRegisters"), ("SharedRegisters", 259, "SharedRegisters$Request", "asker", "I", "SharedRegisters"), ("SharedRegisters", 260, "SharedRegisters$Request", "key", "I", "SharedRegisters"), ("SharedRegisters", 190, "SharedRegisters$Request", "ballot", "I", "SharedRegisters"), ("SharedRegisters", 237, "SharedRegisters$Request", "enoughPromised", "I", "SharedRegisters"), ("SharedRegisters", 243, "SharedRegisters$Request", "acceptSet", "I", "SharedRegisters"), ("SharedRegisters", 246, "SharedRegisters$Request", "enoughTaken", "I", "SharedRegisters"), ("SharedRegisters", 170, "SharedRegisters$Request", "accepting", "Z", "SharedRegisters"), ("SharedRegisters", 189, "SharedRegisters$Request", "state", "LSharedRegisters$State;", "SharedRegisters"), ("SharedRegisters", 186, "SharedRegisters$Request", "failed", "Z", "SharedRegisters"), ("SharedRegisters", 183, "SharedRegisters$Request", "ending", "I", "SharedRegisters")]
def nestM : List (String × Nat × MethodName × String) := [("SharedRegisters", 9, ⟨"SharedRegisters$State", "<init>", "(ZIJ)V"⟩, "SharedRegisters"), ("SharedRegisters", 24, ⟨"SharedRegisters$Register", "<init>", "(LSharedRegisters$State;)V"⟩, "SharedRegisters"), ("SharedRegisters", 37, ⟨"SharedRegisters$Asker", "<init>", "(I)V"⟩, "SharedRegisters"), ("SharedRegisters", 48, ⟨"SharedRegisters$Row", "<init>", "(LSharedRegisters$State;)V"⟩, "SharedRegisters"), ("SharedRegisters$Row", 17, ⟨"SharedRegisters$Message", "<init>", "(LSharedRegisters$State;)V"⟩, "SharedRegisters"), ("SharedRegisters", 72, ⟨"SharedRegisters$Request", "<init>", "(ILSharedRegisters$Asker;IIJLSharedRegisters$State;)V"⟩, "SharedRegisters"), ("SharedRegisters", 136, ⟨"SharedRegisters$Row", "send", "(IIIIIILSharedRegisters$State;)V"⟩, "SharedRegisters"), ("SharedRegisters", 105, ⟨"SharedRegisters$Row", "drawOut", "(I)LSharedRegisters$Message;"⟩, "SharedRegisters"), ("SharedRegisters", 216, ⟨"SharedRegisters$Register", "greaterBallot", "()I"⟩, "SharedRegisters"), ("SharedRegisters", 255, ⟨"SharedRegisters$Request", "hasAnswer", "(I)Z"⟩, "SharedRegisters"), ("SharedRegisters", 231, ⟨"SharedRegisters$Request", "hearState", "(ILSharedRegisters$State;)V"⟩, "SharedRegisters"), ("SharedRegisters", 234, ⟨"SharedRegisters$Request", "countAnswer", "(I)V"⟩, "SharedRegisters"), ("SharedRegisters", 174, ⟨"SharedRegisters$Request", "answers", "()I"⟩, "SharedRegisters"), ("SharedRegisters", 240, ⟨"SharedRegisters$Request", "beginAccepting", "()V"⟩, "SharedRegisters"), ("SharedRegisters$Request", 79, ⟨"SharedRegisters$State", "fails", "(IJ)Z"⟩, "SharedRegisters"), ("SharedRegisters$Request", 85, ⟨"SharedRegisters$State", "changed", "(IJ)LSharedRegisters$State;"⟩, "SharedRegisters"), ("SharedRegisters", 223, ⟨"SharedRegisters$Register", "accept", "(ILSharedRegisters$State;)V"⟩, "SharedRegisters"), ("SharedRegisters", 144, ⟨"SharedRegisters$Register", "catchUp", "(LSharedRegisters$Register;)Z"⟩, "SharedRegisters"), ("SharedRegisters", 148, ⟨"SharedRegisters$State", "versionOrNone", "()I"⟩, "SharedRegisters")]
def nestW : List Cond := nestF.map (fun q => .fieldLinkNest q.1 q.2.1 q.2.2.1 q.2.2.2.1 q.2.2.2.2.1 q.2.2.2.2.2) ++ nestM.map (fun q => .methodLinkNest q.1 q.2.1 q.2.2.1 q.2.2.2)
/-- what the tables say that every method needs: the classes, the array classes, the links between nest mates -/
def kK (D : va_G) (y : Nat → ClassId) (U : State) : Prop := va_K D vwCl (ctys y) U ∧ ∀ w ∈ nestW, va_Nw w U
section KK
variable {D : va_G} {y : Nat → ClassId} {s U : State}
theorem kK.warm (h : kK D y s) (hW : s.WarmedH U.vm) : kK D y U := by
  refine ⟨va_K.moved hW.alike h.1, fun w hw => ?_⟩
  have h1 := h.2 w hw
  rcases List.mem_append.mp hw with h2 | h2
  · obtain ⟨q, -, rfl⟩ := List.mem_map.mp h2
    exact va_Nw.warmF hW h1
  · obtain ⟨q, -, rfl⟩ := List.mem_map.mp h2
    exact va_Nw.warmM hW h1
theorem kK.call (h : kK D y U) (g : JFrame) (mk : MethodId) (a : Array Value) : kK D y (U.calling g mk a) := by
  refine ⟨va_K.moved (u := U) (U := U.calling g mk a) (Vm.Alike.refl U.vm) h.1, fun w hw => ?_⟩
  have h1 := h.2 w hw
  rcases List.mem_append.mp hw with h2 | h2
  · obtain ⟨q, -, rfl⟩ := List.mem_map.mp h2
    exact va_Nw.same rfl (u := U) (U := U.calling g mk a) rfl h1
  · obtain ⟨q, -, rfl⟩ := List.mem_map.mp h2
    exact va_Nw.same rfl (u := U) (U := U.calling g mk a) rfl h1
end KK
def cF (z : CS) (sz : Nat) : Nat → Prop := gA (cA z) (cN z) sz
def cPre (D : va_G) (y : Nat → ClassId) (z : CS) (sz : Nat) (U : State) : Prop := U.heap.size = sz ∧ cw D y (fun _ => True) z U.heap ∧ kK D y U
def cQ1 (D : va_G) (y : Nat → ClassId) (z : CS) (sz : Nat) (post : Value → CS → Prop) : Array Value → State → Outcome → State → Prop := fun _ st oc t => (∃ (v : Value) (u : CS), oc = .returned (some v) ∧ post v u ∧ cw D y (cF z sz) u t.heap) ∧ va_F (cF z sz) st t
def cQ0 (D : va_G) (y : Nat → ClassId) (z : CS) (sz : Nat) (post : CS → Prop) : Array Value → State → Outcome → State → Prop := fun _ st oc t => (∃ u : CS, oc = .returned none ∧ post u ∧ cw D y (cF z sz) u t.heap) ∧ va_F (cF z sz) st t
section CW
variable {D : va_G} {y : Nat → ClassId} {A B : Nat → Prop} {z u : CS} {H H0 : Heap} {locs : List Loc} {s : State}
theorem cw.all (h : cw D y A z H) : cw D y (fun _ => True) z H := gw.all h
theorem cw.self {sz : Nat} (h : cw D y A z H) : cw D y (cF z sz) z H := gw.self h
theorem cw.weaken (h : cw D y A z H) (hAB : ∀ q, A q → B q) : cw D y B z H := gw.weaken h hAB
theorem cw.free (h : cw D y A z H) (hS : va_S A H0 H locs) (hA : ∀ q, H0.size ≤ q → A q) : ∀ q, cF z H.size q → A q := gw.free h hS hA
theorem cBlind (As : List Value) (sz : Nat) : FrameBlind (va_Pc As (cPre D y z sz)) := fun a U g mk h => ⟨h.1, h.2.1, h.2.2.1, h.2.2.2.call g mk a⟩
theorem cPreS (hW : cw D y A z H) (hK : kK D y s) (As : List Value) : PreS s H (va_Pc As (cPre D y z H.size)) As := ⟨cBlind As H.size, fun U hU hw => ⟨rfl, by rw [hU], by rw [hU]; exact hW.all, hK.warm hw⟩⟩
theorem cPreV (hW : cw D y A z H) (hK : kK D y s) {k i : Nat} (hi : i < cN z k) {fs : List Value} {q : vw_C} (he : cC y z k i = .inr (k, fs)) (hc : vwCl[k]? = some q) (As : List Value) : PreV s H q.1 (cA z k i) (va_Pc (.ref (cA z k i) :: As) (cPre D y z H.size)) As :=
  ⟨cBlind _ H.size, va_recv hK.1 (gw_one hW hi) (q0 := 0) hc (by rw [he]; rfl), fun U hU hw => ⟨rfl, by rw [hU], by rw [hU]; exact hW.all, hK.warm hw⟩⟩
theorem cq1 {post : Value → CS → Prop} {v : Value} {args : Array Value} (hp : post v u) (hW : cw D y (cF z s.heap.size) u H) (hS : va_S (cF z s.heap.size) s.heap H locs) : ∀ t : State, t.heap = H → s.WarmedH t.vm → cQ1 D y z s.heap.size post args s (.returned (some v)) t := fun t ht _ => ⟨⟨v, u, rfl, hp, by rw [ht]; exact hW⟩, hS.F ht⟩
theorem cq0 {post : CS → Prop} {args : Array Value} (hp : post u) (hW : cw D y (cF z s.heap.size) u H) (hS : va_S (cF z s.heap.size) s.heap H locs) : ∀ t : State, t.heap = H → s.WarmedH t.vm → cQ0 D y z s.heap.size post args s (.returned none) t := fun t ht _ => ⟨⟨u, rfl, hp, by rw [ht]; exact hW⟩, hS.F ht⟩
end CW
section CC
variable {p : Program} {l : Launch} {e : Env} {R : Room} {s : State} {m : MethodId} {args : Array Value} {below : List Frame} {meth : Method} {c : Code} {H : Heap} {locs : List Loc} {cells slots : Nat} {Q : State → Prop}
variable {pc : Nat} {ls : Array Slot} {rest st0 : List Value} {a : Array Value} {D : va_G} {A : Nat → Prop} {y : Nat → ClassId} {z : CS} {H0 : Heap} {mc ms : Nat}
theorem cc1 {post : Value → CS → Prop} (hr : va_Run p l e R s m args below meth c H locs cells slots mc ms (F0 m pc ls st0) rest (cQ1 D y z H.size post a) (cF z H.size)) (hW : cw D y A z H) (hS : va_S A H0 H locs) (hA : ∀ q, H0.size ≤ q → A q)
    (kk : ∀ (v : Value) (u : CS) (H1 : Heap) (locs1 : List Loc), post v u → cw D y A u H1 → va_S A H0 H1 locs1 → W p l e R s m args below meth c H1 locs1 (cells + mc) (slots + ms) Q (F0 m (pc + 3) ls (v :: rest))) : W p l e R s m args below meth c H locs cells slots Q (F0 m pc ls st0) := by
  intro T hT X
  obtain ⟨v0, st₀, t, T', L, h0, X', hL, e1, e2, ⟨⟨v, u, hv, hp, hb⟩, hz, hk⟩, st⟩ := hr T hT X
  cases hv
  rw [h0] at hz hk
  have hF := hW.free hS hA
  obtain ⟨t2, a1, b1⟩ := kk v u T'.heap (locs ++ L) hp (by rw [e1]; exact hb.weaken hF)
    ⟨Nat.le_trans hS.1 (by rw [e1]; exact hz), fun q h1 h2 => by rw [e1, hk q (Nat.lt_of_lt_of_le h1 hS.1) (fun z9 => h2 (hF q z9))]; exact hS.2.1 q h1 h2, fun q hq => by
      rcases List.mem_append.mp hq with h | h
      · exact hS.2.2 q h
      · exact hF _ (hL q h)⟩ T' rfl X'
  exact ⟨t2, st t2 a1, b1⟩
theorem cc0 {post : CS → Prop} (hr : va_Run p l e R s m args below meth c H locs cells slots mc ms (F0 m pc ls st0) rest (cQ0 D y z H.size post a) (cF z H.size)) (hW : cw D y A z H) (hS : va_S A H0 H locs) (hA : ∀ q, H0.size ≤ q → A q)
    (kk : ∀ (u : CS) (H1 : Heap) (locs1 : List Loc), post u → cw D y A u H1 → va_S A H0 H1 locs1 → W p l e R s m args below meth c H1 locs1 (cells + mc) (slots + ms) Q (F0 m (pc + 3) ls rest)) : W p l e R s m args below meth c H locs cells slots Q (F0 m pc ls st0) := by
  intro T hT X
  obtain ⟨v0, st₀, t, T', L, h0, X', hL, e1, e2, ⟨⟨u, hv, hp, hb⟩, hz, hk⟩, st⟩ := hr T hT X
  cases hv
  rw [h0] at hz hk
  have hF := hW.free hS hA
  obtain ⟨t2, a1, b1⟩ := kk u T'.heap (locs ++ L) hp (by rw [e1]; exact hb.weaken hF)
    ⟨Nat.le_trans hS.1 (by rw [e1]; exact hz), fun q h1 h2 => by rw [e1, hk q (Nat.lt_of_lt_of_le h1 hS.1) (fun z9 => h2 (hF q z9))]; exact hS.2.1 q h1 h2, fun q hq => by
      rcases List.mem_append.mp hq with h | h
      · exact hS.2.2 q h
      · exact hF _ (hL q h)⟩ T' rfl X'
  exact ⟨t2, st t2 a1, b1⟩
end CC
end
section
def fCatch (z : CS) (i j : Nat) : CS := if cI z 1 i < cI z 1 j then sI (sS (sI z 1 i (cI z 1 j)) 0 i (cS z 0 j)) 0 i (if cI z 0 i < cI z 0 j then cI z 0 j else cI z 0 i) else z
set_option maxHeartbeats 4000000 in
set_option maxRecDepth 100000 in
theorem m_Register_greaterBallot (l : Launch) (D : va_G) (y : Nat → ClassId) (z : CS) (sz : Nat) (i : Nat) (hi : i < 36)  : Met l yX2_greaterBallot wsX2_greaterBallot ({ frames := 1, cells := 0, slots := 0, locals := 13 }) (va_Pc [.ref (cA z 2 i)] (cPre D y z sz)) (cQ1 D y z sz (fun v u => v = .int (if cI z 0 i < cI z 1 i then cI z 1 i else cI z 0 i) ∧ u = z)) 0 0 (cF z sz) := by
  refine Met.ofW (cc := cX2_greaterBallot) (maxL := 1) (ret := (some .int)) (by decide) rfl ?_
  intro p e s m args below meth c s₁ B hml hv
  obtain ⟨rfl, hsz, hW0, hK⟩ := hv
  have hx := B.exec
  have hb := B.bytes
  have hr := B.returns
  have hts := atoms_spec (ws := wsX2_greaterBallot) B.pre
  have hown : s.vm.findClass RX2 = some m.cls := findClass_of_methodNamed B.named
  have hlocks := B.notSynchronized
  subst hsz
  have hW := hW0.self (sz := s.heap.size)
  have hA : ∀ q, s.heap.size ≤ q → cF z s.heap.size q := fun q h => Or.inr h
  have hS : va_S (cF z s.heap.size) s.heap s.heap [] := va_S.rf
  have hl := lv_entry ([.ref (cA z 2 i)]) (n := 1) (Nat.le_of_ble_eq_true rfl)
  rw [lg_entry_eq]
  generalize (lg_sl ([.ref (cA z 2 i)]) ++ List.replicate (1 - (lg_sl ([.ref (cA z 2 i)])).length) Slot.unset).toArray = ls at hl ⊢
  have hl : lv_has ls 1 [(0, .ref (cA z 2 i))] := hl
  have hX2 : ∀ w ∈ wsX20, w ∈ wsX2_greaterBallot := by decide +kernel
  refine lv_aload_n hx hb dX2_greaterBallot_0 rfl (lv_at hl 0 rfl) ?_
  refine g_Register_promise hx hb hts hX2 hown hK.1 hW rfl (by first | assumption | omega | exact Nat.zero_lt_one | decide) (hts (.fieldLink RX2 7 "SharedRegisters$Register" "promise" "I") (by decide +kernel)) dX2_greaterBallot_1 ?_
  refine lv_aload_n hx hb dX2_greaterBallot_4 rfl (lv_at hl 0 rfl) ?_
  refine g_Register_ballot hx hb hts hX2 hown hK.1 hW rfl (by first | assumption | omega | exact Nat.zero_lt_one | decide) (hts (.fieldLink RX2 13 "SharedRegisters$Register" "ballot" "I") (by decide +kernel)) dX2_greaterBallot_5 ?_
  refine va_mmax hx hb (by rw [hml]; exact hl.1.symm) hown (hts (.methodLink RX2 20 Lib.Math.max.name) (by decide +kernel)) (hts (.static Lib.Math.max.name) (by decide +kernel)) (hts (.initialized "java/lang/Math") (by decide +kernel)) (hts (.code Lib.Math.max.name Lib.Math.max.code 2 (some .int)) (by decide +kernel)) (Nat.le_of_ble_eq_true rfl) (Nat.le_of_ble_eq_true rfl) (Nat.zero_le _) (Nat.zero_le _) dX2_greaterBallot_8 ?_
  refine W.iret hx hb hr ?_ hS.2.2 dX2_greaterBallot_11
  exact cq1 ⟨rfl, rfl⟩ hW hS
set_option maxHeartbeats 4000000 in
set_option maxRecDepth 100000 in
theorem m_Register_accept (l : Launch) (D : va_G) (y : Nat → ClassId) (z : CS) (sz : Nat) (i : Nat) (b : Int32) (st : Nat) (hi : i < 36)  : Met l yX2_accept wsX2_accept ({ frames := 0, cells := 0, slots := 0, locals := 0 }) (va_Pc [.ref (cA z 2 i), .int b, .ref (cA z 5 st)] (cPre D y z sz)) (cQ0 D y z sz (fun u => u = sI (sS (sI z 1 i b) 0 i st) 0 i 0)) 0 0 (cF z sz) := by
  refine Met.ofW (cc := cX2_accept) (maxL := 3) (ret := none) (by decide) rfl ?_
  intro p e s m args below meth c s₁ B hml hv
  obtain ⟨rfl, hsz, hW0, hK⟩ := hv
  have hx := B.exec
  have hb := B.bytes
  have hr := B.returns
  have hts := atoms_spec (ws := wsX2_accept) B.pre
  have hown : s.vm.findClass RX2 = some m.cls := findClass_of_methodNamed B.named
  have hlocks := B.notSynchronized
  subst hsz
  have hW := hW0.self (sz := s.heap.size)
  have hA : ∀ q, s.heap.size ≤ q → cF z s.heap.size q := fun q h => Or.inr h
  have hS : va_S (cF z s.heap.size) s.heap s.heap [] := va_S.rf
  have hl := lv_entry ([.ref (cA z 2 i), .int b, .ref (cA z 5 st)]) (n := 3) (Nat.le_of_ble_eq_true rfl)
  rw [lg_entry_eq]
  generalize (lg_sl ([.ref (cA z 2 i), .int b, .ref (cA z 5 st)]) ++ List.replicate (3 - (lg_sl ([.ref (cA z 2 i), .int b, .ref (cA z 5 st)])).length) Slot.unset).toArray = ls at hl ⊢
  have hl : lv_has ls 3 [(0, .ref (cA z 2 i)), (1, .int b), (2, .ref (cA z 5 st))] := hl
  have hX2 : ∀ w ∈ wsX20, w ∈ wsX2_accept := by decide +kernel
  refine lv_aload_n hx hb dX2_accept_0 rfl (lv_at hl 0 rfl) ?_
  refine lv_iload_n hx hb dX2_accept_1 rfl (lv_at hl 1 rfl) ?_
  refine p_Register_ballot hx hb hts hX2 hown hK.1 hW hS rfl (by first | assumption | omega | exact Nat.zero_lt_one | decide) (hts (.fieldLink RX2 13 "SharedRegisters$Register" "ballot" "I") (by decide +kernel)) dX2_accept_2 (fun H locs hW hS => ?_)
  refine lv_aload_n hx hb dX2_accept_5 rfl (lv_at hl 0 rfl) ?_
  refine lv_aload_n hx hb dX2_accept_6 rfl (lv_at hl 2 rfl) ?_
  refine p_Register_state hx hb hts hX2 hown hK.1 hW hS rfl (by first | assumption | omega | exact Nat.zero_lt_one | decide) rfl (hts (.fieldLink RX2 16 "SharedRegisters$Register" "state" "LSharedRegisters$State;") (by decide +kernel)) dX2_accept_7 (fun H locs hW hS => ?_)
  refine lv_aload_n hx hb dX2_accept_10 rfl (lv_at hl 0 rfl) ?_
  refine lv_iconst (v := 0) hx hb dX2_accept_11 (by decide) ?_
  refine p_Register_promise hx hb hts hX2 hown hK.1 hW hS rfl (by first | assumption | omega | exact Nat.zero_lt_one | decide) (hts (.fieldLink RX2 7 "SharedRegisters$Register" "promise" "I") (by decide +kernel)) dX2_accept_12 (fun H locs hW hS => ?_)
  refine W.vret hx hb hr ?_ hS.2.2 dX2_accept_15
  exact cq0 rfl hW hS
set_option maxHeartbeats 4000000 in
set_option maxRecDepth 100000 in
theorem m_Register_catchUp (l : Launch) (D : va_G) (y : Nat → ClassId) (z : CS) (sz : Nat) (i j : Nat) (hi : i < 36) (hj : j < 36)  : Met l yX2_catchUp wsX2_catchUp ({ frames := 1, cells := 0, slots := 0, locals := 14 }) (va_Pc [.ref (cA z 2 i), .ref (cA z 2 j)] (cPre D y z sz)) (cQ1 D y z sz (fun v u => v = .int (if cI z 1 i < cI z 1 j then 1 else 0) ∧ u = fCatch z i j)) 0 0 (cF z sz) := by
  refine Met.ofW (cc := cX2_catchUp) (maxL := 2) (ret := (some .boolean)) (by decide) rfl ?_
  intro p e s m args below meth c s₁ B hml hv
  obtain ⟨rfl, hsz, hW0, hK⟩ := hv
  have hx := B.exec
  have hb := B.bytes
  have hr := B.returns
  have hts := atoms_spec (ws := wsX2_catchUp) B.pre
  have hown : s.vm.findClass RX2 = some m.cls := findClass_of_methodNamed B.named
  have hlocks := B.notSynchronized
  subst hsz
  have hW := hW0.self (sz := s.heap.size)
  have hA : ∀ q, s.heap.size ≤ q → cF z s.heap.size q := fun q h => Or.inr h
  have hS : va_S (cF z s.heap.size) s.heap s.heap [] := va_S.rf
  have hl := lv_entry ([.ref (cA z 2 i), .ref (cA z 2 j)]) (n := 2) (Nat.le_of_ble_eq_true rfl)
  rw [lg_entry_eq]
  generalize (lg_sl ([.ref (cA z 2 i), .ref (cA z 2 j)]) ++ List.replicate (2 - (lg_sl ([.ref (cA z 2 i), .ref (cA z 2 j)])).length) Slot.unset).toArray = ls at hl ⊢
  have hl : lv_has ls 2 [(0, .ref (cA z 2 i)), (1, .ref (cA z 2 j))] := hl
  have hX2 : ∀ w ∈ wsX20, w ∈ wsX2_catchUp := by decide +kernel
  refine lv_aload_n hx hb dX2_catchUp_0 rfl (lv_at hl 1 rfl) ?_
  refine g_Register_ballot hx hb hts hX2 hown hK.1 hW rfl (by first | assumption | omega | exact Nat.zero_lt_one | decide) (hts (.fieldLink RX2 13 "SharedRegisters$Register" "ballot" "I") (by decide +kernel)) dX2_catchUp_1 ?_
  refine lv_aload_n hx hb dX2_catchUp_4 rfl (lv_at hl 0 rfl) ?_
  refine g_Register_ballot hx hb hts hX2 hown hK.1 hW rfl (by first | assumption | omega | exact Nat.zero_lt_one | decide) (hts (.fieldLink RX2 13 "SharedRegisters$Register" "ballot" "I") (by decide +kernel)) dX2_catchUp_5 ?_
  refine lv_icmp_gt (tgt := 13) hx hb dX2_catchUp_8 (by decide) (fun c_8 => ?_) (fun c_8 => ?_)
  · refine lv_aload_n hx hb dX2_catchUp_13 rfl (lv_at hl 0 rfl) ?_
    refine lv_aload_n hx hb dX2_catchUp_14 rfl (lv_at hl 1 rfl) ?_
    refine g_Register_ballot hx hb hts hX2 hown hK.1 hW rfl (by first | assumption | omega | exact Nat.zero_lt_one | decide) (hts (.fieldLink RX2 13 "SharedRegisters$Register" "ballot" "I") (by decide +kernel)) dX2_catchUp_15 ?_
    refine p_Register_ballot hx hb hts hX2 hown hK.1 hW hS rfl (by first | assumption | omega | exact Nat.zero_lt_one | decide) (hts (.fieldLink RX2 13 "SharedRegisters$Register" "ballot" "I") (by decide +kernel)) dX2_catchUp_18 (fun H locs hW hS => ?_)
    refine lv_aload_n hx hb dX2_catchUp_21 rfl (lv_at hl 0 rfl) ?_
    refine lv_aload_n hx hb dX2_catchUp_22 rfl (lv_at hl 1 rfl) ?_
    refine g_Register_state hx hb hts hX2 hown hK.1 hW rfl (by first | assumption | omega | exact Nat.zero_lt_one | decide) (hts (.fieldLink RX2 16 "SharedRegisters$Register" "state" "LSharedRegisters$State;") (by decide +kernel)) dX2_catchUp_23 ?_
    refine p_Register_state hx hb hts hX2 hown hK.1 hW hS rfl (by first | assumption | omega | exact Nat.zero_lt_one | decide) rfl (hts (.fieldLink RX2 16 "SharedRegisters$Register" "state" "LSharedRegisters$State;") (by decide +kernel)) dX2_catchUp_26 (fun H locs hW hS => ?_)
    refine lv_aload_n hx hb dX2_catchUp_29 rfl (lv_at hl 0 rfl) ?_
    refine lv_aload_n hx hb dX2_catchUp_30 rfl (lv_at hl 0 rfl) ?_
    refine g_Register_promise hx hb hts hX2 hown hK.1 hW rfl (by first | assumption | omega | exact Nat.zero_lt_one | decide) (hts (.fieldLink RX2 7 "SharedRegisters$Register" "promise" "I") (by decide +kernel)) dX2_catchUp_31 ?_
    refine lv_aload_n hx hb dX2_catchUp_34 rfl (lv_at hl 1 rfl) ?_
    refine g_Register_promise hx hb hts hX2 hown hK.1 hW rfl (by first | assumption | omega | exact Nat.zero_lt_one | decide) (hts (.fieldLink RX2 7 "SharedRegisters$Register" "promise" "I") (by decide +kernel)) dX2_catchUp_35 ?_
    refine va_mmax hx hb (by rw [hml]; exact hl.1.symm) hown (hts (.methodLink RX2 20 Lib.Math.max.name) (by decide +kernel)) (hts (.static Lib.Math.max.name) (by decide +kernel)) (hts (.initialized "java/lang/Math") (by decide +kernel)) (hts (.code Lib.Math.max.name Lib.Math.max.code 2 (some .int)) (by decide +kernel)) (Nat.le_of_ble_eq_true rfl) (Nat.le_of_ble_eq_true rfl) (Nat.zero_le _) (Nat.zero_le _) dX2_catchUp_38 ?_
    refine p_Register_promise hx hb hts hX2 hown hK.1 hW hS rfl (by first | assumption | omega | exact Nat.zero_lt_one | decide) (hts (.fieldLink RX2 7 "SharedRegisters$Register" "promise" "I") (by decide +kernel)) dX2_catchUp_41 (fun H locs hW hS => ?_)
    refine lv_iconst (v := 1) hx hb dX2_catchUp_44 (by decide) ?_
    refine W.zret hx hb hr rfl ?_ hS.2.2 dX2_catchUp_45
    exact cq1 (by simp [fCatch, c_8, sI_cI, sI_cJ, sI_cR, sI_cS, sI_cE, sI_cA, sI_cNr, sI_cNs, sJ_cI, sJ_cJ, sJ_cR, sJ_cS, sJ_cE, sJ_cA, sJ_cNr, sJ_cNs, sR_cI, sR_cJ, sR_cR, sR_cS, sR_cE, sR_cA, sR_cNr, sR_cNs, sS_cI, sS_cJ, sS_cR, sS_cS, sS_cE, sS_cA, sS_cNr, sS_cNs, sE_cI, sE_cJ, sE_cR, sE_cS, sE_cE, sE_cA, sE_cNr, sE_cNs, up2]) hW hS
  · refine lv_iconst (v := 0) hx hb dX2_catchUp_11 (by decide) ?_
    refine W.zret hx hb hr rfl ?_ hS.2.2 dX2_catchUp_12
    exact cq1 ⟨by rw [if_neg c_8], by rw [fCatch, if_neg c_8]⟩ hW hS
end
