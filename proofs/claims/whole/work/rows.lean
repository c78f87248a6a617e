section
-- ===== PART A: goes FIRST, ahead of the names: the tables' words, and 'selects' of the private methods out of them =====
/-- a private method of a class that the tables say can be made, by its rows of tables_1 -/
def lw_okq (q : MethodName × Nat) : Prop := (q.1.cls ≠ "java/lang/invoke/MethodHandle" ∧ q.1.cls ≠ "java/lang/invoke/VarHandle") ∧ Cond.instantiable q.1.cls q.2 ∈ tables_1 ∧ Cond.privateMethod q.1 ∈ tables_1 ∧ Cond.instanceMethod q.1 ∈ tables_1
theorem lw_p0 : lw_okq (⟨"WeighGates", "keep", "(IIJ)I"⟩, 7) := ⟨⟨by decide +kernel, by decide +kernel⟩, List.mem_of_getElem? (i := 15) (by decide +kernel), List.mem_of_getElem? (i := 210) (by decide +kernel), List.mem_of_getElem? (i := 211) (by decide +kernel)⟩
theorem lw_p1 : lw_okq (⟨"WeighGates", "isInput", "(II)Z"⟩, 7) := ⟨⟨by decide +kernel, by decide +kernel⟩, List.mem_of_getElem? (i := 15) (by decide +kernel), List.mem_of_getElem? (i := 252) (by decide +kernel), List.mem_of_getElem? (i := 253) (by decide +kernel)⟩
theorem lw_p2 : lw_okq (⟨"WeighGates", "tellsGate", "(I)Z"⟩, 7) := ⟨⟨by decide +kernel, by decide +kernel⟩, List.mem_of_getElem? (i := 15) (by decide +kernel), List.mem_of_getElem? (i := 287) (by decide +kernel), List.mem_of_getElem? (i := 288) (by decide +kernel)⟩
theorem lw_p3 : lw_okq (⟨"WeighGates$Witness", "findSecond", "(IJI)Z"⟩, 1) := ⟨⟨by decide +kernel, by decide +kernel⟩, List.mem_of_getElem? (i := 23) (by decide +kernel), List.mem_of_getElem? (i := 297) (by decide +kernel), List.mem_of_getElem? (i := 298) (by decide +kernel)⟩
theorem lw_p4 : lw_okq (⟨"WeighGates$Witness", "findZeros", "(JII)Z"⟩, 1) := ⟨⟨by decide +kernel, by decide +kernel⟩, List.mem_of_getElem? (i := 23) (by decide +kernel), List.mem_of_getElem? (i := 301) (by decide +kernel), List.mem_of_getElem? (i := 302) (by decide +kernel)⟩
theorem lw_p5 : lw_okq (⟨"WeighGates", "findLeast", "(I)Z"⟩, 7) := ⟨⟨by decide +kernel, by decide +kernel⟩, List.mem_of_getElem? (i := 15) (by decide +kernel), List.mem_of_getElem? (i := 309) (by decide +kernel), List.mem_of_getElem? (i := 310) (by decide +kernel)⟩
theorem lw_p6 : lw_okq (⟨"WeighGates$LeastWeighing", "findFloors", "()I"⟩, 8) := ⟨⟨by decide +kernel, by decide +kernel⟩, List.mem_of_getElem? (i := 36) (by decide +kernel), List.mem_of_getElem? (i := 319) (by decide +kernel), List.mem_of_getElem? (i := 320) (by decide +kernel)⟩
theorem lw_p7 : lw_okq (⟨"WeighGates$LeastWeighing", "raiseFloor", "(I)V"⟩, 8) := ⟨⟨by decide +kernel, by decide +kernel⟩, List.mem_of_getElem? (i := 36) (by decide +kernel), List.mem_of_getElem? (i := 323) (by decide +kernel), List.mem_of_getElem? (i := 324) (by decide +kernel)⟩
theorem lw_p8 : lw_okq (⟨"WeighGates$LeastWeighing", "share", "(II)Z"⟩, 8) := ⟨⟨by decide +kernel, by decide +kernel⟩, List.mem_of_getElem? (i := 36) (by decide +kernel), List.mem_of_getElem? (i := 333) (by decide +kernel), List.mem_of_getElem? (i := 334) (by decide +kernel)⟩
theorem lw_p9 : lw_okq (⟨"WeighGates$LeastWeighing", "separates", "()Z"⟩, 8) := ⟨⟨by decide +kernel, by decide +kernel⟩, List.mem_of_getElem? (i := 36) (by decide +kernel), List.mem_of_getElem? (i := 337) (by decide +kernel), List.mem_of_getElem? (i := 338) (by decide +kernel)⟩
theorem lw_p10 : lw_okq (⟨"WeighGates$LeastWeighing", "keepsOrder", "(II)Z"⟩, 8) := ⟨⟨by decide +kernel, by decide +kernel⟩, List.mem_of_getElem? (i := 36) (by decide +kernel), List.mem_of_getElem? (i := 354) (by decide +kernel), List.mem_of_getElem? (i := 355) (by decide +kernel)⟩
theorem lw_p11 : lw_okq (⟨"WeighGates$Kind", "changePlaces", "(IJ)V"⟩, 4) := ⟨⟨by decide +kernel, by decide +kernel⟩, List.mem_of_getElem? (i := 92) (by decide +kernel), List.mem_of_getElem? (i := 399) (by decide +kernel), List.mem_of_getElem? (i := 400) (by decide +kernel)⟩
theorem lw_p12 : lw_okq (⟨"WeighGates$Kind", "turnInputs", "(J)V"⟩, 4) := ⟨⟨by decide +kernel, by decide +kernel⟩, List.mem_of_getElem? (i := 92) (by decide +kernel), List.mem_of_getElem? (i := 403) (by decide +kernel), List.mem_of_getElem? (i := 404) (by decide +kernel)⟩
theorem lw_p13 : lw_okq (⟨"WeighGates$Kind", "meet", "(J)V"⟩, 4) := ⟨⟨by decide +kernel, by decide +kernel⟩, List.mem_of_getElem? (i := 92) (by decide +kernel), List.mem_of_getElem? (i := 407) (by decide +kernel), List.mem_of_getElem? (i := 408) (by decide +kernel)⟩
theorem lw_p14 : lw_okq (⟨"WeighGates$Kind", "compare", "(J)V"⟩, 4) := ⟨⟨by decide +kernel, by decide +kernel⟩, List.mem_of_getElem? (i := 92) (by decide +kernel), List.mem_of_getElem? (i := 411) (by decide +kernel), List.mem_of_getElem? (i := 412) (by decide +kernel)⟩
theorem lw_p15 : lw_okq (⟨"WeighGates$GatePair", "weighRows", "(II)V"⟩, 4) := ⟨⟨by decide +kernel, by decide +kernel⟩, List.mem_of_getElem? (i := 112) (by decide +kernel), List.mem_of_getElem? (i := 459) (by decide +kernel), List.mem_of_getElem? (i := 460) (by decide +kernel)⟩
def lw_privs_1 : List (MethodName × Nat) := [(⟨"WeighGates", "keep", "(IIJ)I"⟩, 7), (⟨"WeighGates", "isInput", "(II)Z"⟩, 7), (⟨"WeighGates", "tellsGate", "(I)Z"⟩, 7), (⟨"WeighGates$Witness", "findSecond", "(IJI)Z"⟩, 1), (⟨"WeighGates$Witness", "findZeros", "(JII)Z"⟩, 1), (⟨"WeighGates", "findLeast", "(I)Z"⟩, 7), (⟨"WeighGates$LeastWeighing", "findFloors", "()I"⟩, 8), (⟨"WeighGates$LeastWeighing", "raiseFloor", "(I)V"⟩, 8), (⟨"WeighGates$LeastWeighing", "share", "(II)Z"⟩, 8), (⟨"WeighGates$LeastWeighing", "separates", "()Z"⟩, 8), (⟨"WeighGates$LeastWeighing", "keepsOrder", "(II)Z"⟩, 8), (⟨"WeighGates$Kind", "changePlaces", "(IJ)V"⟩, 4), (⟨"WeighGates$Kind", "turnInputs", "(J)V"⟩, 4), (⟨"WeighGates$Kind", "meet", "(J)V"⟩, 4), (⟨"WeighGates$Kind", "compare", "(J)V"⟩, 4), (⟨"WeighGates$GatePair", "weighRows", "(II)V"⟩, 4)]
theorem lw_r1 : ∀ q ∈ lw_privs_1, lw_okq q := List.forall_mem_cons.mpr ⟨lw_p0, List.forall_mem_cons.mpr ⟨lw_p1, List.forall_mem_cons.mpr ⟨lw_p2, List.forall_mem_cons.mpr ⟨lw_p3, List.forall_mem_cons.mpr ⟨lw_p4, List.forall_mem_cons.mpr ⟨lw_p5, List.forall_mem_cons.mpr ⟨lw_p6, List.forall_mem_cons.mpr ⟨lw_p7, List.forall_mem_cons.mpr ⟨lw_p8, List.forall_mem_cons.mpr ⟨lw_p9, List.forall_mem_cons.mpr ⟨lw_p10, List.forall_mem_cons.mpr ⟨lw_p11, List.forall_mem_cons.mpr ⟨lw_p12, List.forall_mem_cons.mpr ⟨lw_p13, List.forall_mem_cons.mpr ⟨lw_p14, List.forall_mem_cons.mpr ⟨lw_p15, fun _ h => absurd h List.not_mem_nil⟩⟩⟩⟩⟩⟩⟩⟩⟩⟩⟩⟩⟩⟩⟩⟩
theorem lw_p16 : lw_okq (⟨"WeighGates$GatePair", "findWrongRows", "(IJI)V"⟩, 4) := ⟨⟨by decide +kernel, by decide +kernel⟩, List.mem_of_getElem? (i := 112) (by decide +kernel), List.mem_of_getElem? (i := 467) (by decide +kernel), List.mem_of_getElem? (i := 468) (by decide +kernel)⟩
theorem lw_p17 : lw_okq (⟨"WeighGates$GatePair", "partsSomeOrder", "(J)Z"⟩, 4) := ⟨⟨by decide +kernel, by decide +kernel⟩, List.mem_of_getElem? (i := 112) (by decide +kernel), List.mem_of_getElem? (i := 475) (by decide +kernel), List.mem_of_getElem? (i := 476) (by decide +kernel)⟩
theorem lw_p18 : lw_okq (⟨"WeighGates$Net", "toldBy", "(I[J)J"⟩, 7) := ⟨⟨by decide +kernel, by decide +kernel⟩, List.mem_of_getElem? (i := 135) (by decide +kernel), List.mem_of_getElem? (i := 506) (by decide +kernel), List.mem_of_getElem? (i := 507) (by decide +kernel)⟩
theorem lw_p19 : lw_okq (⟨"WeighGates$Net", "sumAt", "(II[J)I"⟩, 7) := ⟨⟨by decide +kernel, by decide +kernel⟩, List.mem_of_getElem? (i := 135) (by decide +kernel), List.mem_of_getElem? (i := 511) (by decide +kernel), List.mem_of_getElem? (i := 512) (by decide +kernel)⟩
theorem lw_p20 : lw_okq (⟨"WeighGates$Net", "depthOf", "(I)I"⟩, 7) := ⟨⟨by decide +kernel, by decide +kernel⟩, List.mem_of_getElem? (i := 135) (by decide +kernel), List.mem_of_getElem? (i := 517) (by decide +kernel), List.mem_of_getElem? (i := 518) (by decide +kernel)⟩
theorem lw_p21 : lw_okq (⟨"WeighGates", "isGateOfNet", "(I)Z"⟩, 7) := ⟨⟨by decide +kernel, by decide +kernel⟩, List.mem_of_getElem? (i := 15) (by decide +kernel), List.mem_of_getElem? (i := 526) (by decide +kernel), List.mem_of_getElem? (i := 527) (by decide +kernel)⟩
theorem lw_p22 : lw_okq (⟨"WeighGatesModel", "set", "(IIJ)I"⟩, 26) := ⟨⟨by decide +kernel, by decide +kernel⟩, List.mem_of_getElem? (i := 559) (by decide +kernel), List.mem_of_getElem? (i := 662) (by decide +kernel), List.mem_of_getElem? (i := 663) (by decide +kernel)⟩
theorem lw_p23 : lw_okq (⟨"WeighGatesModel", "isInput", "(II)Z"⟩, 26) := ⟨⟨by decide +kernel, by decide +kernel⟩, List.mem_of_getElem? (i := 559) (by decide +kernel), List.mem_of_getElem? (i := 698) (by decide +kernel), List.mem_of_getElem? (i := 699) (by decide +kernel)⟩
theorem lw_p24 : lw_okq (⟨"WeighGatesModel", "solve", "(JI)V"⟩, 26) := ⟨⟨by decide +kernel, by decide +kernel⟩, List.mem_of_getElem? (i := 559) (by decide +kernel), List.mem_of_getElem? (i := 721) (by decide +kernel), List.mem_of_getElem? (i := 722) (by decide +kernel)⟩
theorem lw_p25 : lw_okq (⟨"WeighGatesModel", "isGate", "(JI)Z"⟩, 26) := ⟨⟨by decide +kernel, by decide +kernel⟩, List.mem_of_getElem? (i := 559) (by decide +kernel), List.mem_of_getElem? (i := 725) (by decide +kernel), List.mem_of_getElem? (i := 726) (by decide +kernel)⟩
theorem lw_p26 : lw_okq (⟨"WeighGatesModel", "layFalse", "(JI)V"⟩, 26) := ⟨⟨by decide +kernel, by decide +kernel⟩, List.mem_of_getElem? (i := 559) (by decide +kernel), List.mem_of_getElem? (i := 729) (by decide +kernel), List.mem_of_getElem? (i := 730) (by decide +kernel)⟩
theorem lw_p27 : lw_okq (⟨"WeighGatesModel", "layThree", "(I)V"⟩, 26) := ⟨⟨by decide +kernel, by decide +kernel⟩, List.mem_of_getElem? (i := 559) (by decide +kernel), List.mem_of_getElem? (i := 733) (by decide +kernel), List.mem_of_getElem? (i := 734) (by decide +kernel)⟩
theorem lw_p28 : lw_okq (⟨"WeighGatesModel", "findOthers", "(JI)V"⟩, 26) := ⟨⟨by decide +kernel, by decide +kernel⟩, List.mem_of_getElem? (i := 559) (by decide +kernel), List.mem_of_getElem? (i := 737) (by decide +kernel), List.mem_of_getElem? (i := 738) (by decide +kernel)⟩
theorem lw_p29 : lw_okq (⟨"WeighGatesModel", "falling", "(JI)I"⟩, 26) := ⟨⟨by decide +kernel, by decide +kernel⟩, List.mem_of_getElem? (i := 559) (by decide +kernel), List.mem_of_getElem? (i := 741) (by decide +kernel), List.mem_of_getElem? (i := 742) (by decide +kernel)⟩
theorem lw_p30 : lw_okq (⟨"WeighGatesModel", "parts", "(JII)Z"⟩, 26) := ⟨⟨by decide +kernel, by decide +kernel⟩, List.mem_of_getElem? (i := 559) (by decide +kernel), List.mem_of_getElem? (i := 745) (by decide +kernel), List.mem_of_getElem? (i := 746) (by decide +kernel)⟩
theorem lw_p31 : lw_okq (⟨"WeighGatesModel", "sumOf", "(II)I"⟩, 26) := ⟨⟨by decide +kernel, by decide +kernel⟩, List.mem_of_getElem? (i := 559) (by decide +kernel), List.mem_of_getElem? (i := 749) (by decide +kernel), List.mem_of_getElem? (i := 750) (by decide +kernel)⟩
def lw_privs_2 : List (MethodName × Nat) := [(⟨"WeighGates$GatePair", "findWrongRows", "(IJI)V"⟩, 4), (⟨"WeighGates$GatePair", "partsSomeOrder", "(J)Z"⟩, 4), (⟨"WeighGates$Net", "toldBy", "(I[J)J"⟩, 7), (⟨"WeighGates$Net", "sumAt", "(II[J)I"⟩, 7), (⟨"WeighGates$Net", "depthOf", "(I)I"⟩, 7), (⟨"WeighGates", "isGateOfNet", "(I)Z"⟩, 7), (⟨"WeighGatesModel", "set", "(IIJ)I"⟩, 26), (⟨"WeighGatesModel", "isInput", "(II)Z"⟩, 26), (⟨"WeighGatesModel", "solve", "(JI)V"⟩, 26), (⟨"WeighGatesModel", "isGate", "(JI)Z"⟩, 26), (⟨"WeighGatesModel", "layFalse", "(JI)V"⟩, 26), (⟨"WeighGatesModel", "layThree", "(I)V"⟩, 26), (⟨"WeighGatesModel", "findOthers", "(JI)V"⟩, 26), (⟨"WeighGatesModel", "falling", "(JI)I"⟩, 26), (⟨"WeighGatesModel", "parts", "(JII)Z"⟩, 26), (⟨"WeighGatesModel", "sumOf", "(II)I"⟩, 26)]
theorem lw_r2 : ∀ q ∈ lw_privs_2, lw_okq q := List.forall_mem_cons.mpr ⟨lw_p16, List.forall_mem_cons.mpr ⟨lw_p17, List.forall_mem_cons.mpr ⟨lw_p18, List.forall_mem_cons.mpr ⟨lw_p19, List.forall_mem_cons.mpr ⟨lw_p20, List.forall_mem_cons.mpr ⟨lw_p21, List.forall_mem_cons.mpr ⟨lw_p22, List.forall_mem_cons.mpr ⟨lw_p23, List.forall_mem_cons.mpr ⟨lw_p24, List.forall_mem_cons.mpr ⟨lw_p25, List.forall_mem_cons.mpr ⟨lw_p26, List.forall_mem_cons.mpr ⟨lw_p27, List.forall_mem_cons.mpr ⟨lw_p28, List.forall_mem_cons.mpr ⟨lw_p29, List.forall_mem_cons.mpr ⟨lw_p30, List.forall_mem_cons.mpr ⟨lw_p31, fun _ h => absurd h List.not_mem_nil⟩⟩⟩⟩⟩⟩⟩⟩⟩⟩⟩⟩⟩⟩⟩⟩
theorem lw_p32 : lw_okq (⟨"WeighGatesModel", "next", "(II)Z"⟩, 26) := ⟨⟨by decide +kernel, by decide +kernel⟩, List.mem_of_getElem? (i := 559) (by decide +kernel), List.mem_of_getElem? (i := 753) (by decide +kernel), List.mem_of_getElem? (i := 754) (by decide +kernel)⟩
theorem lw_p33 : lw_okq (⟨"WeighGatesModel", "layKind", "(JI)V"⟩, 26) := ⟨⟨by decide +kernel, by decide +kernel⟩, List.mem_of_getElem? (i := 559) (by decide +kernel), List.mem_of_getElem? (i := 783) (by decide +kernel), List.mem_of_getElem? (i := 784) (by decide +kernel)⟩
theorem lw_p34 : lw_okq (⟨"WeighGatesModel", "changed", "(JI)J"⟩, 26) := ⟨⟨by decide +kernel, by decide +kernel⟩, List.mem_of_getElem? (i := 559) (by decide +kernel), List.mem_of_getElem? (i := 787) (by decide +kernel), List.mem_of_getElem? (i := 788) (by decide +kernel)⟩
theorem lw_p35 : lw_okq (⟨"WeighGatesModel", "meet", "(J)V"⟩, 26) := ⟨⟨by decide +kernel, by decide +kernel⟩, List.mem_of_getElem? (i := 559) (by decide +kernel), List.mem_of_getElem? (i := 791) (by decide +kernel), List.mem_of_getElem? (i := 792) (by decide +kernel)⟩
theorem lw_p36 : lw_okq (⟨"WeighGatesModel", "firstOf", "(JI)I"⟩, 26) := ⟨⟨by decide +kernel, by decide +kernel⟩, List.mem_of_getElem? (i := 559) (by decide +kernel), List.mem_of_getElem? (i := 812) (by decide +kernel), List.mem_of_getElem? (i := 813) (by decide +kernel)⟩
theorem lw_p37 : lw_okq (⟨"WeighGatesModel", "isSecond", "(III)Z"⟩, 26) := ⟨⟨by decide +kernel, by decide +kernel⟩, List.mem_of_getElem? (i := 559) (by decide +kernel), List.mem_of_getElem? (i := 819) (by decide +kernel), List.mem_of_getElem? (i := 820) (by decide +kernel)⟩
theorem lw_p38 : lw_okq (⟨"WeighGatesModel", "inputsGate", "(I)Z"⟩, 26) := ⟨⟨by decide +kernel, by decide +kernel⟩, List.mem_of_getElem? (i := 559) (by decide +kernel), List.mem_of_getElem? (i := 823) (by decide +kernel), List.mem_of_getElem? (i := 824) (by decide +kernel)⟩
theorem lw_p39 : lw_okq (⟨"WeighGatesModel", "isNetGate", "(I)Z"⟩, 26) := ⟨⟨by decide +kernel, by decide +kernel⟩, List.mem_of_getElem? (i := 559) (by decide +kernel), List.mem_of_getElem? (i := 851) (by decide +kernel), List.mem_of_getElem? (i := 852) (by decide +kernel)⟩
theorem lw_p40 : lw_okq (⟨"WeighGatesModel", "work", "(II)V"⟩, 26) := ⟨⟨by decide +kernel, by decide +kernel⟩, List.mem_of_getElem? (i := 559) (by decide +kernel), List.mem_of_getElem? (i := 855) (by decide +kernel), List.mem_of_getElem? (i := 856) (by decide +kernel)⟩
def lw_privs_3 : List (MethodName × Nat) := [(⟨"WeighGatesModel", "next", "(II)Z"⟩, 26), (⟨"WeighGatesModel", "layKind", "(JI)V"⟩, 26), (⟨"WeighGatesModel", "changed", "(JI)J"⟩, 26), (⟨"WeighGatesModel", "meet", "(J)V"⟩, 26), (⟨"WeighGatesModel", "firstOf", "(JI)I"⟩, 26), (⟨"WeighGatesModel", "isSecond", "(III)Z"⟩, 26), (⟨"WeighGatesModel", "inputsGate", "(I)Z"⟩, 26), (⟨"WeighGatesModel", "isNetGate", "(I)Z"⟩, 26), (⟨"WeighGatesModel", "work", "(II)V"⟩, 26)]
theorem lw_r3 : ∀ q ∈ lw_privs_3, lw_okq q := List.forall_mem_cons.mpr ⟨lw_p32, List.forall_mem_cons.mpr ⟨lw_p33, List.forall_mem_cons.mpr ⟨lw_p34, List.forall_mem_cons.mpr ⟨lw_p35, List.forall_mem_cons.mpr ⟨lw_p36, List.forall_mem_cons.mpr ⟨lw_p37, List.forall_mem_cons.mpr ⟨lw_p38, List.forall_mem_cons.mpr ⟨lw_p39, List.forall_mem_cons.mpr ⟨lw_p40, fun _ h => absurd h List.not_mem_nil⟩⟩⟩⟩⟩⟩⟩⟩⟩
def lw_privs : List (MethodName × Nat) := lw_privs_1 ++ (lw_privs_2 ++ (lw_privs_3))
def lw_tbl : List Cond := k2_sels lw_privs ++ tables_1
theorem lw_privs_ok : ∀ q ∈ lw_privs, lw_okq q := by
  show ∀ q ∈ lw_privs_1 ++ (lw_privs_2 ++ (lw_privs_3)), lw_okq q
  exact List.forall_mem_append.mpr ⟨lw_r1, List.forall_mem_append.mpr ⟨lw_r2, lw_r3⟩⟩
end
section
/-! ===== BEGIN words of one list among another's, by their places ===== -/
theorem goodIn_r {big : List Cond} (ws : List Cond) (ps : List Nat) (hp : ws = ps.filterMap (fun i => big[i]?)) (h : ws.all goodWord = true) : GoodIn big ws := by
  intro w hw
  have h1 := List.all_eq_true.mp h w hw
  rw [hp] at hw
  obtain ⟨i, -, hi⟩ := List.mem_filterMap.mp hw
  have hm : w ∈ big := by first | exact List.mem_of_getElem? hi | exact List.getElem?_mem hi
  exact ⟨hm, good_of_word h1⟩
theorem goodIn_app {big a b : List Cond} (ha : GoodIn big a) (hb : GoodIn big b) : GoodIn big (a ++ b) := fun w h => (List.mem_append.mp h).elim (ha w) (hb w)
theorem goodIn_ca {big a b : List Cond} {c : Cond} (ha : GoodIn big (c :: a)) (hb : GoodIn big b) : GoodIn big (c :: (a ++ b)) := fun w h => (List.mem_cons.mp h).elim (fun e => ha w (List.mem_cons.mpr (Or.inl e))) (fun h => (List.mem_append.mp h).elim (fun h => ha w (List.mem_cons.mpr (Or.inr h))) (hb w))
theorem goodIn_sub {big ws : List Cond} (hm : ∀ w ∈ ws, w ∈ big) (h : ws.all goodWord = true) : GoodIn big ws := fun w hw => ⟨hm w hw, good_of_word (List.all_eq_true.mp h w hw)⟩
/-! ===== END ===== -/
/-! ===== BEGIN printed: names, fields, word lists, decode rows ===== -/
def RX0 : String := "WeighGates$GatePair"
def TX0 : u_T := fun k => match k with
  | 0 => ("WeighGates$GatePair", "proof", "LWeighGates$Witness;", true)
  | 1 => ("WeighGates$GatePair", "weighed", "LWeighGates$RowSums;", true)
  | 2 => ("WeighGates$GatePair", "wrongZeros", "[J", true)
  | _ => ("WeighGates$GatePair", "wrongOnes", "[J", true)
def tyX0 : Nat → FieldType := fun k => match k with
  | 0 => .object "WeighGates$Witness"
  | 1 => .object "WeighGates$RowSums"
  | 2 => .array .long
  | _ => .array .long
abbrev wsX00 : List Cond := u_ws RX0 TX0 4
theorem nmX0 : ∀ a, a < 4 → ∀ b, b < 4 → a ≠ b → (TX0 a).2.1 ≠ (TX0 b).2.1 := by decide +kernel
theorem tyX0_ok : ∀ k, k < 4 → parseFieldDescriptor (TX0 k).2.2.1 = some (tyX0 k) := by decide +kernel
abbrev cX0_init : ByteArray := prog_2_method_1_code
def yX0_init : MethodName := ⟨RX0, "<init>", "()V"⟩
abbrev cX0_leastFirst : ByteArray := prog_2_method_2_code
def yX0_leastFirst : MethodName := ⟨RX0, "leastFirst", "(IJ)I"⟩
abbrev cX0_weighRows : ByteArray := prog_2_method_3_code
def yX0_weighRows : MethodName := ⟨RX0, "weighRows", "(II)V"⟩
abbrev cX0_findWrongRows : ByteArray := prog_2_method_4_code
def yX0_findWrongRows : MethodName := ⟨RX0, "findWrongRows", "(IJI)V"⟩
abbrev cX0_partsSomeOrder : ByteArray := prog_2_method_5_code
def yX0_partsSomeOrder : MethodName := ⟨RX0, "partsSomeOrder", "(J)Z"⟩
def RX1 : String := "WeighGates$Kind"
def TX1 : u_T := fun k => match k with
  | 0 => ("WeighGates$Kind", "leastBits", "J", false)
  | 1 => ("WeighGates$Kind", "n", "I", false)
  | 2 => ("WeighGates$Kind", "ways", "I", false)
  | _ => ("WeighGates$Kind", "waysToLeast", "I", false)
def tyX1 : Nat → FieldType := fun k => match k with
  | 0 => .long
  | 1 => .int
  | 2 => .int
  | _ => .int
abbrev wsX10 : List Cond := u_ws RX1 TX1 4
theorem nmX1 : ∀ a, a < 4 → ∀ b, b < 4 → a ≠ b → (TX1 a).2.1 ≠ (TX1 b).2.1 := by decide +kernel
theorem tyX1_ok : ∀ k, k < 4 → parseFieldDescriptor (TX1 k).2.2.1 = some (tyX1 k) := by decide +kernel
abbrev cX1_init : ByteArray := prog_3_method_1_code
def yX1_init : MethodName := ⟨RX1, "<init>", "()V"⟩
abbrev cX1_find : ByteArray := prog_3_method_2_code
def yX1_find : MethodName := ⟨RX1, "find", "(IJ)V"⟩
abbrev cX1_members : ByteArray := prog_3_method_3_code
def yX1_members : MethodName := ⟨RX1, "members", "()I"⟩
abbrev cX1_changePlaces : ByteArray := prog_3_method_4_code
def yX1_changePlaces : MethodName := ⟨RX1, "changePlaces", "(IJ)V"⟩
abbrev cX1_turnInputs : ByteArray := prog_3_method_5_code
def yX1_turnInputs : MethodName := ⟨RX1, "turnInputs", "(J)V"⟩
abbrev cX1_meet : ByteArray := prog_3_method_6_code
def yX1_meet : MethodName := ⟨RX1, "meet", "(J)V"⟩
abbrev cX1_compare : ByteArray := prog_3_method_7_code
def yX1_compare : MethodName := ⟨RX1, "compare", "(J)V"⟩
def RX2 : String := "WeighGates$LeastWeighing"
def TX2 : u_T := fun k => match k with
  | 0 => ("WeighGates$LeastWeighing", "weights", "[I", true)
  | 1 => ("WeighGates$LeastWeighing", "bound", "I", false)
  | 2 => ("WeighGates$LeastWeighing", "size", "I", false)
  | 3 => ("WeighGates$LeastWeighing", "n", "I", false)
  | 4 => ("WeighGates$LeastWeighing", "bits", "J", false)
  | 5 => ("WeighGates$LeastWeighing", "pulls", "[I", true)
  | 6 => ("WeighGates$LeastWeighing", "floors", "[I", true)
  | _ => ("WeighGates$LeastWeighing", "weighed", "LWeighGates$RowSums;", true)
def tyX2 : Nat → FieldType := fun k => match k with
  | 0 => .array .int
  | 1 => .int
  | 2 => .int
  | 3 => .int
  | 4 => .long
  | 5 => .array .int
  | 6 => .array .int
  | _ => .object "WeighGates$RowSums"
abbrev wsX20 : List Cond := u_ws RX2 TX2 8
theorem nmX2 : ∀ a, a < 8 → ∀ b, b < 8 → a ≠ b → (TX2 a).2.1 ≠ (TX2 b).2.1 := by decide +kernel
theorem tyX2_ok : ∀ k, k < 8 → parseFieldDescriptor (TX2 k).2.2.1 = some (tyX2 k) := by decide +kernel
abbrev cX2_init : ByteArray := prog_4_method_1_code
def yX2_init : MethodName := ⟨RX2, "<init>", "()V"⟩
abbrev cX2_find : ByteArray := prog_4_method_2_code
def yX2_find : MethodName := ⟨RX2, "find", "(IJ)Z"⟩
abbrev cX2_findFloors : ByteArray := prog_4_method_3_code
def yX2_findFloors : MethodName := ⟨RX2, "findFloors", "()I"⟩
abbrev cX2_raiseFloor : ByteArray := prog_4_method_4_code
def yX2_raiseFloor : MethodName := ⟨RX2, "raiseFloor", "(I)V"⟩
abbrev cX2_share : ByteArray := prog_4_method_5_code
def yX2_share : MethodName := ⟨RX2, "share", "(II)Z"⟩
abbrev cX2_keepsOrder : ByteArray := prog_4_method_6_code
def yX2_keepsOrder : MethodName := ⟨RX2, "keepsOrder", "(II)Z"⟩
abbrev cX2_separates : ByteArray := prog_4_method_7_code
def yX2_separates : MethodName := ⟨RX2, "separates", "()Z"⟩
abbrev cX2_thousandthsOff : ByteArray := prog_4_method_8_code
def yX2_thousandthsOff : MethodName := ⟨RX2, "thousandthsOff", "()I"⟩
def RX3 : String := "WeighGates$Net"
def TX3 : u_T := fun k => match k with
  | 0 => ("WeighGates$Net", "inputCount", "I", false)
  | 1 => ("WeighGates$Net", "gateCount", "I", false)
  | 2 => ("WeighGates$Net", "told", "[J", true)
  | 3 => ("WeighGates$Net", "depths", "[I", true)
  | 4 => ("WeighGates$Net", "weights", "[[I", true)
  | 5 => ("WeighGates$Net", "bounds", "[I", true)
  | _ => ("WeighGates$Net", "supposed", "[J", true)
def tyX3 : Nat → FieldType := fun k => match k with
  | 0 => .int
  | 1 => .int
  | 2 => .array .long
  | 3 => .array .int
  | 4 => .array (.array .int)
  | 5 => .array .int
  | _ => .array .long
abbrev wsX30 : List Cond := u_ws RX3 TX3 7
theorem nmX3 : ∀ a, a < 7 → ∀ b, b < 7 → a ≠ b → (TX3 a).2.1 ≠ (TX3 b).2.1 := by decide +kernel
theorem tyX3_ok : ∀ k, k < 7 → parseFieldDescriptor (TX3 k).2.2.1 = some (tyX3 k) := by decide +kernel
abbrev cX3_init : ByteArray := prog_5_method_1_code
def yX3_init : MethodName := ⟨RX3, "<init>", "()V"⟩
abbrev cX3_clear : ByteArray := prog_5_method_2_code
def yX3_clear : MethodName := ⟨RX3, "clear", "(I)V"⟩
abbrev cX3_swapNextWeight : ByteArray := prog_5_method_3_code
def yX3_swapNextWeight : MethodName := ⟨RX3, "swapNextWeight", "(II)I"⟩
abbrev cX3_append : ByteArray := prog_5_method_4_code
def yX3_append : MethodName := ⟨RX3, "append", "(I)I"⟩
abbrev cX3_lastTold : ByteArray := prog_5_method_5_code
def yX3_lastTold : MethodName := ⟨RX3, "lastTold", "()J"⟩
abbrev cX3_lastToldWith : ByteArray := prog_5_method_6_code
def yX3_lastToldWith : MethodName := ⟨RX3, "lastToldWith", "(IZ)J"⟩
abbrev cX3_toldBy : ByteArray := prog_5_method_7_code
def yX3_toldBy : MethodName := ⟨RX3, "toldBy", "(I[J)J"⟩
abbrev cX3_sumAt : ByteArray := prog_5_method_8_code
def yX3_sumAt : MethodName := ⟨RX3, "sumAt", "(II[J)I"⟩
abbrev cX3_depthOf : ByteArray := prog_5_method_9_code
def yX3_depthOf : MethodName := ⟨RX3, "depthOf", "(I)I"⟩
def RX4 : String := "WeighGates$RowSums"
def TX4 : u_T := fun k => match k with
  | 0 => ("WeighGates$RowSums", "sums", "[I", true)
  | 1 => ("WeighGates$RowSums", "leastOfOnes", "I", false)
  | _ => ("WeighGates$RowSums", "greatestOfZeros", "I", false)
def tyX4 : Nat → FieldType := fun k => match k with
  | 0 => .array .int
  | 1 => .int
  | _ => .int
abbrev wsX40 : List Cond := u_ws RX4 TX4 3
theorem nmX4 : ∀ a, a < 3 → ∀ b, b < 3 → a ≠ b → (TX4 a).2.1 ≠ (TX4 b).2.1 := by decide +kernel
theorem tyX4_ok : ∀ k, k < 3 → parseFieldDescriptor (TX4 k).2.2.1 = some (tyX4 k) := by decide +kernel
abbrev cX4_init : ByteArray := prog_6_method_1_code
def yX4_init : MethodName := ⟨RX4, "<init>", "()V"⟩
abbrev cX4_setWeight : ByteArray := prog_6_method_2_code
def yX4_setWeight : MethodName := ⟨RX4, "setWeight", "(II)V"⟩
abbrev cX4_findEnds : ByteArray := prog_6_method_3_code
def yX4_findEnds : MethodName := ⟨RX4, "findEnds", "(IJ)V"⟩
def RX5 : String := "WeighGates$Rows"
def TX5 : u_T := fun k => match k with
  | _ => ("", "", "", false)
def tyX5 : Nat → FieldType := fun k => match k with
  | _ => .int
abbrev wsX50 : List Cond := u_ws RX5 TX5 0
theorem nmX5 : ∀ a, a < 0 → ∀ b, b < 0 → a ≠ b → (TX5 a).2.1 ≠ (TX5 b).2.1 := by decide +kernel
theorem tyX5_ok : ∀ k, k < 0 → parseFieldDescriptor (TX5 k).2.2.1 = some (tyX5 k) := by decide +kernel
abbrev cX5_number : ByteArray := prog_7_method_2_code
def yX5_number : MethodName := ⟨RX5, "number", "(I)I"⟩
abbrev cX5_all : ByteArray := prog_7_method_3_code
def yX5_all : MethodName := ⟨RX5, "all", "(I)J"⟩
abbrev cX5_isOne : ByteArray := prog_7_method_4_code
def yX5_isOne : MethodName := ⟨RX5, "isOne", "(JI)Z"⟩
abbrev cX5_hasInput : ByteArray := prog_7_method_5_code
def yX5_hasInput : MethodName := ⟨RX5, "hasInput", "(II)Z"⟩
abbrev cX5_onesWith : ByteArray := prog_7_method_6_code
def yX5_onesWith : MethodName := ⟨RX5, "onesWith", "(JI)I"⟩
abbrev cX5_inputTurned : ByteArray := prog_7_method_7_code
def yX5_inputTurned : MethodName := ⟨RX5, "inputTurned", "(JI)J"⟩
abbrev cX5_inputsSwapped : ByteArray := prog_7_method_8_code
def yX5_inputsSwapped : MethodName := ⟨RX5, "inputsSwapped", "(JII)J"⟩
abbrev cX5_inputHeld : ByteArray := prog_7_method_9_code
def yX5_inputHeld : MethodName := ⟨RX5, "inputHeld", "(IJIZ)J"⟩
def RX6 : String := "WeighGates$Witness"
def TX6 : u_T := fun k => match k with
  | _ => ("WeighGates$Witness", "rows", "[I", true)
def tyX6 : Nat → FieldType := fun k => match k with
  | _ => .array .int
abbrev wsX60 : List Cond := u_ws RX6 TX6 1
theorem nmX6 : ∀ a, a < 1 → ∀ b, b < 1 → a ≠ b → (TX6 a).2.1 ≠ (TX6 b).2.1 := by decide +kernel
theorem tyX6_ok : ∀ k, k < 1 → parseFieldDescriptor (TX6 k).2.2.1 = some (tyX6 k) := by decide +kernel
abbrev cX6_init : ByteArray := prog_8_method_1_code
def yX6_init : MethodName := ⟨RX6, "<init>", "()V"⟩
abbrev cX6_find : ByteArray := prog_8_method_2_code
def yX6_find : MethodName := ⟨RX6, "find", "(IJ)Z"⟩
abbrev cX6_findSecond : ByteArray := prog_8_method_3_code
def yX6_findSecond : MethodName := ⟨RX6, "findSecond", "(IJI)Z"⟩
abbrev cX6_findZeros : ByteArray := prog_8_method_4_code
def yX6_findZeros : MethodName := ⟨RX6, "findZeros", "(JII)Z"⟩
def RX7 : String := "WeighGates"
def TX7 : u_T := fun k => match k with
  | 0 => ("WeighGates", "slotInputs", "[I", true)
  | 1 => ("WeighGates", "slotBits", "[J", true)
  | 2 => ("WeighGates", "proof", "LWeighGates$Witness;", true)
  | 3 => ("WeighGates", "least", "LWeighGates$LeastWeighing;", true)
  | 4 => ("WeighGates", "kind", "LWeighGates$Kind;", true)
  | 5 => ("WeighGates", "pair", "LWeighGates$GatePair;", true)
  | _ => ("WeighGates", "network", "LWeighGates$Net;", true)
def tyX7 : Nat → FieldType := fun k => match k with
  | 0 => .array .int
  | 1 => .array .long
  | 2 => .object "WeighGates$Witness"
  | 3 => .object "WeighGates$LeastWeighing"
  | 4 => .object "WeighGates$Kind"
  | 5 => .object "WeighGates$GatePair"
  | _ => .object "WeighGates$Net"
abbrev wsX70 : List Cond := u_ws RX7 TX7 7
theorem nmX7 : ∀ a, a < 7 → ∀ b, b < 7 → a ≠ b → (TX7 a).2.1 ≠ (TX7 b).2.1 := by decide +kernel
theorem tyX7_ok : ∀ k, k < 7 → parseFieldDescriptor (TX7 k).2.2.1 = some (tyX7 k) := by decide +kernel
abbrev cX7_init : ByteArray := prog_1_method_1_code
def yX7_init : MethodName := ⟨RX7, "<init>", "()V"⟩
abbrev cX7_table : ByteArray := prog_1_method_2_code
def yX7_table : MethodName := ⟨RX7, "table", "(IIJ)I"⟩
abbrev cX7_weigh : ByteArray := prog_1_method_3_code
def yX7_weigh : MethodName := ⟨RX7, "weigh", "(IIJI)J"⟩
abbrev cX7_bits : ByteArray := prog_1_method_4_code
def yX7_bits : MethodName := ⟨RX7, "bits", "(I)J"⟩
abbrev cX7_inputs : ByteArray := prog_1_method_5_code
def yX7_inputs : MethodName := ⟨RX7, "inputs", "(I)I"⟩
abbrev cX7_most : ByteArray := prog_1_method_6_code
def yX7_most : MethodName := ⟨RX7, "most", "(IIII)I"⟩
abbrev cX7_turn : ByteArray := prog_1_method_7_code
def yX7_turn : MethodName := ⟨RX7, "turn", "(III)I"⟩
abbrev cX7_hold : ByteArray := prog_1_method_8_code
def yX7_hold : MethodName := ⟨RX7, "hold", "(IIIZ)I"⟩
abbrev cX7_matters : ByteArray := prog_1_method_9_code
def yX7_matters : MethodName := ⟨RX7, "matters", "(II)I"⟩
abbrev cX7_ones : ByteArray := prog_1_method_10_code
def yX7_ones : MethodName := ⟨RX7, "ones", "(II)I"⟩
abbrev cX7_gate : ByteArray := prog_1_method_11_code
def yX7_gate : MethodName := ⟨RX7, "gate", "(I)I"⟩
abbrev cX7_weight : ByteArray := prog_1_method_12_code
def yX7_weight : MethodName := ⟨RX7, "weight", "(II)I"⟩
abbrev cX7_bound : ByteArray := prog_1_method_13_code
def yX7_bound : MethodName := ⟨RX7, "bound", "(I)I"⟩
abbrev cX7_size : ByteArray := prog_1_method_14_code
def yX7_size : MethodName := ⟨RX7, "size", "(I)I"⟩
abbrev cX7_witness : ByteArray := prog_1_method_15_code
def yX7_witness : MethodName := ⟨RX7, "witness", "(II)I"⟩
abbrev cX7_slack : ByteArray := prog_1_method_16_code
def yX7_slack : MethodName := ⟨RX7, "slack", "(I)I"⟩
abbrev cX7_chief : ByteArray := prog_1_method_17_code
def yX7_chief : MethodName := ⟨RX7, "chief", "(I)J"⟩
abbrev cX7_kin : ByteArray := prog_1_method_18_code
def yX7_kin : MethodName := ⟨RX7, "kin", "(I)I"⟩
abbrev cX7_gates : ByteArray := prog_1_method_19_code
def yX7_gates : MethodName := ⟨RX7, "gates", "(I)I"⟩
abbrev cX7_kinds : ByteArray := prog_1_method_20_code
def yX7_kinds : MethodName := ⟨RX7, "kinds", "(IZ)I"⟩
abbrev cX7_fewest : ByteArray := prog_1_method_21_code
def yX7_fewest : MethodName := ⟨RX7, "fewest", "(I)I"⟩
abbrev cX7_first : ByteArray := prog_1_method_22_code
def yX7_first : MethodName := ⟨RX7, "first", "(I)I"⟩
abbrev cX7_net : ByteArray := prog_1_method_23_code
def yX7_net : MethodName := ⟨RX7, "net", "(I)I"⟩
abbrev cX7_put : ByteArray := prog_1_method_24_code
def yX7_put : MethodName := ⟨RX7, "put", "(II)I"⟩
abbrev cX7_add : ByteArray := prog_1_method_25_code
def yX7_add : MethodName := ⟨RX7, "add", "(I)I"⟩
abbrev cX7_tell : ByteArray := prog_1_method_26_code
def yX7_tell : MethodName := ⟨RX7, "tell", "(II)I"⟩
abbrev cX7_unlike : ByteArray := prog_1_method_27_code
def yX7_unlike : MethodName := ⟨RX7, "unlike", "(I)I"⟩
abbrev cX7_depth : ByteArray := prog_1_method_28_code
def yX7_depth : MethodName := ⟨RX7, "depth", "(I)I"⟩
abbrev cX7_idle : ByteArray := prog_1_method_29_code
def yX7_idle : MethodName := ⟨RX7, "idle", "(IZ)I"⟩
abbrev cX7_count : ByteArray := prog_1_method_30_code
def yX7_count : MethodName := ⟨RX7, "count", "(I)I"⟩
abbrev cX7_isWithin : ByteArray := prog_1_method_31_code
def yX7_isWithin : MethodName := ⟨RX7, "isWithin", "(III)Z"⟩
abbrev cX7_isSlot : ByteArray := prog_1_method_32_code
def yX7_isSlot : MethodName := ⟨RX7, "isSlot", "(I)Z"⟩
abbrev cX7_isInput : ByteArray := prog_1_method_33_code
def yX7_isInput : MethodName := ⟨RX7, "isInput", "(II)Z"⟩
abbrev cX7_isGateOfNet : ByteArray := prog_1_method_34_code
def yX7_isGateOfNet : MethodName := ⟨RX7, "isGateOfNet", "(I)Z"⟩
abbrev cX7_keep : ByteArray := prog_1_method_35_code
def yX7_keep : MethodName := ⟨RX7, "keep", "(IIJ)I"⟩
abbrev cX7_sumAt : ByteArray := prog_1_method_36_code
def yX7_sumAt : MethodName := ⟨RX7, "sumAt", "(IIJ)I"⟩
abbrev cX7_tellsGate : ByteArray := prog_1_method_37_code
def yX7_tellsGate : MethodName := ⟨RX7, "tellsGate", "(I)Z"⟩
abbrev cX7_findLeast : ByteArray := prog_1_method_38_code
def yX7_findLeast : MethodName := ⟨RX7, "findLeast", "(I)Z"⟩
def RX8 : String := "WeighGatesModel"
def TX8 : u_T := fun k => match k with
  | 0 => ("WeighGatesModel", "inputs", "[I", true)
  | 1 => ("WeighGatesModel", "table", "[J", true)
  | 2 => ("WeighGatesModel", "three", "[I", true)
  | 3 => ("WeighGatesModel", "hasFalse", "[Z", true)
  | 4 => ("WeighGatesModel", "witness", "[I", true)
  | 5 => ("WeighGatesModel", "solved", "J", false)
  | 6 => ("WeighGatesModel", "solvedInputs", "I", false)
  | 7 => ("WeighGatesModel", "solvedGate", "Z", false)
  | 8 => ("WeighGatesModel", "size", "[I", true)
  | 9 => ("WeighGatesModel", "weight", "[I", true)
  | 10 => ("WeighGatesModel", "bound", "I", false)
  | 11 => ("WeighGatesModel", "order", "[I", true)
  | 12 => ("WeighGatesModel", "mark", "[I", true)
  | 13 => ("WeighGatesModel", "marks", "I", false)
  | 14 => ("WeighGatesModel", "chief", "J", false)
  | 15 => ("WeighGatesModel", "kin", "I", false)
  | 16 => ("WeighGatesModel", "gateMany", "[I", true)
  | 17 => ("WeighGatesModel", "kindMany", "[I", true)
  | 18 => ("WeighGatesModel", "firsts", "[I", true)
  | 19 => ("WeighGatesModel", "netInputs", "I", false)
  | 20 => ("WeighGatesModel", "gates", "I", false)
  | 21 => ("WeighGatesModel", "told", "[I", true)
  | 22 => ("WeighGatesModel", "netWeight", "[I", true)
  | 23 => ("WeighGatesModel", "netBound", "[I", true)
  | 24 => ("WeighGatesModel", "works", "[I", true)
  | _ => ("WeighGatesModel", "deep", "[I", true)
def tyX8 : Nat → FieldType := fun k => match k with
  | 0 => .array .int
  | 1 => .array .long
  | 2 => .array .int
  | 3 => .array .boolean
  | 4 => .array .int
  | 5 => .long
  | 6 => .int
  | 7 => .boolean
  | 8 => .array .int
  | 9 => .array .int
  | 10 => .int
  | 11 => .array .int
  | 12 => .array .int
  | 13 => .int
  | 14 => .long
  | 15 => .int
  | 16 => .array .int
  | 17 => .array .int
  | 18 => .array .int
  | 19 => .int
  | 20 => .int
  | 21 => .array .int
  | 22 => .array .int
  | 23 => .array .int
  | 24 => .array .int
  | _ => .array .int
abbrev wsX80 : List Cond := u_ws RX8 TX8 26
theorem nmX8 : ∀ a, a < 26 → ∀ b, b < 26 → a ≠ b → (TX8 a).2.1 ≠ (TX8 b).2.1 := by decide +kernel
theorem tyX8_ok : ∀ k, k < 26 → parseFieldDescriptor (TX8 k).2.2.1 = some (tyX8 k) := by decide +kernel
abbrev cX8_init : ByteArray := prog_10_method_1_code
def yX8_init : MethodName := ⟨RX8, "<init>", "()V"⟩
abbrev cX8_in : ByteArray := prog_10_method_3_code
def yX8_in : MethodName := ⟨RX8, "in", "(JJJ)Z"⟩
abbrev cX8_isSlot : ByteArray := prog_10_method_4_code
def yX8_isSlot : MethodName := ⟨RX8, "isSlot", "(I)Z"⟩
abbrev cX8_isInput : ByteArray := prog_10_method_5_code
def yX8_isInput : MethodName := ⟨RX8, "isInput", "(II)Z"⟩
abbrev cX8_whole : ByteArray := prog_10_method_6_code
def yX8_whole : MethodName := ⟨RX8, "whole", "(I)J"⟩
abbrev cX8_is : ByteArray := prog_10_method_7_code
def yX8_is : MethodName := ⟨RX8, "is", "(JI)Z"⟩
abbrev cX8_ones : ByteArray := prog_10_method_8_code
def yX8_ones : MethodName := ⟨RX8, "ones", "(J)I"⟩
abbrev cX8_set : ByteArray := prog_10_method_9_code
def yX8_set : MethodName := ⟨RX8, "set", "(IIJ)I"⟩
abbrev cX8_table : ByteArray := prog_10_method_10_code
def yX8_table : MethodName := ⟨RX8, "table", "(IIJ)I"⟩
abbrev cX8_weigh : ByteArray := prog_10_method_11_code
def yX8_weigh : MethodName := ⟨RX8, "weigh", "(IIJI)J"⟩
abbrev cX8_bits : ByteArray := prog_10_method_12_code
def yX8_bits : MethodName := ⟨RX8, "bits", "(I)J"⟩
abbrev cX8_inputs : ByteArray := prog_10_method_13_code
def yX8_inputs : MethodName := ⟨RX8, "inputs", "(I)I"⟩
abbrev cX8_most : ByteArray := prog_10_method_14_code
def yX8_most : MethodName := ⟨RX8, "most", "(IIII)I"⟩
abbrev cX8_turned : ByteArray := prog_10_method_15_code
def yX8_turned : MethodName := ⟨RX8, "turned", "(JII)J"⟩
abbrev cX8_turn : ByteArray := prog_10_method_16_code
def yX8_turn : MethodName := ⟨RX8, "turn", "(III)I"⟩
abbrev cX8_hold : ByteArray := prog_10_method_17_code
def yX8_hold : MethodName := ⟨RX8, "hold", "(IIIZ)I"⟩
abbrev cX8_matters : ByteArray := prog_10_method_18_code
def yX8_matters : MethodName := ⟨RX8, "matters", "(II)I"⟩
abbrev cX8_ones_ : ByteArray := prog_10_method_19_code
def yX8_ones_ : MethodName := ⟨RX8, "ones", "(II)I"⟩
abbrev cX8_layThree : ByteArray := prog_10_method_20_code
def yX8_layThree : MethodName := ⟨RX8, "layThree", "(I)V"⟩
abbrev cX8_layFalse : ByteArray := prog_10_method_21_code
def yX8_layFalse : MethodName := ⟨RX8, "layFalse", "(JI)V"⟩
abbrev cX8_isGate : ByteArray := prog_10_method_22_code
def yX8_isGate : MethodName := ⟨RX8, "isGate", "(JI)Z"⟩
abbrev cX8_findOthers : ByteArray := prog_10_method_23_code
def yX8_findOthers : MethodName := ⟨RX8, "findOthers", "(JI)V"⟩
abbrev cX8_next : ByteArray := prog_10_method_24_code
def yX8_next : MethodName := ⟨RX8, "next", "(II)Z"⟩
abbrev cX8_sumOf : ByteArray := prog_10_method_25_code
def yX8_sumOf : MethodName := ⟨RX8, "sumOf", "(II)I"⟩
abbrev cX8_parts : ByteArray := prog_10_method_26_code
def yX8_parts : MethodName := ⟨RX8, "parts", "(JII)Z"⟩
abbrev cX8_falling : ByteArray := prog_10_method_27_code
def yX8_falling : MethodName := ⟨RX8, "falling", "(JI)I"⟩
abbrev cX8_solve : ByteArray := prog_10_method_28_code
def yX8_solve : MethodName := ⟨RX8, "solve", "(JI)V"⟩
abbrev cX8_gate : ByteArray := prog_10_method_29_code
def yX8_gate : MethodName := ⟨RX8, "gate", "(I)I"⟩
abbrev cX8_weight : ByteArray := prog_10_method_30_code
def yX8_weight : MethodName := ⟨RX8, "weight", "(II)I"⟩
abbrev cX8_bound : ByteArray := prog_10_method_31_code
def yX8_bound : MethodName := ⟨RX8, "bound", "(I)I"⟩
abbrev cX8_size : ByteArray := prog_10_method_32_code
def yX8_size : MethodName := ⟨RX8, "size", "(I)I"⟩
abbrev cX8_witness : ByteArray := prog_10_method_33_code
def yX8_witness : MethodName := ⟨RX8, "witness", "(II)I"⟩
abbrev cX8_slack : ByteArray := prog_10_method_34_code
def yX8_slack : MethodName := ⟨RX8, "slack", "(I)I"⟩
abbrev cX8_changed : ByteArray := prog_10_method_35_code
def yX8_changed : MethodName := ⟨RX8, "changed", "(JI)J"⟩
abbrev cX8_meet : ByteArray := prog_10_method_36_code
def yX8_meet : MethodName := ⟨RX8, "meet", "(J)V"⟩
abbrev cX8_layKind : ByteArray := prog_10_method_37_code
def yX8_layKind : MethodName := ⟨RX8, "layKind", "(JI)V"⟩
abbrev cX8_chief : ByteArray := prog_10_method_38_code
def yX8_chief : MethodName := ⟨RX8, "chief", "(I)J"⟩
abbrev cX8_kin : ByteArray := prog_10_method_39_code
def yX8_kin : MethodName := ⟨RX8, "kin", "(I)I"⟩
abbrev cX8_gates : ByteArray := prog_10_method_40_code
def yX8_gates : MethodName := ⟨RX8, "gates", "(I)I"⟩
abbrev cX8_kinds : ByteArray := prog_10_method_41_code
def yX8_kinds : MethodName := ⟨RX8, "kinds", "(IZ)I"⟩
abbrev cX8_isSecond : ByteArray := prog_10_method_42_code
def yX8_isSecond : MethodName := ⟨RX8, "isSecond", "(III)Z"⟩
abbrev cX8_asThree : ByteArray := prog_10_method_43_code
def yX8_asThree : MethodName := ⟨RX8, "asThree", "(JI)I"⟩
abbrev cX8_firstOf : ByteArray := prog_10_method_44_code
def yX8_firstOf : MethodName := ⟨RX8, "firstOf", "(JI)I"⟩
abbrev cX8_fewest : ByteArray := prog_10_method_45_code
def yX8_fewest : MethodName := ⟨RX8, "fewest", "(I)I"⟩
abbrev cX8_inputsGate : ByteArray := prog_10_method_46_code
def yX8_inputsGate : MethodName := ⟨RX8, "inputsGate", "(I)Z"⟩
abbrev cX8_first : ByteArray := prog_10_method_47_code
def yX8_first : MethodName := ⟨RX8, "first", "(I)I"⟩
abbrev cX8_isNetGate : ByteArray := prog_10_method_48_code
def yX8_isNetGate : MethodName := ⟨RX8, "isNetGate", "(I)Z"⟩
abbrev cX8_net : ByteArray := prog_10_method_49_code
def yX8_net : MethodName := ⟨RX8, "net", "(I)I"⟩
abbrev cX8_put : ByteArray := prog_10_method_50_code
def yX8_put : MethodName := ⟨RX8, "put", "(II)I"⟩
abbrev cX8_add : ByteArray := prog_10_method_51_code
def yX8_add : MethodName := ⟨RX8, "add", "(I)I"⟩
abbrev cX8_work : ByteArray := prog_10_method_52_code
def yX8_work : MethodName := ⟨RX8, "work", "(II)V"⟩
abbrev cX8_tell : ByteArray := prog_10_method_53_code
def yX8_tell : MethodName := ⟨RX8, "tell", "(II)I"⟩
abbrev cX8_unlike : ByteArray := prog_10_method_54_code
def yX8_unlike : MethodName := ⟨RX8, "unlike", "(I)I"⟩
abbrev cX8_depth : ByteArray := prog_10_method_55_code
def yX8_depth : MethodName := ⟨RX8, "depth", "(I)I"⟩
abbrev cX8_idle : ByteArray := prog_10_method_56_code
def yX8_idle : MethodName := ⟨RX8, "idle", "(IZ)I"⟩
abbrev cX8_count : ByteArray := prog_10_method_57_code
def yX8_count : MethodName := ⟨RX8, "count", "(I)I"⟩
def RJ6 : String := "java/lang/Integer"
def TJ6 : u_T := fun k => match k with
  | _ => ("", "", "", false)
def tyJ6 : Nat → FieldType := fun k => match k with
  | _ => .int
abbrev wsJ60 : List Cond := u_ws RJ6 TJ6 0
theorem nmJ6 : ∀ a, a < 0 → ∀ b, b < 0 → a ≠ b → (TJ6 a).2.1 ≠ (TJ6 b).2.1 := by decide +kernel
theorem tyJ6_ok : ∀ k, k < 0 → parseFieldDescriptor (TJ6 k).2.2.1 = some (tyJ6 k) := by decide +kernel
abbrev cJ6_numberOfTrailingZeros_0f7a4 : ByteArray := prog_11_method_48_code
def yJ6_numberOfTrailingZeros_0f7a4 : MethodName := ⟨RJ6, "numberOfTrailingZeros", "(I)I"⟩
abbrev cJ6_bitCount_0f7a4 : ByteArray := prog_11_method_49_code
def yJ6_bitCount_0f7a4 : MethodName := ⟨RJ6, "bitCount", "(I)I"⟩
def RJ13 : String := "java/lang/Long"
def TJ13 : u_T := fun k => match k with
  | _ => ("", "", "", false)
def tyJ13 : Nat → FieldType := fun k => match k with
  | _ => .int
abbrev wsJ130 : List Cond := u_ws RJ13 TJ13 0
theorem nmJ13 : ∀ a, a < 0 → ∀ b, b < 0 → a ≠ b → (TJ13 a).2.1 ≠ (TJ13 b).2.1 := by decide +kernel
theorem tyJ13_ok : ∀ k, k < 0 → parseFieldDescriptor (TJ13 k).2.2.1 = some (tyJ13 k) := by decide +kernel
abbrev cJ13_numberOfTrailingZeros_95d88 : ByteArray := prog_12_method_49_code
def yJ13_numberOfTrailingZeros_95d88 : MethodName := ⟨RJ13, "numberOfTrailingZeros", "(J)I"⟩
abbrev cJ13_bitCount_95d88 : ByteArray := prog_12_method_50_code
def yJ13_bitCount_95d88 : MethodName := ⟨RJ13, "bitCount", "(J)I"⟩
def RJ9 : String := "java/lang/Math"
def TJ9 : u_T := fun k => match k with
  | _ => ("", "", "", false)
def tyJ9 : Nat → FieldType := fun k => match k with
  | _ => .int
abbrev wsJ90 : List Cond := u_ws RJ9 TJ9 0
theorem nmJ9 : ∀ a, a < 0 → ∀ b, b < 0 → a ≠ b → (TJ9 a).2.1 ≠ (TJ9 b).2.1 := by decide +kernel
theorem tyJ9_ok : ∀ k, k < 0 → parseFieldDescriptor (TJ9 k).2.2.1 = some (tyJ9 k) := by decide +kernel
abbrev cJ9_abs_0f7a4 : ByteArray := prog_13_method_59_code
def yJ9_abs_0f7a4 : MethodName := ⟨RJ9, "abs", "(I)I"⟩
abbrev cJ9_max_7cf53 : ByteArray := prog_13_method_65_code
def yJ9_max_7cf53 : MethodName := ⟨RJ9, "max", "(II)I"⟩
abbrev cJ9_min_7cf53 : ByteArray := prog_13_method_69_code
def yJ9_min_7cf53 : MethodName := ⟨RJ9, "min", "(II)I"⟩
def RJ7 : String := "java/util/Arrays"
def TJ7 : u_T := fun k => match k with
  | _ => ("", "", "", false)
def tyJ7 : Nat → FieldType := fun k => match k with
  | _ => .int
abbrev wsJ70 : List Cond := u_ws RJ7 TJ7 0
theorem nmJ7 : ∀ a, a < 0 → ∀ b, b < 0 → a ≠ b → (TJ7 a).2.1 ≠ (TJ7 b).2.1 := by decide +kernel
theorem tyJ7_ok : ∀ k, k < 0 → parseFieldDescriptor (TJ7 k).2.2.1 = some (tyJ7 k) := by decide +kernel
abbrev cJ7_fill_53178 : ByteArray := prog_14_method_103_code
def yJ7_fill_53178 : MethodName := ⟨RJ7, "fill", "([II)V"⟩
def RL : String := "WeighGatesLaw"
abbrev cL_law : ByteArray := code
def yL_law : MethodName := ⟨RL, "law", "([I)Z"⟩
abbrev vwCl : List vw_C := [(RX0, TX0, 4), (RX1, TX1, 4), (RX2, TX2, 8), (RX3, TX3, 7), (RX4, TX4, 3), (RX6, TX6, 1), (RX7, TX7, 7), (RX8, TX8, 26)]
end
section

abbrev jG : Type := Launch × va_G × (Nat → Nat) × (Nat → ClassId) × (Nat → Nat)
/-- the address of cell k of the world -/
def jA (g : jG) (k : Nat) : Nat := g.2.2.1 k
/-- the array classes: 0 int, 1 long, 2 boolean, 3 int[] -/
def jc (g : jG) (k : Nat) : ClassId := g.2.2.2.1 k
/-- the addresses of the static arrays -/
def jsa (g : jG) (k : Nat) : Nat := g.2.2.2.2 k
abbrev jMem : Type := Nat → va_E
def jW (g : jG) (M : jMem) : va_W := (List.range 52).map fun k => (jA g k, M k)
abbrev jTys (g : jG) : List (ClassId × FieldType) := [(jc g 0, .int), (jc g 1, .long), (jc g 2, .boolean), (jc g 3, .array .int)]
def jTB : List Cond := lw_tbl.filter goodWord
theorem jTB_in {w : Cond} (h : w ∈ lw_tbl) (hg : goodWord w = true) : w ∈ jTB := List.mem_filter.mpr ⟨h, hg⟩
abbrev jY : Type := MethodName × ByteArray × Nat × Option FieldType
def jWs (y : jY) : List Cond := Cond.code y.1 y.2.1 y.2.2.1 y.2.2.2 :: jTB
def jR (d : Nat) : Room := { frames := d, cells := 0, slots := 0, locals := 40 * d }
/-- the static arrays: class, name, descriptor, element type, length, contents -/
def jSt : Nat → String × String × String × FieldType × Nat × (Nat → Value)
  | 0 => ("WeighGates", "GATES_OF", "[I", .int, 5, fun j => .int ([0, 4, 14, 104, 1882].getD j 0))
  | 1 => ("WeighGates", "KINDS_OF", "[I", .int, 4, fun j => .int ([0, 2, 4, 14].getD j 0))
  | 2 => ("WeighGates", "KINDS_OF_GATES_OF", "[I", .int, 4, fun j => .int ([0, 2, 3, 6].getD j 0))
  | 3 => ("WeighGates$Rows", "WITH_INPUT", "[J", .long, 5, fun j => .long ([2863311530, 3435973836, 4042322160, 4278255360, 4294901760].getD j 0))
  | _ => ("WeighGates$GatePair", "SIZES", "[I", .int, 36, fun j => .int ([1, 2, 4, 1, 4, 2, 2, 1, 4, 2, 4, 1, 4, 1, 2, 4, 2, 1, 2, 3, 4, 2, 4, 3, 3, 2, 4, 3, 4, 2, 4, 2, 3, 4, 3, 2].getD j 0))
def jS (g : jG) (A : Nat → Prop) (U : State) : Prop := ∀ k, k < 5 → va_Z (jSt k).1 (jSt k).2.1 (jSt k).2.2.1 (.ref (jsa g k)) A U U.heap ∧ va_T (jSt k).2.2.2.1 (jsa g k) (jSt k).2.2.2.2.1 (jSt k).2.2.2.2.2 A U U.heap
def jC (g : jG) (y : jY) (p : Program) (s : State) (m : MethodId) (args : Array Value) (meth : Method) (c : Code) (A : Nat → Prop) : Prop :=
  p.tables.exec = Jvm.exec ∧ c.code = y.2.1 ∧ c.maxLocals = y.2.2.1 ∧ s.vm.findClass y.1.cls = some m.cls ∧ (∀ w ∈ jWs y, w.before args s = true) ∧ meth.sig.returnType = y.2.2.2 ∧ meth.locks = false ∧ va_K g.2.1 vwCl (jTys g) s ∧ jS g A s ∧ ∀ q, s.heap.size ≤ q → A q
def jL (ls : Array Slot) (n : Nat) (l : List (Option Value)) : Prop := ls.size = n ∧ lv_wf ls ∧ ∀ (i : Nat) (v : Value), l[i]? = some (some v) → ls[i]? = some (.val v)
def jQ (g : jG) (K : Option Value → jMem → Prop) (A : Nat → Prop) : Array Value → State → Outcome → State → Prop := fun _ st oc t => (∃ (v : Option Value) (M : jMem), oc = .returned v ∧ K v M ∧ va_P g.2.1 vwCl (jW g M) t.heap ∧ va_D A (jW g M)) ∧ va_F A st t
/-- THE JUDGEMENT: from this frame, with the world's cells M, the method comes to its end, with an answer and cells of which K holds -/
def J (g : jG) (y : jY) (d : Nat) (K : Option Value → jMem → Prop) (pc : Nat) (ls : List (Option Value)) (st : List Value) (M : jMem) : Prop :=
  ∀ (p : Program) (e : Env) (s : State) (m : MethodId) (args : Array Value) (below : List Frame) (meth : Method) (c : Code) (A : Nat → Prop) (H : Heap) (locs : List Loc) (lr : Array Slot),
    jC g y p s m args meth c A → va_P g.2.1 vwCl (jW g M) H → va_D A (jW g M) → va_S A s.heap H locs → jL lr y.2.2.1 ls →
    W p g.1 e (jR d) s m args below meth c H locs 0 0 (MQ below (jQ g K A) args s 0 0 A) (F0 m pc lr st)
/-- A CONTRACT: called with As over the cells M, y returns with K -/
def Con (g : jG) (y : jY) (d : Nat) (As : List Value) (M : jMem) (K : Option Value → jMem → Prop) : Prop :=
  ∀ sz : Nat, Met g.1 y.1 (jWs y) (jR d) (va_Pc As (fun U => U.heap.size = sz ∧ va_P g.2.1 vwCl (jW g M) U.heap ∧ va_K g.2.1 vwCl (jTys g) U ∧ va_D (fun _ => True) (jW g M) ∧ jS g (va_A (jW g M) sz) U)) (jQ g K (va_A (jW g M) sz)) 0 0 (va_A (jW g M) sz)
theorem jW_get {g : jG} {M : jMem} {k : Nat} (h : k < 52) : (jW g M)[k]? = some (jA g k, M k) := by
  simp [jW, h]
theorem jW_set {g : jG} {M : jMem} {k : Nat} (hk : k < 52) (e : va_E) : (jW g M).set k (jA g k, e) = jW g (va_up M k e) := by
  apply List.ext_getElem?
  intro i
  by_cases hi : i = k
  · subst hi
    simp [jW, va_up, List.getElem?_set, hk]
  · simp [jW, va_up, hi, Ne.symm hi, List.getElem?_set]
    rcases Nat.lt_or_ge i 52 with h | h
    · simp [h, hi]
    · simp [h, Nat.not_lt.mpr h]
theorem jW_lt {g : jG} {M : jMem} {k : Nat} {q : Nat × va_E} (h : (jW g M)[k]? = some q) : k < 52 ∧ q = (jA g k, M k) := by
  have h1 := (List.getElem?_eq_some_iff.mp h).1
  have h2 : k < 52 := by simpa [jW] using h1
  refine ⟨h2, ?_⟩
  rw [jW_get h2] at h
  exact (Option.some.inj h).symm
/-- the locals with which a method begins -/
def jEnt : List Value → List (Option Value)
  | [] => []
  | v :: vs => if v.category = 2 then some v :: none :: jEnt vs else some v :: jEnt vs
theorem jEnt_in : ∀ (vs : List Value) (b i : Nat) (v : Value), (jEnt vs)[i]? = some (some v) → (b + i, v) ∈ lv_args b vs
  | [], b, i, v, h => by simp [jEnt] at h
  | w :: ws, b, i, v, h => by
    unfold lv_args
    unfold jEnt at h
    by_cases hc : w.category = 2
    · rw [if_pos hc] at h ⊢
      match i, h with
      | 0, h => simp at h; subst h; exact List.mem_cons_self
      | 1, h => simp at h
      | i + 2, h =>
        have h1 := jEnt_in ws (b + 2) i v (by simpa using h)
        have e : b + 2 + i = b + (i + 2) := by omega
        rw [e] at h1
        exact List.mem_cons_of_mem _ h1
    · rw [if_neg hc] at h ⊢
      match i, h with
      | 0, h => simp at h; subst h; exact List.mem_cons_self
      | i + 1, h =>
        have h1 := jEnt_in ws (b + 1) i v (by simpa using h)
        have e : b + 1 + i = b + (i + 1) := by omega
        rw [e] at h1
        exact List.mem_cons_of_mem _ h1
theorem jL_entry (vs : List Value) {n : Nat} (h : (lg_sl vs).length ≤ n) {l : List (Option Value)} (hl : l = jEnt vs ++ List.replicate (n - (jEnt vs).length) none) : jL ((lg_sl vs ++ List.replicate (n - (lg_sl vs).length) Slot.unset).toArray) n l := by
  obtain ⟨h1, h2, h3⟩ := lv_entry vs h
  refine ⟨h1, h2, fun i v hv => ?_⟩
  subst hl
  by_cases hi : i < (jEnt vs).length
  · rw [List.getElem?_append_left hi] at hv
    have := jEnt_in vs 0 i v hv
    rw [Nat.zero_add] at this
    exact h3 _ this
  · rw [List.getElem?_append_right (by omega)] at hv
    have := List.eq_of_mem_replicate (List.mem_of_getElem? hv)
    cases this
theorem con_of {g : jG} {y : jY} {d : Nat} {As : List Value} {M : jMem} {K : Option Value → jMem → Prop} {l : List (Option Value)} (hy : plainName y.1.cls = true) (hn : (lg_sl As).length ≤ y.2.2.1) (hl : l = jEnt As ++ List.replicate (y.2.2.1 - (jEnt As).length) none) (hJ : J g y d K 0 l [] M) : Con g y d As M K := by
  intro sz
  refine Met.ofW (cc := y.2.1) (maxL := y.2.2.1) (ret := y.2.2.2) hy rfl ?_
  intro p e s m args below meth c s₁ B hml hv
  obtain ⟨rfl, hsz, hP, hK, hD0, hS0⟩ := hv
  subst hsz
  rw [lg_entry_eq]
  exact hJ p e s m _ below meth c _ s.heap [] _ ⟨B.exec, B.bytes, hml, findClass_of_methodNamed B.named, atoms_spec (ws := jWs y) B.pre, B.returns, B.notSynchronized, hK, hS0, fun q h => Or.inr h⟩ hP hD0.self va_S.rf (jL_entry As hn hl)
theorem jS_moved {g : jG} {A B : Nat → Prop} {s U : State} {H : Heap} {locs : List Loc} (h : jS g A s) (hS : va_S A s.heap H locs) (hAB : ∀ q, B q → A q) (hU : U.heap = H) (hvm : s.vm.Alike U.vm) : jS g B U := by
  intro k hk
  obtain ⟨h1, h2⟩ := h k hk
  have kp : ∀ a : Nat, a < s.heap.size → ¬ A a → H[a]? = s.heap[a]? := fun a h1 h2 => hS.2.1 a h1 h2
  rw [hU]
  exact ⟨((h1.kept kp).narrow hAB).moved hvm, ((h2.kept kp).narrow hAB).moved hvm⟩
/-- the callee's words are among the caller's -/
theorem jGood (y y2 : jY) (hc : Cond.code y2.1 y2.2.1 y2.2.2.1 y2.2.2.2 ∈ jTB) : GoodIn (jWs y) (jWs y2) := by
  intro w hw
  have h1 : w ∈ jTB := by
    rcases List.mem_cons.mp hw with h | h
    · rw [h]; exact hc
    · exact h
  exact ⟨List.mem_cons_of_mem _ h1, good_of_word (List.mem_filter.mp h1).2⟩
/-- what holds of a static callee, and of one called on an object -/
def jCalS (y : jY) (n : Nat) : Prop := Cond.code y.1 y.2.1 y.2.2.1 y.2.2.2 ∈ jTB ∧ Cond.static y.1 ∈ jTB ∧ Cond.initialized y.1.cls ∈ jTB ∧ (y.1.cls ≠ "java/lang/invoke/MethodHandle" ∧ y.1.cls ≠ "java/lang/invoke/VarHandle" ∧ (parseMethodDescriptor y.1.desc).map (fun d => d.parameters.length) = some n) ∧ y.2.2.1 ≤ 21
def jCalV (y : jY) (n : Nat) : Prop := Cond.code y.1 y.2.1 y.2.2.1 y.2.2.2 ∈ jTB ∧ (Cond.instanceMethod y.1 ∈ jTB ∧ Cond.selects y.1.cls y.1 y.1 ∈ jTB) ∧ Cond.initialized y.1.cls ∈ jTB ∧ (y.1.cls ≠ "java/lang/invoke/MethodHandle" ∧ y.1.cls ≠ "java/lang/invoke/VarHandle" ∧ (parseMethodDescriptor y.1.desc).map (fun d => d.parameters.length) = some n) ∧ y.2.2.1 ≤ 21
section JC
variable {p : Program} {l : Launch} {e : Env} {R : Room} {s : State} {m : MethodId} {args : Array Value} {below : List Frame} {meth : Method} {c : Code} {H : Heap} {locs : List Loc} {Q : State → Prop}
theorem j_goon {g : jG} {K2 : Option Value → jMem → Prop} {A0 A1 : Nat → Prop} {a : Array Value} {pc : Nat} {ls : Array Slot} {st0 rest : List Value} {cells slots : Nat} (hr : va_Run p l e R s m args below meth c H locs cells slots 0 0 (F0 m pc ls st0) rest (jQ g K2 A1 a) A1) (hS : va_S A0 s.heap H locs) (hF : ∀ q, A1 q → A0 q)
    (kk : ∀ (v : Option Value) (M2 : jMem) (H1 : Heap) (locs1 : List Loc), K2 v M2 → va_P g.2.1 vwCl (jW g M2) H1 → va_D A0 (jW g M2) → va_S A0 s.heap H1 locs1 → W p l e R s m args below meth c H1 locs1 cells slots Q (F0 m (pc + 3) ls (v.toList ++ rest))) : W p l e R s m args below meth c H locs cells slots Q (F0 m pc ls st0) := by
  intro T hT X
  obtain ⟨v, st₀, t, T', L, h0, X', hL, e1, e2, ⟨⟨w, M2, hv, hp, hb, hd⟩, hz, hk⟩, st⟩ := hr T hT X
  cases hv
  rw [h0] at hz hk
  obtain ⟨t2, a1, b1⟩ := kk v M2 T'.heap (locs ++ L) hp (by rw [e1]; exact hb) (hd.weaken (fun _ q _ h => hF q.1 h))
    ⟨Nat.le_trans hS.1 (by rw [e1]; exact hz), fun q h1 h2 => by rw [e1, hk q (Nat.lt_of_lt_of_le h1 hS.1) (fun z => h2 (hF q z))]; exact hS.2.1 q h1 h2, fun q hq => by
      rcases List.mem_append.mp hq with h | h
      · exact hS.2.2 q h
      · exact hF _ (hL q h)⟩ T' rfl X'
  exact ⟨t2, st t2 a1, b1⟩
end JC
theorem j_blind {g : jG} {B : Nat → Prop} {M : jMem} {As : List Value} {sz : Nat} : FrameBlind (va_Pc As (fun U => U.heap.size = sz ∧ va_P g.2.1 vwCl (jW g M) U.heap ∧ va_K g.2.1 vwCl (jTys g) U ∧ va_D (fun _ => True) (jW g M) ∧ jS g B U)) := by
  intro a U gf mk q
  obtain ⟨q0, q1, qP, qK, qD, qS⟩ := q
  exact ⟨q0, q1, qP, va_K.moved (u := U) (U := U.calling gf mk a) (Vm.Alike.refl U.vm) qK, qD, fun k hk => ⟨va_Z.moved (u := U) (U := U.calling gf mk a) (Vm.Alike.refl U.vm) (qS k hk).1, va_T.moved (u := U) (U := U.calling gf mk a) (Vm.Alike.refl U.vm) (qS k hk).2⟩⟩
theorem j_free {g : jG} {A : Nat → Prop} {M : jMem} {s : State} {H : Heap} {locs : List Loc} (hD : va_D A (jW g M)) (hS : va_S A s.heap H locs) (hA : ∀ q, s.heap.size ≤ q → A q) : ∀ q, va_A (jW g M) H.size q → A q := by
  intro q h
  rcases h with ⟨k, e, h⟩ | h
  · exact hD.2 k (q, e) h
  · exact hA q (Nat.le_trans hS.1 h)
section JR
variable {g : jG} {y : jY} {d : Nat} {K : Option Value → jMem → Prop} {pc n : Nat} {ls : List (Option Value)} {st : List Value} {M : jMem}
theorem j_callS {y2 : jY} {d2 idx : Nat} {nA : Nat} (As : List Value) {K2 : Option Value → jMem → Prop} (hC : Con g y2 d2 As M K2) (hd : decode y.2.1 pc = .ok (.invokestatic idx, 3)) (hn : pc + 3 = n) (hcal : jCalS y2 nA) (hl : Cond.methodLink y.1.cls idx y2.1 ∈ jTB) (hd2 : d2 < d) (hnA : As.length = nA) {st0 : List Value} (hst : st0 = As.reverse ++ st) (hW : (st.map fun v => v.category).sum ≤ 8)
    (kk : ∀ (v : Option Value) (M2 : jMem), K2 v M2 → J g y d K n ls (v.toList ++ st) M2) : J g y d K pc ls st0 M := by
  intro p e s m args below meth c A H locs lr C hP hD hS hL
  subst hn
  obtain ⟨hx, hb, hml, hown, hts, hr, hlk, hK, hS0, hA⟩ := id C
  have hF := j_free hD hS hA
  refine j_goon (va_runS (As := As) (rest := st) (n := nA) (g := F0 m pc lr st0) ⟨hx, hb, hml, hown, hts⟩ (hC H.size) ⟨callB_of nA hts (jGood y y2 hcal.1) rfl rfl rfl (hts _ (List.mem_cons_of_mem _ hcal.2.2.1)) (hts _ (List.mem_cons_of_mem _ hl)) hcal.2.2.2.1 ⟨hd2, ?_⟩, hts _ (List.mem_cons_of_mem _ hcal.2.1)⟩ ⟨j_blind, fun U hU hW => ⟨rfl, by rw [hU], by rw [hU]; exact hP, va_K.moved hW.alike hK, hD.weaken (fun _ _ _ _ => trivial), jS_moved hS0 hS hF hU hW.alike⟩⟩ rfl hnA hL.1 hst (lv_room hW) hd ⟨Nat.le_refl _, Nat.le_refl _⟩) hS hF ?_
  · have := hcal.2.2.2.2
    show 8 + (y2.2.2.1 + 11) + 40 * d2 ≤ 40 * d
    omega
  · intro v M2 H1 locs1 hk hP1 hD1 hS1
    exact kk v M2 hk p e s m args below meth c A H1 locs1 lr C hP1 hD1 hS1 hL
theorem j_callV {y2 : jY} {d2 idx : Nat} {nA : Nat} (As : List Value) {K2 : Option Value → jMem → Prop} {kc ci : Nat} {q : vw_C} {fs : List Value} (hC : Con g y2 d2 (.ref (jA g kc) :: As) M K2) (hd : decode y.2.1 pc = .ok (.invokevirtual idx, 3)) (hn : pc + 3 = n) (hcal : jCalV y2 nA) (hl : Cond.methodLink y.1.cls idx y2.1 ∈ jTB) (hd2 : d2 < d) (hnA : As.length = nA) (hkc : kc < 52) (hM : M kc = .inr (ci, fs)) (hci : vwCl[ci]? = some q) (hq : q.1 = y2.1.cls) {st0 : List Value} (hst : st0 = As.reverse ++ .ref (jA g kc) :: st) (hW : (st.map fun v => v.category).sum ≤ 8)
    (kk : ∀ (v : Option Value) (M2 : jMem), K2 v M2 → J g y d K n ls (v.toList ++ st) M2) : J g y d K pc ls st0 M := by
  intro p e s m args below meth c A H locs lr C hP hD hS hL
  subst hn
  obtain ⟨hx, hb, hml, hown, hts, hr, hlk, hK, hS0, hA⟩ := id C
  have hF := j_free hD hS hA
  have hrc := va_recv hK hP hci (q0 := kc) (a := jA g kc) (fs := fs) (by rw [jW_get hkc, hM])
  rw [hq] at hrc
  refine j_goon (va_runV (C := y2.1.cls) (As := As) (rest := st) (n := nA) (g := F0 m pc lr st0) ⟨hx, hb, hml, hown, hts⟩ (hC H.size) ⟨callB_of nA hts (jGood y y2 hcal.1) rfl rfl rfl (hts _ (List.mem_cons_of_mem _ hcal.2.2.1)) (hts _ (List.mem_cons_of_mem _ hl)) hcal.2.2.2.1 ⟨hd2, ?_⟩, hts _ (List.mem_cons_of_mem _ hcal.2.1.1), hts _ (List.mem_cons_of_mem _ hcal.2.1.2)⟩ ⟨j_blind, hrc, fun U hU hW => ⟨rfl, by rw [hU], by rw [hU]; exact hP, va_K.moved hW.alike hK, hD.weaken (fun _ _ _ _ => trivial), jS_moved hS0 hS hF hU hW.alike⟩⟩ rfl hnA hL.1 hst (lv_room hW) hd ⟨Nat.le_refl _, Nat.le_refl _⟩) hS hF ?_
  · have := hcal.2.2.2.2
    show 8 + (y2.2.2.1 + 11) + 40 * d2 ≤ 40 * d
    omega
  · intro v M2 H1 locs1 hk hP1 hD1 hS1
    exact kk v M2 hk p e s m args below meth c A H1 locs1 lr C hP1 hD1 hS1 hL

theorem j_iadd {a b : Int32} (hd : decode y.2.1 pc = .ok (.iadd, 1)) (hn : pc + 1 = n)  (k : J g y d K n ls (.int (a + b) :: st) M) : J g y d K pc ls (.int b :: .int a :: st) M := by
  intro p e s m args below meth c A H locs lr C hP hD hS hL
  subst hn
  exact lv_iadd C.1 C.2.1 hd (k p e s m args below meth c A H locs lr C hP hD hS hL)
theorem j_isub {a b : Int32} (hd : decode y.2.1 pc = .ok (.isub, 1)) (hn : pc + 1 = n)  (k : J g y d K n ls (.int (a - b) :: st) M) : J g y d K pc ls (.int b :: .int a :: st) M := by
  intro p e s m args below meth c A H locs lr C hP hD hS hL
  subst hn
  exact lv_isub C.1 C.2.1 hd (k p e s m args below meth c A H locs lr C hP hD hS hL)
theorem j_imul {a b : Int32} (hd : decode y.2.1 pc = .ok (.imul, 1)) (hn : pc + 1 = n)  (k : J g y d K n ls (.int (a * b) :: st) M) : J g y d K pc ls (.int b :: .int a :: st) M := by
  intro p e s m args below meth c A H locs lr C hP hD hS hL
  subst hn
  exact lv_imul C.1 C.2.1 hd (k p e s m args below meth c A H locs lr C hP hD hS hL)
theorem j_iand {a b : Int32} (hd : decode y.2.1 pc = .ok (.iand, 1)) (hn : pc + 1 = n)  (k : J g y d K n ls (.int (a &&& b) :: st) M) : J g y d K pc ls (.int b :: .int a :: st) M := by
  intro p e s m args below meth c A H locs lr C hP hD hS hL
  subst hn
  exact lv_iand C.1 C.2.1 hd (k p e s m args below meth c A H locs lr C hP hD hS hL)
theorem j_ior {a b : Int32} (hd : decode y.2.1 pc = .ok (.ior, 1)) (hn : pc + 1 = n)  (k : J g y d K n ls (.int (a ||| b) :: st) M) : J g y d K pc ls (.int b :: .int a :: st) M := by
  intro p e s m args below meth c A H locs lr C hP hD hS hL
  subst hn
  exact lv_ior C.1 C.2.1 hd (k p e s m args below meth c A H locs lr C hP hD hS hL)
theorem j_ixor {a b : Int32} (hd : decode y.2.1 pc = .ok (.ixor, 1)) (hn : pc + 1 = n)  (k : J g y d K n ls (.int (a ^^^ b) :: st) M) : J g y d K pc ls (.int b :: .int a :: st) M := by
  intro p e s m args below meth c A H locs lr C hP hD hS hL
  subst hn
  exact lv_ixor C.1 C.2.1 hd (k p e s m args below meth c A H locs lr C hP hD hS hL)
theorem j_ishl {a b : Int32} (hd : decode y.2.1 pc = .ok (.ishl, 1)) (hn : pc + 1 = n)  (k : J g y d K n ls (.int (a <<< (b &&& 31)) :: st) M) : J g y d K pc ls (.int b :: .int a :: st) M := by
  intro p e s m args below meth c A H locs lr C hP hD hS hL
  subst hn
  exact lv_ishl C.1 C.2.1 hd (k p e s m args below meth c A H locs lr C hP hD hS hL)
theorem j_ishr {a b : Int32} (hd : decode y.2.1 pc = .ok (.ishr, 1)) (hn : pc + 1 = n)  (k : J g y d K n ls (.int (a >>> (b &&& 31)) :: st) M) : J g y d K pc ls (.int b :: .int a :: st) M := by
  intro p e s m args below meth c A H locs lr C hP hD hS hL
  subst hn
  exact lv_ishr C.1 C.2.1 hd (k p e s m args below meth c A H locs lr C hP hD hS hL)
theorem j_iushr {a b : Int32} (hd : decode y.2.1 pc = .ok (.iushr, 1)) (hn : pc + 1 = n)  (k : J g y d K n ls (.int (a.toUInt32 >>> (b.toUInt32 &&& Int32.toUInt32 31)).toInt32 :: st) M) : J g y d K pc ls (.int b :: .int a :: st) M := by
  intro p e s m args below meth c A H locs lr C hP hD hS hL
  subst hn
  exact lv_iushr C.1 C.2.1 hd rfl (k p e s m args below meth c A H locs lr C hP hD hS hL)
theorem j_idiv {a b : Int32} (hd : decode y.2.1 pc = .ok (.idiv, 1)) (hn : pc + 1 = n) (h0 : ¬ b = 0) (k : J g y d K n ls (.int (a / b) :: st) M) : J g y d K pc ls (.int b :: .int a :: st) M := by
  intro p e s m args below meth c A H locs lr C hP hD hS hL
  subst hn
  exact lv_idiv C.1 C.2.1 hd h0 (k p e s m args below meth c A H locs lr C hP hD hS hL)
theorem j_irem {a b : Int32} (hd : decode y.2.1 pc = .ok (.irem, 1)) (hn : pc + 1 = n) (h0 : ¬ b = 0) (k : J g y d K n ls (.int (a - a / b * b) :: st) M) : J g y d K pc ls (.int b :: .int a :: st) M := by
  intro p e s m args below meth c A H locs lr C hP hD hS hL
  subst hn
  exact lv_irem C.1 C.2.1 hd h0 (k p e s m args below meth c A H locs lr C hP hD hS hL)
theorem j_ineg {a : Int32} (hd : decode y.2.1 pc = .ok (.ineg, 1)) (hn : pc + 1 = n)  (k : J g y d K n ls (.int (-a) :: st) M) : J g y d K pc ls (.int a :: st) M := by
  intro p e s m args below meth c A H locs lr C hP hD hS hL
  subst hn
  exact lv_ineg C.1 C.2.1 hd (k p e s m args below meth c A H locs lr C hP hD hS hL)
theorem j_ladd {a b : Int64} (hd : decode y.2.1 pc = .ok (.ladd, 1)) (hn : pc + 1 = n)  (k : J g y d K n ls (.long (a + b) :: st) M) : J g y d K pc ls (.long b :: .long a :: st) M := by
  intro p e s m args below meth c A H locs lr C hP hD hS hL
  subst hn
  exact lv_ladd C.1 C.2.1 hd (k p e s m args below meth c A H locs lr C hP hD hS hL)
theorem j_lsub {a b : Int64} (hd : decode y.2.1 pc = .ok (.lsub, 1)) (hn : pc + 1 = n)  (k : J g y d K n ls (.long (a - b) :: st) M) : J g y d K pc ls (.long b :: .long a :: st) M := by
  intro p e s m args below meth c A H locs lr C hP hD hS hL
  subst hn
  exact lv_lsub C.1 C.2.1 hd (k p e s m args below meth c A H locs lr C hP hD hS hL)
theorem j_land {a b : Int64} (hd : decode y.2.1 pc = .ok (.land, 1)) (hn : pc + 1 = n)  (k : J g y d K n ls (.long (a &&& b) :: st) M) : J g y d K pc ls (.long b :: .long a :: st) M := by
  intro p e s m args below meth c A H locs lr C hP hD hS hL
  subst hn
  exact lv_land C.1 C.2.1 hd (k p e s m args below meth c A H locs lr C hP hD hS hL)
theorem j_lor {a b : Int64} (hd : decode y.2.1 pc = .ok (.lor, 1)) (hn : pc + 1 = n)  (k : J g y d K n ls (.long (a ||| b) :: st) M) : J g y d K pc ls (.long b :: .long a :: st) M := by
  intro p e s m args below meth c A H locs lr C hP hD hS hL
  subst hn
  exact lv_lor C.1 C.2.1 hd (k p e s m args below meth c A H locs lr C hP hD hS hL)
theorem j_lxor {a b : Int64} (hd : decode y.2.1 pc = .ok (.lxor, 1)) (hn : pc + 1 = n)  (k : J g y d K n ls (.long (a ^^^ b) :: st) M) : J g y d K pc ls (.long b :: .long a :: st) M := by
  intro p e s m args below meth c A H locs lr C hP hD hS hL
  subst hn
  exact lv_lxor C.1 C.2.1 hd (k p e s m args below meth c A H locs lr C hP hD hS hL)
theorem j_ldiv {a b : Int64} (hd : decode y.2.1 pc = .ok (.ldiv, 1)) (hn : pc + 1 = n) (h0 : ¬ b = 0) (k : J g y d K n ls (.long (a / b) :: st) M) : J g y d K pc ls (.long b :: .long a :: st) M := by
  intro p e s m args below meth c A H locs lr C hP hD hS hL
  subst hn
  exact lv_ldiv C.1 C.2.1 hd h0 (k p e s m args below meth c A H locs lr C hP hD hS hL)
theorem j_lrem {a b : Int64} (hd : decode y.2.1 pc = .ok (.lrem, 1)) (hn : pc + 1 = n) (h0 : ¬ b = 0) (k : J g y d K n ls (.long (a - a / b * b) :: st) M) : J g y d K pc ls (.long b :: .long a :: st) M := by
  intro p e s m args below meth c A H locs lr C hP hD hS hL
  subst hn
  exact lv_lrem C.1 C.2.1 hd h0 (k p e s m args below meth c A H locs lr C hP hD hS hL)
theorem j_lshl {a : Int64} {b : Int32} (hd : decode y.2.1 pc = .ok (.lshl, 1)) (hn : pc + 1 = n)  (k : J g y d K n ls (.long (a <<< (b.toInt64 &&& 63)) :: st) M) : J g y d K pc ls (.int b :: .long a :: st) M := by
  intro p e s m args below meth c A H locs lr C hP hD hS hL
  subst hn
  exact lv_lshl C.1 C.2.1 hd rfl (k p e s m args below meth c A H locs lr C hP hD hS hL)
theorem j_lshr {a : Int64} {b : Int32} (hd : decode y.2.1 pc = .ok (.lshr, 1)) (hn : pc + 1 = n)  (k : J g y d K n ls (.long (a >>> (b.toInt64 &&& 63)) :: st) M) : J g y d K pc ls (.int b :: .long a :: st) M := by
  intro p e s m args below meth c A H locs lr C hP hD hS hL
  subst hn
  exact lv_lshr C.1 C.2.1 hd rfl (k p e s m args below meth c A H locs lr C hP hD hS hL)
theorem j_lushr {a : Int64} {b : Int32} (hd : decode y.2.1 pc = .ok (.lushr, 1)) (hn : pc + 1 = n)  (k : J g y d K n ls (.long (a.toUInt64 >>> (b.toInt64.toUInt64 &&& Int64.toUInt64 63)).toInt64 :: st) M) : J g y d K pc ls (.int b :: .long a :: st) M := by
  intro p e s m args below meth c A H locs lr C hP hD hS hL
  subst hn
  exact lv_lushr C.1 C.2.1 hd rfl (k p e s m args below meth c A H locs lr C hP hD hS hL)
theorem j_lcmp {a b : Int64} (hd : decode y.2.1 pc = .ok (.lcmp, 1)) (hn : pc + 1 = n)  (k : J g y d K n ls (.int (lg_cmp a b) :: st) M) : J g y d K pc ls (.long b :: .long a :: st) M := by
  intro p e s m args below meth c A H locs lr C hP hD hS hL
  subst hn
  exact W.lcmp C.1 C.2.1 hd (k p e s m args below meth c A H locs lr C hP hD hS hL)
theorem j_i2l {a : Int32} (hd : decode y.2.1 pc = .ok (.i2l, 1)) (hn : pc + 1 = n)  (k : J g y d K n ls (.long a.toInt64 :: st) M) : J g y d K pc ls (.int a :: st) M := by
  intro p e s m args below meth c A H locs lr C hP hD hS hL
  subst hn
  exact lv_i2l C.1 C.2.1 hd rfl (k p e s m args below meth c A H locs lr C hP hD hS hL)
theorem j_l2i {a : Int64} (hd : decode y.2.1 pc = .ok (.l2i, 1)) (hn : pc + 1 = n)  (k : J g y d K n ls (.int a.toInt32 :: st) M) : J g y d K pc ls (.long a :: st) M := by
  intro p e s m args below meth c A H locs lr C hP hD hS hL
  subst hn
  exact lv_l2i C.1 C.2.1 hd rfl (k p e s m args below meth c A H locs lr C hP hD hS hL)
theorem j_iconst {z : Int} (v : Int32) (hd : decode y.2.1 pc = .ok (.iconst z, 1)) (hn : pc + 1 = n) (hv : Int32.ofInt z = v) (k : J g y d K n ls (.int v :: st) M) : J g y d K pc ls st M := by
  intro p e s m args below meth c A H locs lr C hP hD hS hL
  subst hn
  exact lv_iconst C.1 C.2.1 hd hv (k p e s m args below meth c A H locs lr C hP hD hS hL)
theorem j_bipush {z : Int} (v : Int32) (hd : decode y.2.1 pc = .ok (.bipush z, 2)) (hn : pc + 2 = n) (hv : (Int8.ofInt z).toInt32 = v) (k : J g y d K n ls (.int v :: st) M) : J g y d K pc ls st M := by
  intro p e s m args below meth c A H locs lr C hP hD hS hL
  subst hn
  exact lv_bipush C.1 C.2.1 hd hv (k p e s m args below meth c A H locs lr C hP hD hS hL)
theorem j_sipush {z : Int} (v : Int32) (hd : decode y.2.1 pc = .ok (.sipush z, 3)) (hn : pc + 3 = n) (hv : (Int16.ofInt z).toInt32 = v) (k : J g y d K n ls (.int v :: st) M) : J g y d K pc ls st M := by
  intro p e s m args below meth c A H locs lr C hP hD hS hL
  subst hn
  exact lv_sipush C.1 C.2.1 hd hv (k p e s m args below meth c A H locs lr C hP hD hS hL)
theorem j_lconst {z : Fin 2} (v : Int64) (hd : decode y.2.1 pc = .ok (.lconst z, 1)) (hn : pc + 1 = n) (hv : Int64.ofNat (z : Nat) = v) (k : J g y d K n ls (.long v :: st) M) : J g y d K pc ls st M := by
  intro p e s m args below meth c A H locs lr C hP hD hS hL
  subst hn
  exact lv_lconst C.1 C.2.1 hd hv (k p e s m args below meth c A H locs lr C hP hD hS hL)
theorem j_ldc {i : Nat} {v : Int32} (hd : decode y.2.1 pc = .ok (.ldc i, 2)) (hn : pc + 2 = n) (hw : Cond.constant y.1.cls i v ∈ jTB) (k : J g y d K n ls (.int v :: st) M) : J g y d K pc ls st M := by
  intro p e s m args below meth c A H locs lr C hP hD hS hL
  subst hn
  exact lv_ldc C.1 C.2.1 C.2.2.2.1 (C.2.2.2.2.1 _ (List.mem_cons_of_mem _ hw)) hd (k p e s m args below meth c A H locs lr C hP hD hS hL)
theorem j_ldcw {i : Nat} {v : Int32} (hd : decode y.2.1 pc = .ok (.ldc_w i, 3)) (hn : pc + 3 = n) (hw : Cond.constant y.1.cls i v ∈ jTB) (k : J g y d K n ls (.int v :: st) M) : J g y d K pc ls st M := by
  intro p e s m args below meth c A H locs lr C hP hD hS hL
  subst hn
  exact lv_ldcw C.1 C.2.1 C.2.2.2.1 (C.2.2.2.2.1 _ (List.mem_cons_of_mem _ hw)) hd (k p e s m args below meth c A H locs lr C hP hD hS hL)
theorem j_ldc2 {i : Nat} {v : Int64} (hd : decode y.2.1 pc = .ok (.ldc2_w i, 3)) (hn : pc + 3 = n) (hw : Cond.constantLong y.1.cls i v ∈ jTB) (k : J g y d K n ls (.long v :: st) M) : J g y d K pc ls st M := by
  intro p e s m args below meth c A H locs lr C hP hD hS hL
  subst hn
  exact lv_ldc2 C.1 C.2.1 C.2.2.2.1 (C.2.2.2.2.1 _ (List.mem_cons_of_mem _ hw)) hd (k p e s m args below meth c A H locs lr C hP hD hS hL)
theorem j_dup {v : Value} (hd : decode y.2.1 pc = .ok (.dup, 1)) (hn : pc + 1 = n) (hv : v.category = 1) (k : J g y d K n ls (v :: v :: st) M) : J g y d K pc ls (v :: st) M := by
  intro p e s m args below meth c A H locs lr C hP hD hS hL
  subst hn
  exact lv_dup C.1 C.2.1 hd hv (k p e s m args below meth c A H locs lr C hP hD hS hL)
theorem j_dup2_11 {v u : Value} (hd : decode y.2.1 pc = .ok (.dup2, 1)) (hn : pc + 1 = n) (hv : v.category = 1) (hu : u.category = 1) (k : J g y d K n ls (v :: u :: v :: u :: st) M) : J g y d K pc ls (v :: u :: st) M := by
  intro p e s m args below meth c A H locs lr C hP hD hS hL
  subst hn
  exact lv_dup2_11 C.1 C.2.1 hd hv hu (k p e s m args below meth c A H locs lr C hP hD hS hL)
theorem j_pop {v : Value} (hd : decode y.2.1 pc = .ok (.pop, 1)) (hn : pc + 1 = n) (hv : v.category = 1) (k : J g y d K n ls st M) : J g y d K pc ls (v :: st) M := by
  intro p e s m args below meth c A H locs lr C hP hD hS hL
  subst hn
  exact lv_pop C.1 C.2.1 hd hv (k p e s m args below meth c A H locs lr C hP hD hS hL)
theorem j_if_eq {a : Int32} {off : Int} (t : Nat) (hd : decode y.2.1 pc = .ok (.ifCond .eq off, 3)) (hn : pc + 3 = n) (ht : (pc : Int) + off = (t : Int)) (kt : a = 0 → J g y d K t ls st M) (kf : ¬ a = 0 → J g y d K n ls st M) : J g y d K pc ls (.int a :: st) M := by
  intro p e s m args below meth c A H locs lr C hP hD hS hL
  subst hn
  exact lv_if_eq C.1 C.2.1 hd ht (fun h => kt h p e s m args below meth c A H locs lr C hP hD hS hL) (fun h => kf h p e s m args below meth c A H locs lr C hP hD hS hL)
theorem j_if_ne {a : Int32} {off : Int} (t : Nat) (hd : decode y.2.1 pc = .ok (.ifCond .ne off, 3)) (hn : pc + 3 = n) (ht : (pc : Int) + off = (t : Int)) (kt : a ≠ 0 → J g y d K t ls st M) (kf : a = 0 → J g y d K n ls st M) : J g y d K pc ls (.int a :: st) M := by
  intro p e s m args below meth c A H locs lr C hP hD hS hL
  subst hn
  exact lv_if_ne C.1 C.2.1 hd ht (fun h => kt h p e s m args below meth c A H locs lr C hP hD hS hL) (fun h => kf h p e s m args below meth c A H locs lr C hP hD hS hL)
theorem j_if_lt {a : Int32} {off : Int} (t : Nat) (hd : decode y.2.1 pc = .ok (.ifCond .lt off, 3)) (hn : pc + 3 = n) (ht : (pc : Int) + off = (t : Int)) (kt : a < 0 → J g y d K t ls st M) (kf : ¬ a < 0 → J g y d K n ls st M) : J g y d K pc ls (.int a :: st) M := by
  intro p e s m args below meth c A H locs lr C hP hD hS hL
  subst hn
  exact lv_if_lt C.1 C.2.1 hd ht (fun h => kt h p e s m args below meth c A H locs lr C hP hD hS hL) (fun h => kf h p e s m args below meth c A H locs lr C hP hD hS hL)
theorem j_if_ge {a : Int32} {off : Int} (t : Nat) (hd : decode y.2.1 pc = .ok (.ifCond .ge off, 3)) (hn : pc + 3 = n) (ht : (pc : Int) + off = (t : Int)) (kt : 0 ≤ a → J g y d K t ls st M) (kf : ¬ 0 ≤ a → J g y d K n ls st M) : J g y d K pc ls (.int a :: st) M := by
  intro p e s m args below meth c A H locs lr C hP hD hS hL
  subst hn
  exact lv_if_ge C.1 C.2.1 hd ht (fun h => kt h p e s m args below meth c A H locs lr C hP hD hS hL) (fun h => kf h p e s m args below meth c A H locs lr C hP hD hS hL)
theorem j_if_gt {a : Int32} {off : Int} (t : Nat) (hd : decode y.2.1 pc = .ok (.ifCond .gt off, 3)) (hn : pc + 3 = n) (ht : (pc : Int) + off = (t : Int)) (kt : 0 < a → J g y d K t ls st M) (kf : ¬ 0 < a → J g y d K n ls st M) : J g y d K pc ls (.int a :: st) M := by
  intro p e s m args below meth c A H locs lr C hP hD hS hL
  subst hn
  exact lv_if_gt C.1 C.2.1 hd ht (fun h => kt h p e s m args below meth c A H locs lr C hP hD hS hL) (fun h => kf h p e s m args below meth c A H locs lr C hP hD hS hL)
theorem j_if_le {a : Int32} {off : Int} (t : Nat) (hd : decode y.2.1 pc = .ok (.ifCond .le off, 3)) (hn : pc + 3 = n) (ht : (pc : Int) + off = (t : Int)) (kt : a ≤ 0 → J g y d K t ls st M) (kf : ¬ a ≤ 0 → J g y d K n ls st M) : J g y d K pc ls (.int a :: st) M := by
  intro p e s m args below meth c A H locs lr C hP hD hS hL
  subst hn
  exact lv_if_le C.1 C.2.1 hd ht (fun h => kt h p e s m args below meth c A H locs lr C hP hD hS hL) (fun h => kf h p e s m args below meth c A H locs lr C hP hD hS hL)
theorem j_icmp_eq {a b : Int32} {off : Int} (t : Nat) (hd : decode y.2.1 pc = .ok (.if_icmp .eq off, 3)) (hn : pc + 3 = n) (ht : (pc : Int) + off = (t : Int)) (kt : a = b → J g y d K t ls st M) (kf : ¬ a = b → J g y d K n ls st M) : J g y d K pc ls (.int b :: .int a :: st) M := by
  intro p e s m args below meth c A H locs lr C hP hD hS hL
  subst hn
  exact lv_icmp_eq C.1 C.2.1 hd ht (fun h => kt h p e s m args below meth c A H locs lr C hP hD hS hL) (fun h => kf h p e s m args below meth c A H locs lr C hP hD hS hL)
theorem j_icmp_ne {a b : Int32} {off : Int} (t : Nat) (hd : decode y.2.1 pc = .ok (.if_icmp .ne off, 3)) (hn : pc + 3 = n) (ht : (pc : Int) + off = (t : Int)) (kt : a ≠ b → J g y d K t ls st M) (kf : a = b → J g y d K n ls st M) : J g y d K pc ls (.int b :: .int a :: st) M := by
  intro p e s m args below meth c A H locs lr C hP hD hS hL
  subst hn
  exact lv_icmp_ne C.1 C.2.1 hd ht (fun h => kt h p e s m args below meth c A H locs lr C hP hD hS hL) (fun h => kf h p e s m args below meth c A H locs lr C hP hD hS hL)
theorem j_icmp_lt {a b : Int32} {off : Int} (t : Nat) (hd : decode y.2.1 pc = .ok (.if_icmp .lt off, 3)) (hn : pc + 3 = n) (ht : (pc : Int) + off = (t : Int)) (kt : a < b → J g y d K t ls st M) (kf : ¬ a < b → J g y d K n ls st M) : J g y d K pc ls (.int b :: .int a :: st) M := by
  intro p e s m args below meth c A H locs lr C hP hD hS hL
  subst hn
  exact lv_icmp_lt C.1 C.2.1 hd ht (fun h => kt h p e s m args below meth c A H locs lr C hP hD hS hL) (fun h => kf h p e s m args below meth c A H locs lr C hP hD hS hL)
theorem j_icmp_ge {a b : Int32} {off : Int} (t : Nat) (hd : decode y.2.1 pc = .ok (.if_icmp .ge off, 3)) (hn : pc + 3 = n) (ht : (pc : Int) + off = (t : Int)) (kt : b ≤ a → J g y d K t ls st M) (kf : ¬ b ≤ a → J g y d K n ls st M) : J g y d K pc ls (.int b :: .int a :: st) M := by
  intro p e s m args below meth c A H locs lr C hP hD hS hL
  subst hn
  exact lv_icmp_ge C.1 C.2.1 hd ht (fun h => kt h p e s m args below meth c A H locs lr C hP hD hS hL) (fun h => kf h p e s m args below meth c A H locs lr C hP hD hS hL)
theorem j_icmp_gt {a b : Int32} {off : Int} (t : Nat) (hd : decode y.2.1 pc = .ok (.if_icmp .gt off, 3)) (hn : pc + 3 = n) (ht : (pc : Int) + off = (t : Int)) (kt : b < a → J g y d K t ls st M) (kf : ¬ b < a → J g y d K n ls st M) : J g y d K pc ls (.int b :: .int a :: st) M := by
  intro p e s m args below meth c A H locs lr C hP hD hS hL
  subst hn
  exact lv_icmp_gt C.1 C.2.1 hd ht (fun h => kt h p e s m args below meth c A H locs lr C hP hD hS hL) (fun h => kf h p e s m args below meth c A H locs lr C hP hD hS hL)
theorem j_icmp_le {a b : Int32} {off : Int} (t : Nat) (hd : decode y.2.1 pc = .ok (.if_icmp .le off, 3)) (hn : pc + 3 = n) (ht : (pc : Int) + off = (t : Int)) (kt : a ≤ b → J g y d K t ls st M) (kf : ¬ a ≤ b → J g y d K n ls st M) : J g y d K pc ls (.int b :: .int a :: st) M := by
  intro p e s m args below meth c A H locs lr C hP hD hS hL
  subst hn
  exact lv_icmp_le C.1 C.2.1 hd ht (fun h => kt h p e s m args below meth c A H locs lr C hP hD hS hL) (fun h => kf h p e s m args below meth c A H locs lr C hP hD hS hL)
theorem j_goto {off : Int} (t : Nat) (hd : decode y.2.1 pc = .ok (.goto off, 3)) (ht : (pc : Int) + off = (t : Int)) (k : J g y d K t ls st M) : J g y d K pc ls st M := by
  intro p e s m args below meth c A H locs lr C hP hD hS hL
  exact lv_goto C.1 C.2.1 hd ht (k p e s m args below meth c A H locs lr C hP hD hS hL)
theorem j_iret {a : Int32} (hd : decode y.2.1 pc = .ok (.ireturn, 1)) (hr : y.2.2.2 = some .int) (hk : K (some (.int a)) M) : J g y d K pc ls [.int a] M := by
  intro p e s m args below meth c A H locs lr C hP hD hS hL
  exact W.iret C.1 C.2.1 (C.2.2.2.2.2.1.trans hr) (fun t ht hW => ⟨⟨_, M, rfl, hk, by rw [ht]; exact hP, hD⟩, hS.F ht⟩) hS.2.2 hd (hlocks := C.2.2.2.2.2.2.1)
theorem j_zret {a : Int32} (hd : decode y.2.1 pc = .ok (.ireturn, 1)) (hr : y.2.2.2 = some .boolean) (ha : narrow .boolean (.int a) = .int a) (hk : K (some (.int a)) M) : J g y d K pc ls [.int a] M := by
  intro p e s m args below meth c A H locs lr C hP hD hS hL
  exact W.zret C.1 C.2.1 (C.2.2.2.2.2.1.trans hr) ha (fun t ht hW => ⟨⟨_, M, rfl, hk, by rw [ht]; exact hP, hD⟩, hS.F ht⟩) hS.2.2 hd (hlocks := C.2.2.2.2.2.2.1)
theorem j_lret {a : Int64} (hd : decode y.2.1 pc = .ok (.lreturn, 1)) (hr : y.2.2.2 = some .long) (hk : K (some (.long a)) M) : J g y d K pc ls [.long a] M := by
  intro p e s m args below meth c A H locs lr C hP hD hS hL
  exact W.lret C.1 C.2.1 (C.2.2.2.2.2.1.trans hr) (fun t ht hW => ⟨⟨_, M, rfl, hk, by rw [ht]; exact hP, hD⟩, hS.F ht⟩) hS.2.2 hd (hlocks := C.2.2.2.2.2.2.1)
theorem j_vret (hd : decode y.2.1 pc = .ok (.return_, 1)) (hr : y.2.2.2 = none) (hk : K none M) : J g y d K pc ls [] M := by
  intro p e s m args below meth c A H locs lr C hP hD hS hL
  exact W.vret C.1 C.2.1 (C.2.2.2.2.2.1.trans hr) (fun t ht hW => ⟨⟨_, M, rfl, hk, by rw [ht]; exact hP, hD⟩, hS.F ht⟩) hS.2.2 hd (hlocks := C.2.2.2.2.2.2.1)

/-- the list of what is known, as the kit has it -/
def jAs (l : List (Option Value)) : List (Nat × Value) := (List.range l.length).filterMap fun i => match l[i]? with
  | some (some v) => some (i, v)
  | _ => none
theorem jAs_in {l : List (Option Value)} {i : Nat} {v : Value} : (i, v) ∈ jAs l ↔ l[i]? = some (some v) := by
  unfold jAs
  rw [List.mem_filterMap]
  constructor
  · rintro ⟨j, -, hj⟩
    split at hj
    · rename_i w hw
      cases hj
      exact hw
    · cases hj
  · intro h
    refine ⟨i, List.mem_range.mpr (List.getElem?_eq_some_iff.mp h).1, ?_⟩
    rw [h]
theorem jL_has {ls : Array Slot} {n : Nat} {l : List (Option Value)} (h : jL ls n l) : lv_has ls n (jAs l) := ⟨h.1, h.2.1, fun q hq => h.2.2 q.1 q.2 (jAs_in.mp hq)⟩
/-- no long begins just ahead of place i -/
def jFree (l : List (Option Value)) : Nat → Bool
  | 0 => true
  | i + 1 => match l[i]? with
    | some (some v) => !(v.category == 2)
    | _ => true
theorem jL_st1 {ls : Array Slot} {n i : Nat} {l : List (Option Value)} {v : Value} (hf : jFree l i = true) (h : lv_has ls n ((i, v) :: (jAs l).filter (fun q => !(q.1 == i) && !(q.1 + 1 == i && q.2.category == 2)))) : jL ls n (l.set i (some v)) := by
  refine ⟨h.1, h.2.1, fun j w hj => ?_⟩
  rw [List.getElem?_set] at hj
  by_cases e : i = j
  · subst e
    rw [if_pos rfl] at hj
    split at hj
    · cases hj
      exact h.2.2 (i, v) List.mem_cons_self
    · cases hj
  · rw [if_neg e] at hj
    refine h.2.2 (j, w) (List.mem_cons_of_mem _ (List.mem_filter.mpr ⟨jAs_in.mpr hj, ?_⟩))
    simp only [Bool.and_eq_true, Bool.not_eq_true', beq_eq_false_iff_ne, ne_eq, Bool.and_eq_false_iff]
    refine ⟨fun q => e q.symm, ?_⟩
    by_cases e2 : j + 1 = i
    · right
      subst e2
      simp only [jFree, hj] at hf
      simpa using hf
    · exact Or.inl e2
theorem jL_st2 {ls : Array Slot} {n i : Nat} {l : List (Option Value)} {v : Value} (hf : jFree l i = true) (h : lv_has ls n ((i, v) :: (jAs l).filter (fun q => !(q.1 == i) && (!(q.1 == i + 1) && !(q.1 + 1 == i && q.2.category == 2))))) : jL ls n ((l.set i (some v)).set (i + 1) none) := by
  refine ⟨h.1, h.2.1, fun j w hj => ?_⟩
  rw [List.getElem?_set] at hj
  by_cases e1 : i + 1 = j
  · rw [if_pos e1] at hj
    split at hj <;> cases hj
  rw [if_neg e1, List.getElem?_set] at hj
  by_cases e : i = j
  · subst e
    rw [if_pos rfl] at hj
    split at hj
    · cases hj
      exact h.2.2 (i, v) List.mem_cons_self
    · cases hj
  · rw [if_neg e] at hj
    refine h.2.2 (j, w) (List.mem_cons_of_mem _ (List.mem_filter.mpr ⟨jAs_in.mpr hj, ?_⟩))
    simp only [Bool.and_eq_true, Bool.not_eq_true', beq_eq_false_iff_ne, ne_eq, Bool.and_eq_false_iff]
    refine ⟨fun q => e q.symm, fun q => e1 q.symm, ?_⟩
    by_cases e2 : j + 1 = i
    · right
      subst e2
      simp only [jFree, hj] at hf
      simpa using hf
    · exact Or.inl e2

theorem j_iload_n {k4 : Fin 4} {x : Int32} (hd : decode y.2.1 pc = .ok (.iload_n k4, 1)) (hn : pc + 1 = n) (hl : ls[(k4 : Nat)]? = some (some (.int x))) (k : J g y d K n ls (.int x :: st) M) : J g y d K pc ls st M := by
  intro p e s m args below meth c A H locs lr C hP hD hS hL
  subst hn
  exact lv_iload_n C.1 C.2.1 hd rfl (hL.2.2 _ _ hl) (k p e s m args below meth c A H locs lr C hP hD hS hL)
theorem j_iload {i : Nat} {x : Int32} (hd : decode y.2.1 pc = .ok (.iload i, 2)) (hn : pc + 2 = n) (hl : ls[i]? = some (some (.int x))) (k : J g y d K n ls (.int x :: st) M) : J g y d K pc ls st M := by
  intro p e s m args below meth c A H locs lr C hP hD hS hL
  subst hn
  exact lv_iload C.1 C.2.1 hd (hL.2.2 _ _ hl) (k p e s m args below meth c A H locs lr C hP hD hS hL)
theorem j_lload_n {k4 : Fin 4} {x : Int64} (hd : decode y.2.1 pc = .ok (.lload_n k4, 1)) (hn : pc + 1 = n) (hl : ls[(k4 : Nat)]? = some (some (.long x))) (k : J g y d K n ls (.long x :: st) M) : J g y d K pc ls st M := by
  intro p e s m args below meth c A H locs lr C hP hD hS hL
  subst hn
  exact lv_lload_n C.1 C.2.1 hd rfl (hL.2.2 _ _ hl) (k p e s m args below meth c A H locs lr C hP hD hS hL)
theorem j_lload {i : Nat} {x : Int64} (hd : decode y.2.1 pc = .ok (.lload i, 2)) (hn : pc + 2 = n) (hl : ls[i]? = some (some (.long x))) (k : J g y d K n ls (.long x :: st) M) : J g y d K pc ls st M := by
  intro p e s m args below meth c A H locs lr C hP hD hS hL
  subst hn
  exact lv_lload C.1 C.2.1 hd (hL.2.2 _ _ hl) (k p e s m args below meth c A H locs lr C hP hD hS hL)
theorem j_aload_n {k4 : Fin 4} {x : Nat} (hd : decode y.2.1 pc = .ok (.aload_n k4, 1)) (hn : pc + 1 = n) (hl : ls[(k4 : Nat)]? = some (some (.ref x))) (k : J g y d K n ls (.ref x :: st) M) : J g y d K pc ls st M := by
  intro p e s m args below meth c A H locs lr C hP hD hS hL
  subst hn
  exact lv_aload_n C.1 C.2.1 hd rfl (hL.2.2 _ _ hl) (k p e s m args below meth c A H locs lr C hP hD hS hL)
theorem j_aload {i : Nat} {x : Nat} (hd : decode y.2.1 pc = .ok (.aload i, 2)) (hn : pc + 2 = n) (hl : ls[i]? = some (some (.ref x))) (k : J g y d K n ls (.ref x :: st) M) : J g y d K pc ls st M := by
  intro p e s m args below meth c A H locs lr C hP hD hS hL
  subst hn
  exact lv_aload C.1 C.2.1 hd (hL.2.2 _ _ hl) (k p e s m args below meth c A H locs lr C hP hD hS hL)
theorem j_istore {i : Nat} {x : Int32} (hd : decode y.2.1 pc = .ok (.istore i, 2)) (hn : pc + 2 = n) (hi : i < y.2.2.1) (hf : jFree ls i = true) (k : J g y d K n (ls.set i (some (.int x))) st M) : J g y d K pc ls (.int x :: st) M := by
  intro p e s m args below meth c A H locs lr C hP hD hS hL
  subst hn
  exact lv_istore C.1 C.2.1 hd (jL_has hL) hi rfl (fun ls2 h2 => k p e s m args below meth c A H locs ls2 C hP hD hS (jL_st1 hf h2))
theorem j_istore_n {k4 : Fin 4} {i : Nat} {x : Int32} (hd : decode y.2.1 pc = .ok (.istore_n k4, 1)) (hn : pc + 1 = n) (h4 : (k4 : Nat) = i) (hi : i < y.2.2.1) (hf : jFree ls i = true) (k : J g y d K n (ls.set i (some (.int x))) st M) : J g y d K pc ls (.int x :: st) M := by
  intro p e s m args below meth c A H locs lr C hP hD hS hL
  subst hn
  exact lv_istore_n C.1 C.2.1 hd h4 (jL_has hL) hi rfl (fun ls2 h2 => k p e s m args below meth c A H locs ls2 C hP hD hS (jL_st1 hf h2))
theorem j_astore {i : Nat} {x : Nat} (hd : decode y.2.1 pc = .ok (.astore i, 2)) (hn : pc + 2 = n) (hi : i < y.2.2.1) (hf : jFree ls i = true) (k : J g y d K n (ls.set i (some (.ref x))) st M) : J g y d K pc ls (.ref x :: st) M := by
  intro p e s m args below meth c A H locs lr C hP hD hS hL
  subst hn
  exact lv_astore C.1 C.2.1 hd (jL_has hL) hi rfl (fun ls2 h2 => k p e s m args below meth c A H locs ls2 C hP hD hS (jL_st1 hf h2))
theorem j_astore_n {k4 : Fin 4} {i : Nat} {x : Nat} (hd : decode y.2.1 pc = .ok (.astore_n k4, 1)) (hn : pc + 1 = n) (h4 : (k4 : Nat) = i) (hi : i < y.2.2.1) (hf : jFree ls i = true) (k : J g y d K n (ls.set i (some (.ref x))) st M) : J g y d K pc ls (.ref x :: st) M := by
  intro p e s m args below meth c A H locs lr C hP hD hS hL
  subst hn
  exact lv_astore_n C.1 C.2.1 hd h4 (jL_has hL) hi rfl (fun ls2 h2 => k p e s m args below meth c A H locs ls2 C hP hD hS (jL_st1 hf h2))
theorem j_lstore {i : Nat} {x : Int64} (hd : decode y.2.1 pc = .ok (.lstore i, 2)) (hn : pc + 2 = n) (hi : i + 1 < y.2.2.1) (hf : jFree ls i = true) (k : J g y d K n ((ls.set i (some (.long x))).set (i + 1) none) st M) : J g y d K pc ls (.long x :: st) M := by
  intro p e s m args below meth c A H locs lr C hP hD hS hL
  subst hn
  exact lv_lstore C.1 C.2.1 hd (jL_has hL) hi rfl (fun ls2 h2 => k p e s m args below meth c A H locs ls2 C hP hD hS (jL_st2 hf h2))
theorem j_lstore_n {k4 : Fin 4} {i : Nat} {x : Int64} (hd : decode y.2.1 pc = .ok (.lstore_n k4, 1)) (hn : pc + 1 = n) (h4 : (k4 : Nat) = i) (hi : i + 1 < y.2.2.1) (hf : jFree ls i = true) (k : J g y d K n ((ls.set i (some (.long x))).set (i + 1) none) st M) : J g y d K pc ls (.long x :: st) M := by
  intro p e s m args below meth c A H locs lr C hP hD hS hL
  subst hn
  exact lv_lstore_n C.1 C.2.1 hd h4 (jL_has hL) hi rfl (fun ls2 h2 => k p e s m args below meth c A H locs ls2 C hP hD hS (jL_st2 hf h2))
theorem j_iinc {i : Nat} {z : Int} {x v : Int32} (hd : decode y.2.1 pc = .ok (.iinc i z, 3)) (hn : pc + 3 = n) (hi : i < y.2.2.1) (hf : jFree ls i = true) (hl : ls[i]? = some (some (.int x))) (hv : x + Int32.ofInt z = v) (k : J g y d K n (ls.set i (some (.int v))) st M) : J g y d K pc ls st M := by
  intro p e s m args below meth c A H locs lr C hP hD hS hL
  subst hn
  obtain ⟨kk, hkk⟩ := List.getElem?_of_mem (jAs_in.mpr hl)
  exact lv_iinc C.1 C.2.1 hd (jL_has hL) hkk hv hi rfl (fun ls2 h2 => k p e s m args below meth c A H locs ls2 C hP hD hS (jL_st1 hf h2))

/-- what holds of class number ci: its row of vwCl, its words -/
def jCls (ci : Nat) (q : vw_C) : Prop := vwCl[ci]? = some q ∧ ∀ w ∈ u_ws q.1 q.2.1 q.2.2, w ∈ jTB
theorem j_get {idx ci k kc : Nat} {q : vw_C} {fs : List Value} {v : Value} (hd : decode y.2.1 pc = .ok (.getfield idx, 3)) (hn : pc + 3 = n) (hcl : jCls ci q) (hk : k < q.2.2) (hl : Cond.fieldLink y.1.cls idx (q.2.1 k).1 (q.2.1 k).2.1 (q.2.1 k).2.2.1 ∈ jTB) (hkc : kc < 52) (hM : M kc = .inr (ci, fs)) (hv : fs[k]? = some v) (kk : J g y d K n ls (v :: st) M) : J g y d K pc ls (.ref (jA g kc) :: st) M := by
  intro p e s m args below meth c A H locs lr C hP hD hS hL
  subst hn
  obtain ⟨hx, hb, hml, hown, hts, hr, hlk, hK, hS0, hA⟩ := id C
  exact va_get hx hb hts (fun w h => List.mem_cons_of_mem _ (hcl.2 w h)) hown hK hP kc (by rw [jW_get hkc, hM]) hcl.1 k hk (hts _ (List.mem_cons_of_mem _ hl)) (fun _ h => h) hv hd (kk p e s m args below meth c A H locs lr C hP hD hS hL)
theorem j_put {idx ci k kc : Nat} {q : vw_C} {fs fs2 : List Value} {v : Value} {ty0 : Nat → FieldType} {ty : FieldType} (hd : decode y.2.1 pc = .ok (.putfield idx, 3)) (hn : pc + 3 = n) (hcl : jCls ci q) (hty : ∀ k, k < q.2.2 → parseFieldDescriptor (q.2.1 k).2.2.1 = some (ty0 k)) (hnm : ∀ a, a < q.2.2 → ∀ b, b < q.2.2 → a ≠ b → (q.2.1 a).2.1 ≠ (q.2.1 b).2.1) (hk : k < q.2.2) (hfin : (q.2.1 k).2.2.2 = false) (hdt : parseFieldDescriptor (q.2.1 k).2.2.1 = some ty) (hl : Cond.fieldLink y.1.cls idx (q.2.1 k).1 (q.2.1 k).2.1 (q.2.1 k).2.2.1 ∈ jTB) (hnw : narrow ty v = v) (hft : fits ty v = true) (hkc : kc < 52) (hM : M kc = .inr (ci, fs)) (hlen : k < fs.length) (hfs : fs.set k v = fs2) (kk : J g y d K n ls st (va_up M kc (.inr (ci, fs2)))) : J g y d K pc ls (v :: .ref (jA g kc) :: st) M := by
  intro p e s m args below meth c A H locs lr C hP hD hS hL
  subst hn
  subst hfs
  obtain ⟨hx, hb, hml, hown, hts, hr, hlk, hK, hS0, hA⟩ := id C
  refine va_put hx hb hts (fun w h => List.mem_cons_of_mem _ (hcl.2 w h)) ty0 hty hnm hown hK hP hD hS kc (by rw [jW_get hkc, hM]) hcl.1 k hk (hts _ (List.mem_cons_of_mem _ hl)) (fun _ h => h) hfin hdt hnw hft hlen hd (fun H1 locs1 hP1 hD1 hS1 => ?_)
  rw [jW_set hkc] at hP1 hD1
  exact kk p e s m args below meth c A H1 locs1 lr C hP1 hD1 hS1 hL
theorem j_gets {idx kz : Nat} (hd : decode y.2.1 pc = .ok (.getstatic idx, 3)) (hn : pc + 3 = n) (hz : kz < 5) (hl : Cond.fieldLink y.1.cls idx (jSt kz).1 (jSt kz).2.1 (jSt kz).2.2.1 ∈ jTB) (kk : J g y d K n ls (.ref (jsa g kz) :: st) M) : J g y d K pc ls st M := by
  intro p e s m args below meth c A H locs lr C hP hD hS hL
  subst hn
  obtain ⟨hx, hb, hml, hown, hts, hr, hlk, hK, hS0, hA⟩ := id C
  exact va_gets hx hb (hS0 kz hz).1 hS hown (hts _ (List.mem_cons_of_mem _ hl)) (fun _ h => h) hd (kk p e s m args below meth c A H locs lr C hP hD hS hL)
theorem j_iald {kc N : Nat} {f : Nat → Int32} {i : Int32} (hd : decode y.2.1 pc = .ok (.iaload, 1)) (hn : pc + 1 = n) (hkc : kc < 52) (hM : M kc = .inl (jc g 0, N, .inl f)) (hi : vp_in i N) (kk : J g y d K n ls (.int (f i.toNatClampNeg) :: st) M) : J g y d K pc ls (.int i :: .ref (jA g kc) :: st) M := by
  intro p e s m args below meth c A H locs lr C hP hD hS hL
  subst hn
  exact va_iald C.1 C.2.1 C.2.2.2.2.2.2.2.1 hP kc 0 (by rw [jW_get hkc, hM]) rfl hi hd (kk p e s m args below meth c A H locs lr C hP hD hS hL)
theorem j_lald {kc N : Nat} {f : Nat → Int64} {i : Int32} (hd : decode y.2.1 pc = .ok (.laload, 1)) (hn : pc + 1 = n) (hkc : kc < 52) (hM : M kc = .inl (jc g 1, N, .inr (.inl f))) (hi : vp_in i N) (kk : J g y d K n ls (.long (f i.toNatClampNeg) :: st) M) : J g y d K pc ls (.int i :: .ref (jA g kc) :: st) M := by
  intro p e s m args below meth c A H locs lr C hP hD hS hL
  subst hn
  exact va_lald C.1 C.2.1 C.2.2.2.2.2.2.2.1 hP kc 1 (by rw [jW_get hkc, hM]) rfl hi hd (kk p e s m args below meth c A H locs lr C hP hD hS hL)
theorem j_zald {kc N : Nat} {f : Nat → Int32} {i : Int32} (hd : decode y.2.1 pc = .ok (.baload, 1)) (hn : pc + 1 = n) (hkc : kc < 52) (hM : M kc = .inl (jc g 2, N, .inl f)) (hi : vp_in i N) (kk : J g y d K n ls (.int (f i.toNatClampNeg) :: st) M) : J g y d K pc ls (.int i :: .ref (jA g kc) :: st) M := by
  intro p e s m args below meth c A H locs lr C hP hD hS hL
  subst hn
  exact va_zald C.1 C.2.1 C.2.2.2.2.2.2.2.1 hP kc 2 (by rw [jW_get hkc, hM]) rfl hi hd (kk p e s m args below meth c A H locs lr C hP hD hS hL)
theorem j_aald {kc N : Nat} {f : Nat → Option Nat} {i : Int32} (hd : decode y.2.1 pc = .ok (.aaload, 1)) (hn : pc + 1 = n) (hkc : kc < 52) (hM : M kc = .inl (jc g 3, N, .inr (.inr (.inr (.inr f))))) (hi : vp_in i N) (kk : J g y d K n ls (va_rf (f i.toNatClampNeg) :: st) M) : J g y d K pc ls (.int i :: .ref (jA g kc) :: st) M := by
  intro p e s m args below meth c A H locs lr C hP hD hS hL
  subst hn
  have hlt : i.toNatClampNeg < N := Nat.not_le.mp fun q => hi (Or.inr q)
  have hq : va_at g.2.1 vwCl (jA g kc, .inl (jc g 3, N, .inr (.inr (.inr (.inr f))))) H := hP kc _ (by rw [jW_get hkc, hM])
  exact W.aald (v := va_rf (f i.toNatClampNeg)) (ty := .array .int) C.1 C.2.1 hq ((C.2.2.2.2.2.2.2.1.2 3 _ rfl).1 N (fun j => va_rf (f j))) rfl (fun q => by cases q) (by show ¬ (i < 0 ∨ (arrV _ _ _).slots.size ≤ _); rw [arrV_size]; exact hi) (by show (arrV _ _ _).slots[_]? = _; rw [arrV_read _ _ hlt]) rfl rfl hd (kk p e s m args below meth c A H locs lr C hP hD hS hL)
theorem j_iast {kc N : Nat} {f : Nat → Int32} {i x : Int32} (hd : decode y.2.1 pc = .ok (.iastore, 1)) (hn : pc + 1 = n) (hkc : kc < 52) (hM : M kc = .inl (jc g 0, N, .inl f)) (hi : vp_in i N) (kk : J g y d K n ls st (va_up M kc (.inl (jc g 0, N, .inl (upd f i.toNatClampNeg x))))) : J g y d K pc ls (.int x :: .int i :: .ref (jA g kc) :: st) M := by
  intro p e s m args below meth c A H locs lr C hP hD hS hL
  subst hn
  refine va_iast C.1 C.2.1 C.2.2.2.2.2.2.2.1 hP hD hS kc 0 (by rw [jW_get hkc, hM]) rfl hi hd (fun H1 locs1 hP1 hD1 hS1 => ?_)
  rw [jW_set hkc] at hP1 hD1
  exact kk p e s m args below meth c A H1 locs1 lr C hP1 hD1 hS1 hL
theorem j_last {kc N : Nat} {f : Nat → Int64} {i : Int32} {x : Int64} (hd : decode y.2.1 pc = .ok (.lastore, 1)) (hn : pc + 1 = n) (hkc : kc < 52) (hM : M kc = .inl (jc g 1, N, .inr (.inl f))) (hi : vp_in i N) (kk : J g y d K n ls st (va_up M kc (.inl (jc g 1, N, .inr (.inl (vp_updL f i.toNatClampNeg x)))))) : J g y d K pc ls (.long x :: .int i :: .ref (jA g kc) :: st) M := by
  intro p e s m args below meth c A H locs lr C hP hD hS hL
  subst hn
  refine va_last C.1 C.2.1 C.2.2.2.2.2.2.2.1 hP hD hS kc 1 (by rw [jW_get hkc, hM]) rfl hi hd (fun H1 locs1 hP1 hD1 hS1 => ?_)
  rw [jW_set hkc] at hP1 hD1
  exact kk p e s m args below meth c A H1 locs1 lr C hP1 hD1 hS1 hL
theorem j_zast {kc N : Nat} {f : Nat → Int32} {i x : Int32} (hd : decode y.2.1 pc = .ok (.bastore, 1)) (hn : pc + 1 = n) (hkc : kc < 52) (hM : M kc = .inl (jc g 2, N, .inl f)) (hi : vp_in i N) (kk : J g y d K n ls st (va_up M kc (.inl (jc g 2, N, .inl (upd f i.toNatClampNeg (vp_nar .boolean x)))))) : J g y d K pc ls (.int x :: .int i :: .ref (jA g kc) :: st) M := by
  intro p e s m args below meth c A H locs lr C hP hD hS hL
  subst hn
  refine va_zast C.1 C.2.1 C.2.2.2.2.2.2.2.1 hP hD hS kc 2 (by rw [jW_get hkc, hM]) rfl hi hd (fun H1 locs1 hP1 hD1 hS1 => ?_)
  rw [jW_set hkc] at hP1 hD1
  exact kk p e s m args below meth c A H1 locs1 lr C hP1 hD1 hS1 hL
theorem j_tild {kz : Nat} {i v : Int32} (hd : decode y.2.1 pc = .ok (.iaload, 1)) (hn : pc + 1 = n) (hz : kz < 5) (hty : (jSt kz).2.2.2.1 = .int) (hi : vp_in i (jSt kz).2.2.2.2.1) (hv : (jSt kz).2.2.2.2.2 i.toNatClampNeg = .int v) (kk : J g y d K n ls (.int v :: st) M) : J g y d K pc ls (.int i :: .ref (jsa g kz) :: st) M := by
  intro p e s m args below meth c A H locs lr C hP hD hS hL
  subst hn
  have hT := (C.2.2.2.2.2.2.2.2.1 kz hz).2
  rw [hty] at hT
  exact va_ti C.1 C.2.1 hT hS hi hv hd (kk p e s m args below meth c A H locs lr C hP hD hS hL)
theorem j_tlld {kz : Nat} {i : Int32} {v : Int64} (hd : decode y.2.1 pc = .ok (.laload, 1)) (hn : pc + 1 = n) (hz : kz < 5) (hty : (jSt kz).2.2.2.1 = .long) (hi : vp_in i (jSt kz).2.2.2.2.1) (hv : (jSt kz).2.2.2.2.2 i.toNatClampNeg = .long v) (kk : J g y d K n ls (.long v :: st) M) : J g y d K pc ls (.int i :: .ref (jsa g kz) :: st) M := by
  intro p e s m args below meth c A H locs lr C hP hD hS hL
  subst hn
  have hT := (C.2.2.2.2.2.2.2.2.1 kz hz).2
  rw [hty] at hT
  exact va_tl C.1 C.2.1 hT hS hi hv hd (kk p e s m args below meth c A H locs lr C hP hD hS hL)

theorem j_mmax {a b : Int32} {idx : Nat} (hd : decode y.2.1 pc = .ok (.invokestatic idx, 3)) (hn : pc + 3 = n) (hl : Cond.methodLink y.1.cls idx Lib.Math.max.name ∈ jTB) (hw : Cond.static Lib.Math.max.name ∈ jTB ∧ Cond.initialized "java/lang/Math" ∈ jTB ∧ Cond.code Lib.Math.max.name Lib.Math.max.code 2 (some .int) ∈ jTB) (hd1 : 0 < d) (hW : (st.map fun v => v.category).sum ≤ 8) (k : J g y d K n ls (.int (if a < b then b else a) :: st) M) : J g y d K pc ls (.int b :: .int a :: st) M := by
  intro p e s m args below meth c A H locs lr C hP hD hS hL
  subst hn
  obtain ⟨hx, hb, hml, hown, hts, hr, hlk, hK, hS0, hA⟩ := id C
  exact va_mmax hx hb (by rw [hml]; exact hL.1.symm) hown (hts _ (List.mem_cons_of_mem _ hl)) (hts _ (List.mem_cons_of_mem _ hw.1)) (hts _ (List.mem_cons_of_mem _ hw.2.1)) (hts _ (List.mem_cons_of_mem _ hw.2.2)) (by show 1 ≤ d; omega) (by show _ ≤ 40 * d; omega) (Nat.le_refl _) (Nat.le_refl _) hd (k p e s m args below meth c A H locs lr C hP hD hS hL)
theorem j_mmin {a b : Int32} {idx : Nat} (hd : decode y.2.1 pc = .ok (.invokestatic idx, 3)) (hn : pc + 3 = n) (hl : Cond.methodLink y.1.cls idx Lib.Math.min.name ∈ jTB) (hw : Cond.static Lib.Math.min.name ∈ jTB ∧ Cond.initialized "java/lang/Math" ∈ jTB ∧ Cond.code Lib.Math.min.name Lib.Math.min.code 2 (some .int) ∈ jTB) (hd1 : 0 < d) (hW : (st.map fun v => v.category).sum ≤ 8) (k : J g y d K n ls (.int (if b < a then b else a) :: st) M) : J g y d K pc ls (.int b :: .int a :: st) M := by
  intro p e s m args below meth c A H locs lr C hP hD hS hL
  subst hn
  obtain ⟨hx, hb, hml, hown, hts, hr, hlk, hK, hS0, hA⟩ := id C
  exact va_mmin hx hb (by rw [hml]; exact hL.1.symm) hown (hts _ (List.mem_cons_of_mem _ hl)) (hts _ (List.mem_cons_of_mem _ hw.1)) (hts _ (List.mem_cons_of_mem _ hw.2.1)) (hts _ (List.mem_cons_of_mem _ hw.2.2)) (by show 1 ≤ d; omega) (by show _ ≤ 40 * d; omega) (Nat.le_refl _) (Nat.le_refl _) hd (k p e s m args below meth c A H locs lr C hP hD hS hL)
theorem j_mabs {a : Int32} {idx : Nat} (hd : decode y.2.1 pc = .ok (.invokestatic idx, 3)) (hn : pc + 3 = n) (hl : Cond.methodLink y.1.cls idx Lib.Math.abs.name ∈ jTB) (hw : Cond.static Lib.Math.abs.name ∈ jTB ∧ Cond.initialized "java/lang/Math" ∈ jTB ∧ Cond.code Lib.Math.abs.name Lib.Math.abs.code 1 (some .int) ∈ jTB) (hd1 : 0 < d) (hW : (st.map fun v => v.category).sum ≤ 8) (k : J g y d K n ls (.int (if 0 ≤ a then a else 0 - a) :: st) M) : J g y d K pc ls (.int a :: st) M := by
  intro p e s m args below meth c A H locs lr C hP hD hS hL
  subst hn
  obtain ⟨hx, hb, hml, hown, hts, hr, hlk, hK, hS0, hA⟩ := id C
  exact va_mabs hx hb (by rw [hml]; exact hL.1.symm) hown (hts _ (List.mem_cons_of_mem _ hl)) (hts _ (List.mem_cons_of_mem _ hw.1)) (hts _ (List.mem_cons_of_mem _ hw.2.1)) (hts _ (List.mem_cons_of_mem _ hw.2.2)) (by show 1 ≤ d; omega) (by show _ ≤ 40 * d; omega) (Nat.le_refl _) (Nat.le_refl _) hd (k p e s m args below meth c A H locs lr C hP hD hS hL)
end JR
end
