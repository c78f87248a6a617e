section
-- ===== PART A: goes FIRST, ahead of the names: the tables' words, and 'selects' of the private methods out of them =====
/-- a private method of a class that the tables say can be made, by its rows of tables_1 -/
def lw_okq (q : MethodName × Nat) : Prop := (q.1.cls ≠ "java/lang/invoke/MethodHandle" ∧ q.1.cls ≠ "java/lang/invoke/VarHandle") ∧ Cond.instantiable q.1.cls q.2 ∈ tables_1 ∧ Cond.privateMethod q.1 ∈ tables_1 ∧ Cond.instanceMethod q.1 ∈ tables_1
theorem lw_p0 : lw_okq (⟨"WeighGates", "keep", "(IIJ)I"⟩, 7) := ⟨⟨by decide +kernel, by decide +kernel⟩, List.mem_of_getElem? (i := 15) (by decide +kernel), List.mem_of_getElem? (i := 210) (by decide +kernel), List.mem_of_getElem? (i := 211) (by decide +kernel)⟩
theorem lw_p1 : lw_okq (⟨"WeighGates", "isInput", "(II)Z"⟩, 7) := ⟨⟨by decide +kernel, by decide +kernel⟩, List.mem_of_getElem? (i := 15) (by decide +kernel), List.mem_of_getElem? (i := 252) (by decide +kernel), List.mem_of_getElem? (i := 253) (by decide +kernel)⟩
theorem lw_p2 : lw_okq (⟨"WeighGates", "tellsGate", "(I)Z"⟩, 7) := ⟨⟨by decide +kernel, by decide +kernel⟩, List.mem_of_getElem? (i := 15) (by decide +kernel), List.mem_of_getElem? (i := 287) (by decide +kernel), List.mem_of_getElem? (i := 288) (by decide +kernel)⟩
theorem lw_p3 : lw_okq (⟨"WeighGates$Witness", "findSecond", "(IJI)Z"⟩, 1) := ⟨⟨by decide +kernel, by decide +kernel⟩, List.mem_of_getElem? (i := 23) (by decide +kernel), List.mem_of_getElem? (i := 297) (by decide +kernel), List.mem_of_getElem? (i := 298) (by decide +kernel)⟩
theorem lw_p4 : lw_okq (⟨"WeighGates$Witness", "findZeros", "(JII)Z"⟩, 1) := ⟨⟨by decide +kernel, by decide +kernel⟩, List.mem_of_getElem? (i := 23) (by decide +kernel), List.mem_of_getElem? (i := 301) (by decide +kernel), List.mem_of_getElem? (i := 302) (by decide +kernel)⟩
theorem lw_p5 : lw_okq (⟨"WeighGates", "findLeast", "(I)Z"⟩, 7) := ⟨⟨by decide +kernel, by decide +kernel⟩, List.mem_of_getElem? (i := 15) (by decide +kernel), List.mem_of_getElem? (i := 309) (by decide +kernel), List.mem_of_getElem? (i := 310) (by decide +kernel)⟩
theorem lw_p6 : lw_okq (⟨"WeighGates$LeastWeighing", "findFloors", "()I"⟩, 8) := ⟨⟨by decide +kernel, by decide +kernel⟩, List.mem_of_getElem? (i := 36) (by decide +kernel), List.mem_of_getElem? (i := 319) (by decide +kernel), List.mem_of_getElem? (i := 320) (by decide +kernel)⟩
theorem lw_p7 : lw_okq (⟨"WeighGates$LeastWeighing", "raiseFloor", "(I)V"⟩, 8) := ⟨⟨by decide +kernel, by decide +kernel⟩, List.mem_of_getElem? (i := 36) (by decide +kernel), List.mem_of_getElem? (i := 323) (by decide +kernel), List.mem_of_getElem? (i := 324) (by decide +kernel)⟩
theorem lw_p8 : lw_okq (⟨"WeighGates$LeastWeighing", "share", "(II)Z"⟩, 8) := ⟨⟨by decide +kernel, by decide +kernel⟩, List.mem_of_getElem? (i := 36) (by decide +kernel), List.mem_of_getElem? (i := 333) (by decide +kernel), List.mem_of_getElem? (i := 334) (by decide +kernel)⟩
theorem lw_p9 : lw_okq (⟨"WeighGates$LeastWeighing", "separates", "()Z"⟩, 8) := ⟨⟨by decide +kernel, by decide +kernel⟩, List.mem_of_getElem? (i := 36) (by decide +kernel), List.mem_of_getElem? (i := 337) (by decide +kernel), List.mem_of_getElem? (i := 338) (by decide +kernel)⟩
theorem lw_p10 : lw_okq (⟨"WeighGates$LeastWeighing", "keepsOrder", "(II)Z"⟩, 8) := ⟨⟨by decide +kernel, by decide +kernel⟩, List.mem_of_getElem? (i := 36) (by decide +kernel), List.mem_of_getElem? (i := 354) (by decide +kernel), List.mem_of_getElem? (i := 355) (by decide +kernel)⟩
theorem lw_p11 : lw_okq (⟨"WeighGates$Kind", "changePlaces", "(IJ)V"⟩, 4) := ⟨⟨by decide +kernel, by decide +kernel⟩, List.mem_of_getElem? (i := 92) (by decide +kernel), List.mem_of_getElem? (i := 399) (by decide +kernel), List.mem_of_getElem? (i := 400) (by decide +kernel)⟩
theorem lw_p12 : lw_okq (⟨"WeighGates$Kind", "turnInputs", "(J)V"⟩, 4) := ⟨⟨by decide +kernel, by decide +kernel⟩, List.mem_of_getElem? (i := 92) (by decide +kernel), List.mem_of_getElem? (i := 403) (by decide +kernel), List.mem_of_getElem? (i := 404) (by decide +kernel)⟩
theorem lw_p13 : lw_okq (⟨"WeighGates$Kind", "meet", "(J)V"⟩, 4) := ⟨⟨by decide +kernel, by decide +kernel⟩, List.mem_of_getElem? (i := 92) (by decide +kernel), List.mem_of_getElem? (i := 407) (by decide +kernel), List.mem_of_getElem? (i := 408) (by decide +kernel)⟩
theorem lw_p14 : lw_okq (⟨"WeighGates$Kind", "compare", "(J)V"⟩, 4) := ⟨⟨by decide +kernel, by decide +kernel⟩, List.mem_of_getElem? (i := 92) (by decide +kernel), List.mem_of_getElem? (i := 411) (by decide +kernel), List.mem_of_getElem? (i := 412) (by decide +kernel)⟩
theorem lw_p15 : lw_okq (⟨"WeighGates$GatePair", "weighRows", "(II)V"⟩, 4) := ⟨⟨by decide +kernel, by decide +kernel⟩, List.mem_of_getElem? (i := 112) (by decide +kernel), List.mem_of_getElem? (i := 459) (by decide +kernel), List.mem_of_getElem? (i := 460) (by decide +kernel)⟩
def lw_privs_1 : List (MethodName × Nat) := [(⟨"WeighGates", "keep", "(IIJ)I"⟩, 7), (⟨"WeighGates", "isInput", "(II)Z"⟩, 7), (⟨"WeighGates", "tellsGate", "(I)Z"⟩, 7), (⟨"WeighGates$Witness", "findSecond", "(IJI)Z"⟩, 1), (⟨"WeighGates$Witness", "findZeros", "(JII)Z"⟩, 1), (⟨"WeighGates", "findLeast", "(I)Z"⟩, 7), (⟨"WeighGates$LeastWeighing", "findFloors", "()I"⟩, 8), (⟨"WeighGates$LeastWeighing", "raiseFloor", "(I)V"⟩, 8), (⟨"WeighGates$LeastWeighing", "share", "(II)Z"⟩, 8), (⟨"WeighGates$LeastWeighing", "separates", "()Z"⟩, 8), (⟨"WeighGates$LeastWeighing", "keepsOrder", "(II)Z"⟩, 8), (⟨"WeighGates$Kind", "changePlaces", "(IJ)V"⟩, 4), (⟨"WeighGates$Kind", "turnInputs", "(J)V"⟩, 4), (⟨"WeighGates$Kind", "meet", "(J)V"⟩, 4), (⟨"WeighGates$Kind", "compare", "(J)V"⟩, 4), (⟨"WeighGates$GatePair", "weighRows", "(II)V"⟩, 4)]
theorem lw_r1 : ∀ q ∈ lw_privs_1, lw_okq q := List.forall_mem_cons.mpr ⟨lw_p0, List.forall_mem_cons.mpr ⟨lw_p1, List.forall_mem_cons.mpr ⟨lw_p2, List.forall_mem_cons.mpr ⟨lw_p3, List.forall_mem_cons.mpr ⟨lw_p4, List.forall_mem_cons.mpr ⟨lw_p5, List.forall_mem_cons.mpr ⟨lw_p6, List.forall_mem_cons.mpr ⟨lw_p7, List.forall_mem_cons.mpr ⟨lw_p8, List.forall_mem_cons.mpr ⟨lw_p9, List.forall_mem_cons.mpr ⟨lw_p10, List.forall_mem_cons.mpr ⟨lw_p11, List.forall_mem_cons.mpr ⟨lw_p12, List.forall_mem_cons.mpr ⟨lw_p13, List.forall_mem_cons.mpr ⟨lw_p14, List.forall_mem_cons.mpr ⟨lw_p15, fun _ h => absurd h List.not_mem_nil⟩⟩⟩⟩⟩⟩⟩⟩⟩⟩⟩⟩⟩⟩⟩⟩
theorem lw_p16 : lw_okq (⟨"WeighGates$GatePair", "findWrongRows", "(IJI)V"⟩, 4) := ⟨⟨by decide +kernel, by decide +kernel⟩, List.mem_of_getElem? (i := 112) (by decide +kernel), List.mem_of_getElem? (i := 467) (by decide +kernel), List.mem_of_getElem? (i := 468) (by decide +kernel)⟩
theorem lw_p17 : lw_okq (⟨"WeighGates$GatePair", "partsSomeOrder", "(J)Z"⟩, 4) := ⟨⟨by decide +kernel, by decide +kernel⟩, List.mem_of_getElem? (i := 112) (by decide +kernel), List.mem_of_getElem? (i := 475) (by decide +kernel), List.mem_of_getElem? (i := 476) (by decide +kernel)⟩
theorem lw_p18 : lw_okq (⟨"WeighGates$Net", "toldBy", "(I[J)J"⟩, 7) := ⟨⟨by decide +kernel, by decide +kernel⟩, List.mem_of_getElem? (i := 135) (by decide +kernel), List.mem_of_getElem? (i := 506) (by decide +kernel), List.mem_of_getElem? (i := 507) (by decide +kernel)⟩
theorem lw_p19 : lw_okq (⟨"WeighGates$Net", "sumAt", "(II[J)I"⟩, 7) := ⟨⟨by decide +kernel, by decide +kernel⟩, List.mem_of_getElem? (i := 135) (by decide +kernel), List.mem_of_getElem? (i := 511) (by decide +kernel), List.mem_of_getElem? (i := 512) (by decide +kernel)⟩
theorem lw_p20 : lw_okq (⟨"WeighGates$Net", "depthOf", "(I)I"⟩, 7) := ⟨⟨by decide +kernel, by decide +kernel⟩, List.mem_of_getElem? (i := 135) (by decide +kernel), List.mem_of_getElem? (i := 517) (by decide +kernel), List.mem_of_getElem? (i := 518) (by decide +kernel)⟩
theorem lw_p21 : lw_okq (⟨"WeighGates", "isGateOfNet", "(I)Z"⟩, 7) := ⟨⟨by decide +kernel, by decide +kernel⟩, List.mem_of_getElem? (i := 15) (by decide +kernel), List.mem_of_getElem? (i := 526) (by decide +kernel), List.mem_of_getElem? (i := 527) (by decide +kernel)⟩
theorem lw_p22 : lw_okq (⟨"WeighGatesModel", "set", "(IIJ)I"⟩, 26) := ⟨⟨by decide +kernel, by decide +kernel⟩, List.mem_of_getElem? (i := 559) (by decide +kernel), List.mem_of_getElem? (i := 662) (by decide +kernel), List.mem_of_getElem? (i := 663) (by decide +kernel)⟩
theorem lw_p23 : lw_okq (⟨"WeighGatesModel", "isInput", "(II)Z"⟩, 26) := ⟨⟨by decide +kernel, by decide +kernel⟩, List.mem_of_getElem? (i := 559) (by decide +kernel), List.mem_of_getElem? (i := 698) (by decide +kernel), List.mem_of_getElem? (i := 699) (by decide +kernel)⟩
theorem lw_p24 : lw_okq (⟨"WeighGatesModel", "solve", "(JI)V"⟩, 26) := ⟨⟨by decide +kernel, by decide +kernel⟩, List.mem_of_getElem? (i := 559) (by decide +kernel), List.mem_of_getElem? (i := 721) (by decide +kernel), List.mem_of_getElem? (i := 722) (by decide +kernel)⟩
theorem lw_p25 : lw_okq (⟨"WeighGatesModel", "isGate", "(JI)Z"⟩, 26) := ⟨⟨by decide +kernel, by decide +kernel⟩, List.mem_of_getElem? (i := 559) (by decide +kernel), List.mem_of_getElem? (i := 725) (by decide +kernel), List.mem_of_getElem? (i := 726) (by decide +kernel)⟩
theorem lw_p26 : lw_okq (⟨"WeighGatesModel", "layFalse", "(JI)V"⟩, 26) := ⟨⟨by decide +kernel, by decide +kernel⟩, List.mem_of_getElem? (i := 559) (by decide +kernel), List.mem_of_getElem? (i := 729) (by decide +kernel), List.mem_of_getElem? (i := 730) (by decide +kernel)⟩
theorem lw_p27 : lw_okq (⟨"WeighGatesModel", "layThree", "(I)V"⟩, 26) := ⟨⟨by decide +kernel, by decide +kernel⟩, List.mem_of_getElem? (i := 559) (by decide +kernel), List.mem_of_getElem? (i := 733) (by decide +kernel), List.mem_of_getElem? (i := 734) (by decide +kernel)⟩
theorem lw_p28 : lw_okq (⟨"WeighGatesModel", "findOthers", "(JI)V"⟩, 26) := ⟨⟨by decide +kernel, by decide +kernel⟩, List.mem_of_getElem? (i := 559) (by decide +kernel), List.mem_of_getElem? (i := 737) (by decide +kernel), List.mem_of_getElem? (i := 738) (by decide +kernel)⟩
theorem lw_p29 : lw_okq (⟨"WeighGatesModel", "falling", "(JI)I"⟩, 26) := ⟨⟨by decide +kernel, by decide +kernel⟩, List.mem_of_getElem? (i := 559) (by decide +kernel), List.mem_of_getElem? (i := 741) (by decide +kernel), List.mem_of_getElem? (i := 742) (by decide +kernel)⟩
theorem lw_p30 : lw_okq (⟨"WeighGatesModel", "parts", "(JII)Z"⟩, 26) := ⟨⟨by decide +kernel, by decide +kernel⟩, List.mem_of_getElem? (i := 559) (by decide +kernel), List.mem_of_getElem? (i := 745) (by decide +kernel), List.mem_of_getElem? (i := 746) (by decide +kernel)⟩
theorem lw_p31 : lw_okq (⟨"WeighGatesModel", "sumOf", "(II)I"⟩, 26) := ⟨⟨by decide +kernel, by decide +kernel⟩, List.mem_of_getElem? (i := 559) (by decide +kernel), List.mem_of_getElem? (i := 749) (by decide +kernel), List.mem_of_getElem? (i := 750) (by decide +kernel)⟩
def lw_privs_2 : List (MethodName × Nat) := [(⟨"WeighGates$GatePair", "findWrongRows", "(IJI)V"⟩, 4), (⟨"WeighGates$GatePair", "partsSomeOrder", "(J)Z"⟩, 4), (⟨"WeighGates$Net", "toldBy", "(I[J)J"⟩, 7), (⟨"WeighGates$Net", "sumAt", "(II[J)I"⟩, 7), (⟨"WeighGates$Net", "depthOf", "(I)I"⟩, 7), (⟨"WeighGates", "isGateOfNet", "(I)Z"⟩, 7), (⟨"WeighGatesModel", "set", "(IIJ)I"⟩, 26), (⟨"WeighGatesModel", "isInput", "(II)Z"⟩, 26), (⟨"WeighGatesModel", "solve", "(JI)V"⟩, 26), (⟨"WeighGatesModel", "isGate", "(JI)Z"⟩, 26), (⟨"WeighGatesModel", "layFalse", "(JI)V"⟩, 26), (⟨"WeighGatesModel", "layThree", "(I)V"⟩, 26), (⟨"WeighGatesModel", "findOthers", "(JI)V"⟩, 26), (⟨"WeighGatesModel", "falling", "(JI)I"⟩, 26), (⟨"WeighGatesModel", "parts", "(JII)Z"⟩, 26), (⟨"WeighGatesModel", "sumOf", "(II)I"⟩, 26)]
theorem lw_r2 : ∀ q ∈ lw_privs_2, lw_okq q := List.forall_mem_cons.mpr ⟨lw_p16, List.forall_mem_cons.mpr ⟨lw_p17, List.forall_mem_cons.mpr ⟨lw_p18, List.forall_mem_cons.mpr ⟨lw_p19, List.forall_mem_cons.mpr ⟨lw_p20, List.forall_mem_cons.mpr ⟨lw_p21, List.forall_mem_cons.mpr ⟨lw_p22, List.forall_mem_cons.mpr ⟨lw_p23, List.forall_mem_cons.mpr ⟨lw_p24, List.forall_mem_cons.mpr ⟨lw_p25, List.forall_mem_cons.mpr ⟨lw_p26, List.forall_mem_cons.mpr ⟨lw_p27, List.forall_mem_cons.mpr ⟨lw_p28, List.forall_mem_cons.mpr ⟨lw_p29, List.forall_mem_cons.mpr ⟨lw_p30, List.forall_mem_cons.mpr ⟨lw_p31, fun _ h => absurd h List.not_mem_nil⟩⟩⟩⟩⟩⟩⟩⟩⟩⟩⟩⟩⟩⟩⟩⟩
theorem lw_p32 : lw_okq (⟨"WeighGatesModel", "next", "(II)Z"⟩, 26) := ⟨⟨by decide +kernel, by decide +kernel⟩, List.mem_of_getElem? (i := 559) (by decide +kernel), List.mem_of_getElem? (i := 753) (by decide +kernel), List.mem_of_getElem? (i := 754) (by decide +kernel)⟩
theorem lw_p33 : lw_okq (⟨"WeighGatesModel", "layKind", "(JI)V"⟩, 26) := ⟨⟨by decide +kernel, by decide +kernel⟩, List.mem_of_getElem? (i := 559) (by decide +kernel), List.mem_of_getElem? (i := 783) (by decide +kernel), List.mem_of_getElem? (i := 784) (by decide +kernel)⟩
theorem lw_p34 : lw_okq (⟨"WeighGatesModel", "changed", "(JI)J"⟩, 26) := ⟨⟨by decide +kernel, by decide +kernel⟩, List.mem_of_getElem? (i := 559) (by decide +kernel), List.mem_of_getElem? (i := 787) (by decide +kernel), List.mem_of_getElem? (i := 788) (by decide +kernel)⟩
theorem lw_p35 : lw_okq (⟨"WeighGatesModel", "meet", "(J)V"⟩, 26) := ⟨⟨by decide +kernel, by decide +kernel⟩, List.mem_of_getElem? (i := 559) (by decide +kernel), List.mem_of_getElem? (i := 791) (by decide +kernel), List.mem_of_getElem? (i := 792) (by decide +kernel)⟩
theorem lw_p36 : lw_okq (⟨"WeighGatesModel", "firstOf", "(JI)I"⟩, 26) := ⟨⟨by decide +kernel, by decide +kernel⟩, List.mem_of_getElem? (i := 559) (by decide +kernel), List.mem_of_getElem? (i := 812) (by decide +kernel), List.mem_of_getElem? (i := 813) (by decide +kernel)⟩
theorem lw_p37 : lw_okq (⟨"WeighGatesModel", "isSecond", "(III)Z"⟩, 26) := ⟨⟨by decide +kernel, by decide +kernel⟩, List.mem_of_getElem? (i := 559) (by decide +kernel), List.mem_of_getElem? (i := 819) (by decide +kernel), List.mem_of_getElem? (i := 820) (by decide +kernel)⟩
theorem lw_p38 : lw_okq (⟨"WeighGatesModel", "inputsGate", "(I)Z"⟩, 26) := ⟨⟨by decide +kernel, by decide +kernel⟩, List.mem_of_getElem? (i := 559) (by decide +kernel), List.mem_of_getElem? (i := 823) (by decide +kernel), List.mem_of_getElem? (i := 824) (by decide +kernel)⟩
theorem lw_p39 : lw_okq (⟨"WeighGatesModel", "isNetGate", "(I)Z"⟩, 26) := ⟨⟨by decide +kernel, by decide +kernel⟩, List.mem_of_getElem? (i := 559) (by decide +kernel), List.mem_of_getElem? (i := 851) (by decide +kernel), List.mem_of_getElem? (i := 852) (by decide +kernel)⟩
theorem lw_p40 : lw_okq (⟨"WeighGatesModel", "work", "(II)V"⟩, 26) := ⟨⟨by decide +kernel, by decide +kernel⟩, List.mem_of_getElem? (i := 559) (by decide +kernel), List.mem_of_getElem? (i := 855) (by decide +kernel), List.mem_of_getElem? (i := 856) (by decide +kernel)⟩
def lw_privs_3 : List (MethodName × Nat) := [(⟨"WeighGatesModel", "next", "(II)Z"⟩, 26), (⟨"WeighGatesModel", "layKind", "(JI)V"⟩, 26), (⟨"WeighGatesModel", "changed", "(JI)J"⟩, 26), (⟨"WeighGatesModel", "meet", "(J)V"⟩, 26), (⟨"WeighGatesModel", "firstOf", "(JI)I"⟩, 26), (⟨"WeighGatesModel", "isSecond", "(III)Z"⟩, 26), (⟨"WeighGatesModel", "inputsGate", "(I)Z"⟩, 26), (⟨"WeighGatesModel", "isNetGate", "(I)Z"⟩, 26), (⟨"WeighGatesModel", "work", "(II)V"⟩, 26)]
theorem lw_r3 : ∀ q ∈ lw_privs_3, lw_okq q := List.forall_mem_cons.mpr ⟨lw_p32, List.forall_mem_cons.mpr ⟨lw_p33, List.forall_mem_cons.mpr ⟨lw_p34, List.forall_mem_cons.mpr ⟨lw_p35, List.forall_mem_cons.mpr ⟨lw_p36, List.forall_mem_cons.mpr ⟨lw_p37, List.forall_mem_cons.mpr ⟨lw_p38, List.forall_mem_cons.mpr ⟨lw_p39, List.forall_mem_cons.mpr ⟨lw_p40, fun _ h => absurd h List.not_mem_nil⟩⟩⟩⟩⟩⟩⟩⟩⟩
def lw_privs : List (MethodName × Nat) := lw_privs_1 ++ (lw_privs_2 ++ (lw_privs_3))
def lw_tbl : List Cond := k2_sels lw_privs ++ tables_1
theorem lw_privs_ok : ∀ q ∈ lw_privs, lw_okq q := by
  show ∀ q ∈ lw_privs_1 ++ (lw_privs_2 ++ (lw_privs_3)), lw_okq q
  exact List.forall_mem_append.mpr ⟨lw_r1, List.forall_mem_append.mpr ⟨lw_r2, lw_r3⟩⟩
end
section
/-! ===== BEGIN words of one list among another's, by their places ===== -/
theorem goodIn_r {big : List Cond} (ws : List Cond) (ps : List Nat) (hp : ws = ps.filterMap (fun i => big[i]?)) (h : ws.all goodWord = true) : GoodIn big ws := by
  intro w hw
  have h1 := List.all_eq_true.mp h w hw
  rw [hp] at hw
  obtain ⟨i, -, hi⟩ := List.mem_filterMap.mp hw
  have hm : w ∈ big := by first | exact List.mem_of_getElem? hi | exact List.getElem?_mem hi
  exact ⟨hm, good_of_word h1⟩
theorem goodIn_app {big a b : List Cond} (ha : GoodIn big a) (hb : GoodIn big b) : GoodIn big (a ++ b) := fun w h => (List.mem_append.mp h).elim (ha w) (hb w)
theorem goodIn_ca {big a b : List Cond} {c : Cond} (ha : GoodIn big (c :: a)) (hb : GoodIn big b) : GoodIn big (c :: (a ++ b)) := fun w h => (List.mem_cons.mp h).elim (fun e => ha w (List.mem_cons.mpr (Or.inl e))) (fun h => (List.mem_append.mp h).elim (fun h => ha w (List.mem_cons.mpr (Or.inr h))) (hb w))
theorem goodIn_sub {big ws : List Cond} (hm : ∀ w ∈ ws, w ∈ big) (h : ws.all goodWord = true) : GoodIn big ws := fun w hw => ⟨hm w hw, good_of_word (List.all_eq_true.mp h w hw)⟩
/-! ===== END ===== -/
/-! ===== BEGIN printed: names, fields, word lists, decode rows ===== -/
def RX0 : String := "WeighGates$GatePair"
def TX0 : u_T := fun k => match k with
  | 0 => ("WeighGates$GatePair", "proof", "LWeighGates$Witness;", true)
  | 1 => ("WeighGates$GatePair", "weighed", "LWeighGates$RowSums;", true)
  | 2 => ("WeighGates$GatePair", "wrongZeros", "[J", true)
  | _ => ("WeighGates$GatePair", "wrongOnes", "[J", true)
def tyX0 : Nat → FieldType := fun k => match k with
  | 0 => .object "WeighGates$Witness"
  | 1 => .object "WeighGates$RowSums"
  | 2 => .array .long
  | _ => .array .long
abbrev wsX00 : List Cond := u_ws RX0 TX0 4
theorem nmX0 : ∀ a, a < 4 → ∀ b, b < 4 → a ≠ b → (TX0 a).2.1 ≠ (TX0 b).2.1 := by decide +kernel
theorem tyX0_ok : ∀ k, k < 4 → parseFieldDescriptor (TX0 k).2.2.1 = some (tyX0 k) := by decide +kernel
abbrev cX0_init : ByteArray := prog_2_method_1_code
def yX0_init : MethodName := ⟨RX0, "<init>", "()V"⟩
abbrev cX0_leastFirst : ByteArray := prog_2_method_2_code
def yX0_leastFirst : MethodName := ⟨RX0, "leastFirst", "(IJ)I"⟩
abbrev cX0_weighRows : ByteArray := prog_2_method_3_code
def yX0_weighRows : MethodName := ⟨RX0, "weighRows", "(II)V"⟩
abbrev cX0_findWrongRows : ByteArray := prog_2_method_4_code
def yX0_findWrongRows : MethodName := ⟨RX0, "findWrongRows", "(IJI)V"⟩
abbrev cX0_partsSomeOrder : ByteArray := prog_2_method_5_code
def yX0_partsSomeOrder : MethodName := ⟨RX0, "partsSomeOrder", "(J)Z"⟩
def RX1 : String := "WeighGates$Kind"
def TX1 : u_T := fun k => match k with
  | 0 => ("WeighGates$Kind", "leastBits", "J", false)
  | 1 => ("WeighGates$Kind", "n", "I", false)
  | 2 => ("WeighGates$Kind", "ways", "I", false)
  | _ => ("WeighGates$Kind", "waysToLeast", "I", false)
def tyX1 : Nat → FieldType := fun k => match k with
  | 0 => .long
  | 1 => .int
  | 2 => .int
  | _ => .int
abbrev wsX10 : List Cond := u_ws RX1 TX1 4
theorem nmX1 : ∀ a, a < 4 → ∀ b, b < 4 → a ≠ b → (TX1 a).2.1 ≠ (TX1 b).2.1 := by decide +kernel
theorem tyX1_ok : ∀ k, k < 4 → parseFieldDescriptor (TX1 k).2.2.1 = some (tyX1 k) := by decide +kernel
abbrev cX1_init : ByteArray := prog_3_method_1_code
def yX1_init : MethodName := ⟨RX1, "<init>", "()V"⟩
abbrev cX1_find : ByteArray := prog_3_method_2_code
def yX1_find : MethodName := ⟨RX1, "find", "(IJ)V"⟩
abbrev cX1_members : ByteArray := prog_3_method_3_code
def yX1_members : MethodName := ⟨RX1, "members", "()I"⟩
abbrev cX1_changePlaces : ByteArray := prog_3_method_4_code
def yX1_changePlaces : MethodName := ⟨RX1, "changePlaces", "(IJ)V"⟩
abbrev cX1_turnInputs : ByteArray := prog_3_method_5_code
def yX1_turnInputs : MethodName := ⟨RX1, "turnInputs", "(J)V"⟩
abbrev cX1_meet : ByteArray := prog_3_method_6_code
def yX1_meet : MethodName := ⟨RX1, "meet", "(J)V"⟩
abbrev cX1_compare : ByteArray := prog_3_method_7_code
def yX1_compare : MethodName := ⟨RX1, "compare", "(J)V"⟩
def RX2 : String := "WeighGates$LeastWeighing"
def TX2 : u_T := fun k => match k with
  | 0 => ("WeighGates$LeastWeighing", "weights", "[I", true)
  | 1 => ("WeighGates$LeastWeighing", "bound", "I", false)
  | 2 => ("WeighGates$LeastWeighing", "size", "I", false)
  | 3 => ("WeighGates$LeastWeighing", "n", "I", false)
  | 4 => ("WeighGates$LeastWeighing", "bits", "J", false)
  | 5 => ("WeighGates$LeastWeighing", "pulls", "[I", true)
  | 6 => ("WeighGates$LeastWeighing", "floors", "[I", true)
  | _ => ("WeighGates$LeastWeighing", "weighed", "LWeighGates$RowSums;", true)
def tyX2 : Nat → FieldType := fun k => match k with
  | 0 => .array .int
  | 1 => .int
  | 2 => .int
  | 3 => .int
  | 4 => .long
  | 5 => .array .int
  | 6 => .array .int
  | _ => .object "WeighGates$RowSums"
abbrev wsX20 : List Cond := u_ws RX2 TX2 8
theorem nmX2 : ∀ a, a < 8 → ∀ b, b < 8 → a ≠ b → (TX2 a).2.1 ≠ (TX2 b).2.1 := by decide +kernel
theorem tyX2_ok : ∀ k, k < 8 → parseFieldDescriptor (TX2 k).2.2.1 = some (tyX2 k) := by decide +kernel
abbrev cX2_init : ByteArray := prog_4_method_1_code
def yX2_init : MethodName := ⟨RX2, "<init>", "()V"⟩
abbrev cX2_find : ByteArray := prog_4_method_2_code
def yX2_find : MethodName := ⟨RX2, "find", "(IJ)Z"⟩
abbrev cX2_findFloors : ByteArray := prog_4_method_3_code
def yX2_findFloors : MethodName := ⟨RX2, "findFloors", "()I"⟩
abbrev cX2_raiseFloor : ByteArray := prog_4_method_4_code
def yX2_raiseFloor : MethodName := ⟨RX2, "raiseFloor", "(I)V"⟩
abbrev cX2_share : ByteArray := prog_4_method_5_code
def yX2_share : MethodName := ⟨RX2, "share", "(II)Z"⟩
abbrev cX2_keepsOrder : ByteArray := prog_4_method_6_code
def yX2_keepsOrder : MethodName := ⟨RX2, "keepsOrder", "(II)Z"⟩
abbrev cX2_separates : ByteArray := prog_4_method_7_code
def yX2_separates : MethodName := ⟨RX2, "separates", "()Z"⟩
abbrev cX2_thousandthsOff : ByteArray := prog_4_method_8_code
def yX2_thousandthsOff : MethodName := ⟨RX2, "thousandthsOff", "()I"⟩
def RX3 : String := "WeighGates$Net"
def TX3 : u_T := fun k => match k with
  | 0 => ("WeighGates$Net", "inputCount", "I", false)
  | 1 => ("WeighGates$Net", "gateCount", "I", false)
  | 2 => ("WeighGates$Net", "told", "[J", true)
  | 3 => ("WeighGates$Net", "depths", "[I", true)
  | 4 => ("WeighGates$Net", "weights", "[[I", true)
  | 5 => ("WeighGates$Net", "bounds", "[I", true)
  | _ => ("WeighGates$Net", "supposed", "[J", true)
def tyX3 : Nat → FieldType := fun k => match k with
  | 0 => .int
  | 1 => .int
  | 2 => .array .long
  | 3 => .array .int
  | 4 => .array (.array .int)
  | 5 => .array .int
  | _ => .array .long
abbrev wsX30 : List Cond := u_ws RX3 TX3 7
theorem nmX3 : ∀ a, a < 7 → ∀ b, b < 7 → a ≠ b → (TX3 a).2.1 ≠ (TX3 b).2.1 := by decide +kernel
theorem tyX3_ok : ∀ k, k < 7 → parseFieldDescriptor (TX3 k).2.2.1 = some (tyX3 k) := by decide +kernel
abbrev cX3_init : ByteArray := prog_5_method_1_code
def yX3_init : MethodName := ⟨RX3, "<init>", "()V"⟩
abbrev cX3_clear : ByteArray := prog_5_method_2_code
def yX3_clear : MethodName := ⟨RX3, "clear", "(I)V"⟩
abbrev cX3_swapNextWeight : ByteArray := prog_5_method_3_code
def yX3_swapNextWeight : MethodName := ⟨RX3, "swapNextWeight", "(II)I"⟩
abbrev cX3_append : ByteArray := prog_5_method_4_code
def yX3_append : MethodName := ⟨RX3, "append", "(I)I"⟩
abbrev cX3_lastTold : ByteArray := prog_5_method_5_code
def yX3_lastTold : MethodName := ⟨RX3, "lastTold", "()J"⟩
abbrev cX3_lastToldWith : ByteArray := prog_5_method_6_code
def yX3_lastToldWith : MethodName := ⟨RX3, "lastToldWith", "(IZ)J"⟩
abbrev cX3_toldBy : ByteArray := prog_5_method_7_code
def yX3_toldBy : MethodName := ⟨RX3, "toldBy", "(I[J)J"⟩
abbrev cX3_sumAt : ByteArray := prog_5_method_8_code
def yX3_sumAt : MethodName := ⟨RX3, "sumAt", "(II[J)I"⟩
abbrev cX3_depthOf : ByteArray := prog_5_method_9_code
def yX3_depthOf : MethodName := ⟨RX3, "depthOf", "(I)I"⟩
def RX4 : String := "WeighGates$RowSums"
def TX4 : u_T := fun k => match k with
  | 0 => ("WeighGates$RowSums", "sums", "[I", true)
  | 1 => ("WeighGates$RowSums", "leastOfOnes", "I", false)
  | _ => ("WeighGates$RowSums", "greatestOfZeros", "I", false)
def tyX4 : Nat → FieldType := fun k => match k with
  | 0 => .array .int
  | 1 => .int
  | _ => .int
abbrev wsX40 : List Cond := u_ws RX4 TX4 3
theorem nmX4 : ∀ a, a < 3 → ∀ b, b < 3 → a ≠ b → (TX4 a).2.1 ≠ (TX4 b).2.1 := by decide +kernel
theorem tyX4_ok : ∀ k, k < 3 → parseFieldDescriptor (TX4 k).2.2.1 = some (tyX4 k) := by decide +kernel
abbrev cX4_init : ByteArray := prog_6_method_1_code
def yX4_init : MethodName := ⟨RX4, "<init>", "()V"⟩
abbrev cX4_setWeight : ByteArray := prog_6_method_2_code
def yX4_setWeight : MethodName := ⟨RX4, "setWeight", "(II)V"⟩
abbrev cX4_findEnds : ByteArray := prog_6_method_3_code
def yX4_findEnds : MethodName := ⟨RX4, "findEnds", "(IJ)V"⟩
def RX5 : String := "WeighGates$Rows"
def TX5 : u_T := fun k => match k with
  | _ => ("", "", "", false)
def tyX5 : Nat → FieldType := fun k => match k with
  | _ => .int
abbrev wsX50 : List Cond := u_ws RX5 TX5 0
theorem nmX5 : ∀ a, a < 0 → ∀ b, b < 0 → a ≠ b → (TX5 a).2.1 ≠ (TX5 b).2.1 := by decide +kernel
theorem tyX5_ok : ∀ k, k < 0 → parseFieldDescriptor (TX5 k).2.2.1 = some (tyX5 k) := by decide +kernel
abbrev cX5_number : ByteArray := prog_7_method_2_code
def yX5_number : MethodName := ⟨RX5, "number", "(I)I"⟩
abbrev cX5_all : ByteArray := prog_7_method_3_code
def yX5_all : MethodName := ⟨RX5, "all", "(I)J"⟩
abbrev cX5_isOne : ByteArray := prog_7_method_4_code
def yX5_isOne : MethodName := ⟨RX5, "isOne", "(JI)Z"⟩
abbrev cX5_hasInput : ByteArray := prog_7_method_5_code
def yX5_hasInput : MethodName := ⟨RX5, "hasInput", "(II)Z"⟩
abbrev cX5_onesWith : ByteArray := prog_7_method_6_code
def yX5_onesWith : MethodName := ⟨RX5, "onesWith", "(JI)I"⟩
abbrev cX5_inputTurned : ByteArray := prog_7_method_7_code
def yX5_inputTurned : MethodName := ⟨RX5, "inputTurned", "(JI)J"⟩
abbrev cX5_inputsSwapped : ByteArray := prog_7_method_8_code
def yX5_inputsSwapped : MethodName := ⟨RX5, "inputsSwapped", "(JII)J"⟩
abbrev cX5_inputHeld : ByteArray := prog_7_method_9_code
def yX5_inputHeld : MethodName := ⟨RX5, "inputHeld", "(IJIZ)J"⟩
def RX6 : String := "WeighGates$Witness"
def TX6 : u_T := fun k => match k with
  | _ => ("WeighGates$Witness", "rows", "[I", true)
def tyX6 : Nat → FieldType := fun k => match k with
  | _ => .array .int
abbrev wsX60 : List Cond := u_ws RX6 TX6 1
theorem nmX6 : ∀ a, a < 1 → ∀ b, b < 1 → a ≠ b → (TX6 a).2.1 ≠ (TX6 b).2.1 := by decide +kernel
theorem tyX6_ok : ∀ k, k < 1 → parseFieldDescriptor (TX6 k).2.2.1 = some (tyX6 k) := by decide +kernel
abbrev cX6_init : ByteArray := prog_8_method_1_code
def yX6_init : MethodName := ⟨RX6, "<init>", "()V"⟩
abbrev cX6_find : ByteArray := prog_8_method_2_code
def yX6_find : MethodName := ⟨RX6, "find", "(IJ)Z"⟩
abbrev cX6_findSecond : ByteArray := prog_8_method_3_code
def yX6_findSecond : MethodName := ⟨RX6, "findSecond", "(IJI)Z"⟩
abbrev cX6_findZeros : ByteArray := prog_8_method_4_code
def yX6_findZeros : MethodName := ⟨RX6, "findZeros", "(JII)Z"⟩
def RX7 : String := "WeighGates"
def TX7 : u_T := fun k => match k with
  | 0 => ("WeighGates", "slotInputs", "[I", true)
  | 1 => ("WeighGates", "slotBits", "[J", true)
  | 2 => ("WeighGates", "proof", "LWeighGates$Witness;", true)
  | 3 => ("WeighGates", "least", "LWeighGates$LeastWeighing;", true)
  | 4 => ("WeighGates", "kind", "LWeighGates$Kind;", true)
  | 5 => ("WeighGates", "pair", "LWeighGates$GatePair;", true)
  | _ => ("WeighGates", "network", "LWeighGates$Net;", true)
def tyX7 : Nat → FieldType := fun k => match k with
  | 0 => .array .int
  | 1 => .array .long
  | 2 => .object "WeighGates$Witness"
  | 3 => .object "WeighGates$LeastWeighing"
  | 4 => .object "WeighGates$Kind"
  | 5 => .object "WeighGates$GatePair"
  | _ => .object "WeighGates$Net"
abbrev wsX70 : List Cond := u_ws RX7 TX7 7
theorem nmX7 : ∀ a, a < 7 → ∀ b, b < 7 → a ≠ b → (TX7 a).2.1 ≠ (TX7 b).2.1 := by decide +kernel
theorem tyX7_ok : ∀ k, k < 7 → parseFieldDescriptor (TX7 k).2.2.1 = some (tyX7 k) := by decide +kernel
abbrev cX7_init : ByteArray := prog_1_method_1_code
def yX7_init : MethodName := ⟨RX7, "<init>", "()V"⟩
abbrev cX7_table : ByteArray := prog_1_method_2_code
def yX7_table : MethodName := ⟨RX7, "table", "(IIJ)I"⟩
abbrev cX7_weigh : ByteArray := prog_1_method_3_code
def yX7_weigh : MethodName := ⟨RX7, "weigh", "(IIJI)J"⟩
abbrev cX7_bits : ByteArray := prog_1_method_4_code
def yX7_bits : MethodName := ⟨RX7, "bits", "(I)J"⟩
abbrev cX7_inputs : ByteArray := prog_1_method_5_code
def yX7_inputs : MethodName := ⟨RX7, "inputs", "(I)I"⟩
abbrev cX7_most : ByteArray := prog_1_method_6_code
def yX7_most : MethodName := ⟨RX7, "most", "(IIII)I"⟩
abbrev cX7_turn : ByteArray := prog_1_method_7_code
def yX7_turn : MethodName := ⟨RX7, "turn", "(III)I"⟩
abbrev cX7_hold : ByteArray := prog_1_method_8_code
def yX7_hold : MethodName := ⟨RX7, "hold", "(IIIZ)I"⟩
abbrev cX7_matters : ByteArray := prog_1_method_9_code
def yX7_matters : MethodName := ⟨RX7, "matters", "(II)I"⟩
abbrev cX7_ones : ByteArray := prog_1_method_10_code
def yX7_ones : MethodName := ⟨RX7, "ones", "(II)I"⟩
abbrev cX7_gate : ByteArray := prog_1_method_11_code
def yX7_gate : MethodName := ⟨RX7, "gate", "(I)I"⟩
abbrev cX7_weight : ByteArray := prog_1_method_12_code
def yX7_weight : MethodName := ⟨RX7, "weight", "(II)I"⟩
abbrev cX7_bound : ByteArray := prog_1_method_13_code
def yX7_bound : MethodName := ⟨RX7, "bound", "(I)I"⟩
abbrev cX7_size : ByteArray := prog_1_method_14_code
def yX7_size : MethodName := ⟨RX7, "size", "(I)I"⟩
abbrev cX7_witness : ByteArray := prog_1_method_15_code
def yX7_witness : MethodName := ⟨RX7, "witness", "(II)I"⟩
abbrev cX7_slack : ByteArray := prog_1_method_16_code
def yX7_slack : MethodName := ⟨RX7, "slack", "(I)I"⟩
abbrev cX7_chief : ByteArray := prog_1_method_17_code
def yX7_chief : MethodName := ⟨RX7, "chief", "(I)J"⟩
abbrev cX7_kin : ByteArray := prog_1_method_18_code
def yX7_kin : MethodName := ⟨RX7, "kin", "(I)I"⟩
abbrev cX7_gates : ByteArray := prog_1_method_19_code
def yX7_gates : MethodName := ⟨RX7, "gates", "(I)I"⟩
abbrev cX7_kinds : ByteArray := prog_1_method_20_code
def yX7_kinds : MethodName := ⟨RX7, "kinds", "(IZ)I"⟩
abbrev cX7_fewest : ByteArray := prog_1_method_21_code
def yX7_fewest : MethodName := ⟨RX7, "fewest", "(I)I"⟩
abbrev cX7_first : ByteArray := prog_1_method_22_code
def yX7_first : MethodName := ⟨RX7, "first", "(I)I"⟩
abbrev cX7_net : ByteArray := prog_1_method_23_code
def yX7_net : MethodName := ⟨RX7, "net", "(I)I"⟩
abbrev cX7_put : ByteArray := prog_1_method_24_code
def yX7_put : MethodName := ⟨RX7, "put", "(II)I"⟩
abbrev cX7_add : ByteArray := prog_1_method_25_code
def yX7_add : MethodName := ⟨RX7, "add", "(I)I"⟩
abbrev cX7_tell : ByteArray := prog_1_method_26_code
def yX7_tell : MethodName := ⟨RX7, "tell", "(II)I"⟩
abbrev cX7_unlike : ByteArray := prog_1_method_27_code
def yX7_unlike : MethodName := ⟨RX7, "unlike", "(I)I"⟩
abbrev cX7_depth : ByteArray := prog_1_method_28_code
def yX7_depth : MethodName := ⟨RX7, "depth", "(I)I"⟩
abbrev cX7_idle : ByteArray := prog_1_method_29_code
def yX7_idle : MethodName := ⟨RX7, "idle", "(IZ)I"⟩
abbrev cX7_count : ByteArray := prog_1_method_30_code
def yX7_count : MethodName := ⟨RX7, "count", "(I)I"⟩
abbrev cX7_isWithin : ByteArray := prog_1_method_31_code
def yX7_isWithin : MethodName := ⟨RX7, "isWithin", "(III)Z"⟩
abbrev cX7_isSlot : ByteArray := prog_1_method_32_code
def yX7_isSlot : MethodName := ⟨RX7, "isSlot", "(I)Z"⟩
abbrev cX7_isInput : ByteArray := prog_1_method_33_code
def yX7_isInput : MethodName := ⟨RX7, "isInput", "(II)Z"⟩
abbrev cX7_isGateOfNet : ByteArray := prog_1_method_34_code
def yX7_isGateOfNet : MethodName := ⟨RX7, "isGateOfNet", "(I)Z"⟩
abbrev cX7_keep : ByteArray := prog_1_method_35_code
def yX7_keep : MethodName := ⟨RX7, "keep", "(IIJ)I"⟩
abbrev cX7_sumAt : ByteArray := prog_1_method_36_code
def yX7_sumAt : MethodName := ⟨RX7, "sumAt", "(IIJ)I"⟩
abbrev cX7_tellsGate : ByteArray := prog_1_method_37_code
def yX7_tellsGate : MethodName := ⟨RX7, "tellsGate", "(I)Z"⟩
abbrev cX7_findLeast : ByteArray := prog_1_method_38_code
def yX7_findLeast : MethodName := ⟨RX7, "findLeast", "(I)Z"⟩
def RX8 : String := "WeighGatesModel"
def TX8 : u_T := fun k => match k with
  | 0 => ("WeighGatesModel", "inputs", "[I", true)
  | 1 => ("WeighGatesModel", "table", "[J", true)
  | 2 => ("WeighGatesModel", "three", "[I", true)
  | 3 => ("WeighGatesModel", "hasFalse", "[Z", true)
  | 4 => ("WeighGatesModel", "witness", "[I", true)
  | 5 => ("WeighGatesModel", "solved", "J", false)
  | 6 => ("WeighGatesModel", "solvedInputs", "I", false)
  | 7 => ("WeighGatesModel", "solvedGate", "Z", false)
  | 8 => ("WeighGatesModel", "size", "[I", true)
  | 9 => ("WeighGatesModel", "weight", "[I", true)
  | 10 => ("WeighGatesModel", "bound", "I", false)
  | 11 => ("WeighGatesModel", "order", "[I", true)
  | 12 => ("WeighGatesModel", "mark", "[I", true)
  | 13 => ("WeighGatesModel", "marks", "I", false)
  | 14 => ("WeighGatesModel", "chief", "J", false)
  | 15 => ("WeighGatesModel", "kin", "I", false)
  | 16 => ("WeighGatesModel", "gateMany", "[I", true)
  | 17 => ("WeighGatesModel", "kindMany", "[I", true)
  | 18 => ("WeighGatesModel", "firsts", "[I", true)
  | 19 => ("WeighGatesModel", "netInputs", "I", false)
  | 20 => ("WeighGatesModel", "gates", "I", false)
  | 21 => ("WeighGatesModel", "told", "[I", true)
  | 22 => ("WeighGatesModel", "netWeight", "[I", true)
  | 23 => ("WeighGatesModel", "netBound", "[I", true)
  | 24 => ("WeighGatesModel", "works", "[I", true)
  | _ => ("WeighGatesModel", "deep", "[I", true)
def tyX8 : Nat → FieldType := fun k => match k with
  | 0 => .array .int
  | 1 => .array .long
  | 2 => .array .int
  | 3 => .array .boolean
  | 4 => .array .int
  | 5 => .long
  | 6 => .int
  | 7 => .boolean
  | 8 => .array .int
  | 9 => .array .int
  | 10 => .int
  | 11 => .array .int
  | 12 => .array .int
  | 13 => .int
  | 14 => .long
  | 15 => .int
  | 16 => .array .int
  | 17 => .array .int
  | 18 => .array .int
  | 19 => .int
  | 20 => .int
  | 21 => .array .int
  | 22 => .array .int
  | 23 => .array .int
  | 24 => .array .int
  | _ => .array .int
abbrev wsX80 : List Cond := u_ws RX8 TX8 26
theorem nmX8 : ∀ a, a < 26 → ∀ b, b < 26 → a ≠ b → (TX8 a).2.1 ≠ (TX8 b).2.1 := by decide +kernel
theorem tyX8_ok : ∀ k, k < 26 → parseFieldDescriptor (TX8 k).2.2.1 = some (tyX8 k) := by decide +kernel
abbrev cX8_init : ByteArray := prog_10_method_1_code
def yX8_init : MethodName := ⟨RX8, "<init>", "()V"⟩
abbrev cX8_in : ByteArray := prog_10_method_3_code
def yX8_in : MethodName := ⟨RX8, "in", "(JJJ)Z"⟩
abbrev cX8_isSlot : ByteArray := prog_10_method_4_code
def yX8_isSlot : MethodName := ⟨RX8, "isSlot", "(I)Z"⟩
abbrev cX8_isInput : ByteArray := prog_10_method_5_code
def yX8_isInput : MethodName := ⟨RX8, "isInput", "(II)Z"⟩
abbrev cX8_whole : ByteArray := prog_10_method_6_code
def yX8_whole : MethodName := ⟨RX8, "whole", "(I)J"⟩
abbrev cX8_is : ByteArray := prog_10_method_7_code
def yX8_is : MethodName := ⟨RX8, "is", "(JI)Z"⟩
abbrev cX8_ones : ByteArray := prog_10_method_8_code
def yX8_ones : MethodName := ⟨RX8, "ones", "(J)I"⟩
abbrev cX8_set : ByteArray := prog_10_method_9_code
def yX8_set : MethodName := ⟨RX8, "set", "(IIJ)I"⟩
abbrev cX8_table : ByteArray := prog_10_method_10_code
def yX8_table : MethodName := ⟨RX8, "table", "(IIJ)I"⟩
abbrev cX8_weigh : ByteArray := prog_10_method_11_code
def yX8_weigh : MethodName := ⟨RX8, "weigh", "(IIJI)J"⟩
abbrev cX8_bits : ByteArray := prog_10_method_12_code
def yX8_bits : MethodName := ⟨RX8, "bits", "(I)J"⟩
abbrev cX8_inputs : ByteArray := prog_10_method_13_code
def yX8_inputs : MethodName := ⟨RX8, "inputs", "(I)I"⟩
abbrev cX8_most : ByteArray := prog_10_method_14_code
def yX8_most : MethodName := ⟨RX8, "most", "(IIII)I"⟩
abbrev cX8_turned : ByteArray := prog_10_method_15_code
def yX8_turned : MethodName := ⟨RX8, "turned", "(JII)J"⟩
abbrev cX8_turn : ByteArray := prog_10_method_16_code
def yX8_turn : MethodName := ⟨RX8, "turn", "(III)I"⟩
abbrev cX8_hold : ByteArray := prog_10_method_17_code
def yX8_hold : MethodName := ⟨RX8, "hold", "(IIIZ)I"⟩
abbrev cX8_matters : ByteArray := prog_10_method_18_code
def yX8_matters : MethodName := ⟨RX8, "matters", "(II)I"⟩
abbrev cX8_ones_ : ByteArray := prog_10_method_19_code
def yX8_ones_ : MethodName := ⟨RX8, "ones", "(II)I"⟩
abbrev cX8_layThree : ByteArray := prog_10_method_20_code
def yX8_layThree : MethodName := ⟨RX8, "layThree", "(I)V"⟩
abbrev cX8_layFalse : ByteArray := prog_10_method_21_code
def yX8_layFalse : MethodName := ⟨RX8, "layFalse", "(JI)V"⟩
abbrev cX8_isGate : ByteArray := prog_10_method_22_code
def yX8_isGate : MethodName := ⟨RX8, "isGate", "(JI)Z"⟩
abbrev cX8_findOthers : ByteArray := prog_10_method_23_code
def yX8_findOthers : MethodName := ⟨RX8, "findOthers", "(JI)V"⟩
abbrev cX8_next : ByteArray := prog_10_method_24_code
def yX8_next : MethodName := ⟨RX8, "next", "(II)Z"⟩
abbrev cX8_sumOf : ByteArray := prog_10_method_25_code
def yX8_sumOf : MethodName := ⟨RX8, "sumOf", "(II)I"⟩
abbrev cX8_parts : ByteArray := prog_10_method_26_code
def yX8_parts : MethodName := ⟨RX8, "parts", "(JII)Z"⟩
abbrev cX8_falling : ByteArray := prog_10_method_27_code
def yX8_falling : MethodName := ⟨RX8, "falling", "(JI)I"⟩
abbrev cX8_solve : ByteArray := prog_10_method_28_code
def yX8_solve : MethodName := ⟨RX8, "solve", "(JI)V"⟩
abbrev cX8_gate : ByteArray := prog_10_method_29_code
def yX8_gate : MethodName := ⟨RX8, "gate", "(I)I"⟩
abbrev cX8_weight : ByteArray := prog_10_method_30_code
def yX8_weight : MethodName := ⟨RX8, "weight", "(II)I"⟩
abbrev cX8_bound : ByteArray := prog_10_method_31_code
def yX8_bound : MethodName := ⟨RX8, "bound", "(I)I"⟩
abbrev cX8_size : ByteArray := prog_10_method_32_code
def yX8_size : MethodName := ⟨RX8, "size", "(I)I"⟩
abbrev cX8_witness : ByteArray := prog_10_method_33_code
def yX8_witness : MethodName := ⟨RX8, "witness", "(II)I"⟩
abbrev cX8_slack : ByteArray := prog_10_method_34_code
def yX8_slack : MethodName := ⟨RX8, "slack", "(I)I"⟩
abbrev cX8_changed : ByteArray := prog_10_method_35_code
def yX8_changed : MethodName := ⟨RX8, "changed", "(JI)J"⟩
abbrev cX8_meet : ByteArray := prog_10_method_36_code
def yX8_meet : MethodName := ⟨RX8, "meet", "(J)V"⟩
abbrev cX8_layKind : ByteArray := prog_10_method_37_code
def yX8_layKind : MethodName := ⟨RX8, "layKind", "(JI)V"⟩
abbrev cX8_chief : ByteArray := prog_10_method_38_code
def yX8_chief : MethodName := ⟨RX8, "chief", "(I)J"⟩
abbrev cX8_kin : ByteArray := prog_10_method_39_code
def yX8_kin : MethodName := ⟨RX8, "kin", "(I)I"⟩
abbrev cX8_gates : ByteArray := prog_10_method_40_code
def yX8_gates : MethodName := ⟨RX8, "gates", "(I)I"⟩
abbrev cX8_kinds : ByteArray := prog_10_method_41_code
def yX8_kinds : MethodName := ⟨RX8, "kinds", "(IZ)I"⟩
abbrev cX8_isSecond : ByteArray := prog_10_method_42_code
def yX8_isSecond : MethodName := ⟨RX8, "isSecond", "(III)Z"⟩
abbrev cX8_asThree : ByteArray := prog_10_method_43_code
def yX8_asThree : MethodName := ⟨RX8, "asThree", "(JI)I"⟩
abbrev cX8_firstOf : ByteArray := prog_10_method_44_code
def yX8_firstOf : MethodName := ⟨RX8, "firstOf", "(JI)I"⟩
abbrev cX8_fewest : ByteArray := prog_10_method_45_code
def yX8_fewest : MethodName := ⟨RX8, "fewest", "(I)I"⟩
abbrev cX8_inputsGate : ByteArray := prog_10_method_46_code
def yX8_inputsGate : MethodName := ⟨RX8, "inputsGate", "(I)Z"⟩
abbrev cX8_first : ByteArray := prog_10_method_47_code
def yX8_first : MethodName := ⟨RX8, "first", "(I)I"⟩
abbrev cX8_isNetGate : ByteArray := prog_10_method_48_code
def yX8_isNetGate : MethodName := ⟨RX8, "isNetGate", "(I)Z"⟩
abbrev cX8_net : ByteArray := prog_10_method_49_code
def yX8_net : MethodName := ⟨RX8, "net", "(I)I"⟩
abbrev cX8_put : ByteArray := prog_10_method_50_code
def yX8_put : MethodName := ⟨RX8, "put", "(II)I"⟩
abbrev cX8_add : ByteArray := prog_10_method_51_code
def yX8_add : MethodName := ⟨RX8, "add", "(I)I"⟩
abbrev cX8_work : ByteArray := prog_10_method_52_code
def yX8_work : MethodName := ⟨RX8, "work", "(II)V"⟩
abbrev cX8_tell : ByteArray := prog_10_method_53_code
def yX8_tell : MethodName := ⟨RX8, "tell", "(II)I"⟩
abbrev cX8_unlike : ByteArray := prog_10_method_54_code
def yX8_unlike : MethodName := ⟨RX8, "unlike", "(I)I"⟩
abbrev cX8_depth : ByteArray := prog_10_method_55_code
def yX8_depth : MethodName := ⟨RX8, "depth", "(I)I"⟩
abbrev cX8_idle : ByteArray := prog_10_method_56_code
def yX8_idle : MethodName := ⟨RX8, "idle", "(IZ)I"⟩
abbrev cX8_count : ByteArray := prog_10_method_57_code
def yX8_count : MethodName := ⟨RX8, "count", "(I)I"⟩
def RJ6 : String := "java/lang/Integer"
def TJ6 : u_T := fun k => match k with
  | _ => ("", "", "", false)
def tyJ6 : Nat → FieldType := fun k => match k with
  | _ => .int
abbrev wsJ60 : List Cond := u_ws RJ6 TJ6 0
theorem nmJ6 : ∀ a, a < 0 → ∀ b, b < 0 → a ≠ b → (TJ6 a).2.1 ≠ (TJ6 b).2.1 := by decide +kernel
theorem tyJ6_ok : ∀ k, k < 0 → parseFieldDescriptor (TJ6 k).2.2.1 = some (tyJ6 k) := by decide +kernel
abbrev cJ6_numberOfTrailingZeros_0f7a4 : ByteArray := prog_11_method_48_code
def yJ6_numberOfTrailingZeros_0f7a4 : MethodName := ⟨RJ6, "numberOfTrailingZeros", "(I)I"⟩
abbrev cJ6_bitCount_0f7a4 : ByteArray := prog_11_method_49_code
def yJ6_bitCount_0f7a4 : MethodName := ⟨RJ6, "bitCount", "(I)I"⟩
def RJ13 : String := "java/lang/Long"
def TJ13 : u_T := fun k => match k with
  | _ => ("", "", "", false)
def tyJ13 : Nat → FieldType := fun k => match k with
  | _ => .int
abbrev wsJ130 : List Cond := u_ws RJ13 TJ13 0
theorem nmJ13 : ∀ a, a < 0 → ∀ b, b < 0 → a ≠ b → (TJ13 a).2.1 ≠ (TJ13 b).2.1 := by decide +kernel
theorem tyJ13_ok : ∀ k, k < 0 → parseFieldDescriptor (TJ13 k).2.2.1 = some (tyJ13 k) := by decide +kernel
abbrev cJ13_numberOfTrailingZeros_95d88 : ByteArray := prog_12_method_49_code
def yJ13_numberOfTrailingZeros_95d88 : MethodName := ⟨RJ13, "numberOfTrailingZeros", "(J)I"⟩
abbrev cJ13_bitCount_95d88 : ByteArray := prog_12_method_50_code
def yJ13_bitCount_95d88 : MethodName := ⟨RJ13, "bitCount", "(J)I"⟩
def RJ9 : String := "java/lang/Math"
def TJ9 : u_T := fun k => match k with
  | _ => ("", "", "", false)
def tyJ9 : Nat → FieldType := fun k => match k with
  | _ => .int
abbrev wsJ90 : List Cond := u_ws RJ9 TJ9 0
theorem nmJ9 : ∀ a, a < 0 → ∀ b, b < 0 → a ≠ b → (TJ9 a).2.1 ≠ (TJ9 b).2.1 := by decide +kernel
theorem tyJ9_ok : ∀ k, k < 0 → parseFieldDescriptor (TJ9 k).2.2.1 = some (tyJ9 k) := by decide +kernel
abbrev cJ9_abs_0f7a4 : ByteArray := prog_13_method_59_code
def yJ9_abs_0f7a4 : MethodName := ⟨RJ9, "abs", "(I)I"⟩
abbrev cJ9_max_7cf53 : ByteArray := prog_13_method_65_code
def yJ9_max_7cf53 : MethodName := ⟨RJ9, "max", "(II)I"⟩
abbrev cJ9_min_7cf53 : ByteArray := prog_13_method_69_code
def yJ9_min_7cf53 : MethodName := ⟨RJ9, "min", "(II)I"⟩
def RJ7 : String := "java/util/Arrays"
def TJ7 : u_T := fun k => match k with
  | _ => ("", "", "", false)
def tyJ7 : Nat → FieldType := fun k => match k with
  | _ => .int
abbrev wsJ70 : List Cond := u_ws RJ7 TJ7 0
theorem nmJ7 : ∀ a, a < 0 → ∀ b, b < 0 → a ≠ b → (TJ7 a).2.1 ≠ (TJ7 b).2.1 := by decide +kernel
theorem tyJ7_ok : ∀ k, k < 0 → parseFieldDescriptor (TJ7 k).2.2.1 = some (tyJ7 k) := by decide +kernel
abbrev cJ7_fill_53178 : ByteArray := prog_14_method_103_code
def yJ7_fill_53178 : MethodName := ⟨RJ7, "fill", "([II)V"⟩
def RL : String := "WeighGatesLaw"
abbrev cL_law : ByteArray := code
def yL_law : MethodName := ⟨RL, "law", "([I)Z"⟩
abbrev vwCl : List vw_C := [(RX0, TX0, 4), (RX1, TX1, 4), (RX2, TX2, 8), (RX3, TX3, 7), (RX4, TX4, 3), (RX6, TX6, 1), (RX7, TX7, 7), (RX8, TX8, 26)]
end
section

abbrev jG : Type := Launch × va_G × (Nat → Nat) × (Nat → ClassId) × (Nat → Nat)
/-- the address of cell k of the world -/
def jA (g : jG) (k : Nat) : Nat := g.2.2.1 k
/-- the array classes: 0 int, 1 long, 2 boolean, 3 int[] -/
def jc (g : jG) (k : Nat) : ClassId := g.2.2.2.1 k
/-- the addresses of the static arrays -/
def jsa (g : jG) (k : Nat) : Nat := g.2.2.2.2 k
abbrev jMem : Type := Nat → va_E
def jW (g : jG) (M : jMem) : va_W := (List.range 52).map fun k => (jA g k, M k)
abbrev jTys (g : jG) : List (ClassId × FieldType) := [(jc g 0, .int), (jc g 1, .long), (jc g 2, .boolean), (jc g 3, .array .int)]
def jTB : List Cond := lw_tbl.filter goodWord
theorem jTB_in {w : Cond} (h : w ∈ lw_tbl) (hg : goodWord w = true) : w ∈ jTB := List.mem_filter.mpr ⟨h, hg⟩
abbrev jY : Type := MethodName × ByteArray × Nat × Option FieldType
def jWs (y : jY) : List Cond := Cond.code y.1 y.2.1 y.2.2.1 y.2.2.2 :: jTB
def jR (d : Nat) : Room := { frames := d, cells := 0, slots := 0, locals := 40 * d }
/-- the static arrays: class, name, descriptor, element type, length, contents -/
def jSt : Nat → String × String × String × FieldType × Nat × (Nat → Value)
  | 0 => ("WeighGates", "GATES_OF", "[I", .int, 5, fun j => .int ([0, 4, 14, 104, 1882].getD j 0))
  | 1 => ("WeighGates", "KINDS_OF", "[I", .int, 4, fun j => .int ([0, 2, 4, 14].getD j 0))
  | 2 => ("WeighGates", "KINDS_OF_GATES_OF", "[I", .int, 4, fun j => .int ([0, 2, 3, 6].getD j 0))
  | 3 => ("WeighGates$Rows", "WITH_INPUT", "[J", .long, 5, fun j => .long ([2863311530, 3435973836, 4042322160, 4278255360, 4294901760].getD j 0))
  | _ => ("WeighGates$GatePair", "SIZES", "[I", .int, 36, fun j => .int ([1, 2, 4, 1, 4, 2, 2, 1, 4, 2, 4, 1, 4, 1, 2, 4, 2, 1, 2, 3, 4, 2, 4, 3, 3, 2, 4, 3, 4, 2, 4, 2, 3, 4, 3, 2].getD j 0))
def jS (g : jG) (A : Nat → Prop) (U : State) : Prop := ∀ k, k < 5 → va_Z (jSt k).1 (jSt k).2.1 (jSt k).2.2.1 (.ref (jsa g k)) A U U.heap ∧ va_T (jSt k).2.2.2.1 (jsa g k) (jSt k).2.2.2.2.1 (jSt k).2.2.2.2.2 A U U.heap
def jC (g : jG) (y : jY) (p : Program) (s : State) (m : MethodId) (args : Array Value) (meth : Method) (c : Code) (A : Nat → Prop) : Prop :=
  p.tables.exec = Jvm.exec ∧ c.code = y.2.1 ∧ c.maxLocals = y.2.2.1 ∧ s.vm.findClass y.1.cls = some m.cls ∧ (∀ w ∈ jWs y, w.before args s = true) ∧ meth.sig.returnType = y.2.2.2 ∧ meth.locks = false ∧ va_K g.2.1 vwCl (jTys g) s ∧ jS g A s ∧ ∀ q, s.heap.size ≤ q → A q
def jL (ls : Array Slot) (n : Nat) (l : List (Option Value)) : Prop := ls.size = n ∧ lv_wf ls ∧ ∀ (i : Nat) (v : Value), l[i]? = some (some v) → ls[i]? = some (.val v)
def jQ (g : jG) (K : Option Value → jMem → Prop) (A : Nat → Prop) : Array Value → State → Outcome → State → Prop := fun _ st oc t => (∃ (v : Option Value) (M : jMem), oc = .returned v ∧ K v M ∧ va_P g.2.1 vwCl (jW g M) t.heap ∧ va_D A (jW g M)) ∧ va_F A st t
/-- THE JUDGEMENT: from this frame, with the world's cells M, the method comes to its end, with an answer and cells of which K holds -/
def J (g : jG) (y : jY) (d : Nat) (K : Option Value → jMem → Prop) (pc : Nat) (ls : List (Option Value)) (st : List Value) (M : jMem) : Prop :=
  ∀ (p : Program) (e : Env) (s : State) (m : MethodId) (args : Array Value) (below : List Frame) (meth : Method) (c : Code) (A : Nat → Prop) (H : Heap) (locs : List Loc) (lr : Array Slot),
    jC g y p s m args meth c A → va_P g.2.1 vwCl (jW g M) H → va_D A (jW g M) → va_S A s.heap H locs → jL lr y.2.2.1 ls →
    W p g.1 e (jR d) s m args below meth c H locs 0 0 (MQ below (jQ g K A) args s 0 0 A) (F0 m pc lr st)
/-- A CONTRACT: called with As over the cells M, y returns with K -/
def Con (g : jG) (y : jY) (d : Nat) (As : List Value) (M : jMem) (K : Option Value → jMem → Prop) : Prop :=
  ∀ sz : Nat, Met g.1 y.1 (jWs y) (jR d) (va_Pc As (fun U => U.heap.size = sz ∧ va_P g.2.1 vwCl (jW g M) U.heap ∧ va_K g.2.1 vwCl (jTys g) U ∧ va_D (fun _ => True) (jW g M) ∧ jS g (va_A (jW g M) sz) U)) (jQ g K (va_A (jW g M) sz)) 0 0 (va_A (jW g M) sz)
theorem jW_get {g : jG} {M : jMem} {k : Nat} (h : k < 52) : (jW g M)[k]? = some (jA g k, M k) := by
  simp [jW, h]
theorem jW_set {g : jG} {M : jMem} {k : Nat} (hk : k < 52) (e : va_E) : (jW g M).set k (jA g k, e) = jW g (va_up M k e) := by
  apply List.ext_getElem?
  intro i
  by_cases hi : i = k
  · subst hi
    simp [jW, va_up, List.getElem?_set, hk]
  · simp [jW, va_up, hi, Ne.symm hi, List.getElem?_set]
    rcases Nat.lt_or_ge i 52 with h | h
    · simp [h, hi]
    · simp [h, Nat.not_lt.mpr h]
theorem jW_lt {g : jG} {M : jMem} {k : Nat} {q : Nat × va_E} (h : (jW g M)[k]? = some q) : k < 52 ∧ q = (jA g k, M k) := by
  have h1 := (List.getElem?_eq_some_iff.mp h).1
  have h2 : k < 52 := by simpa [jW] using h1
  refine ⟨h2, ?_⟩
  rw [jW_get h2] at h
  exact (Option.some.inj h).symm
/-- the locals with which a method begins -/
def jEnt : List Value → List (Option Value)
  | [] => []
  | v :: vs => if v.category = 2 then some v :: none :: jEnt vs else some v :: jEnt vs
theorem jEnt_in : ∀ (vs : List Value) (b i : Nat) (v : Value), (jEnt vs)[i]? = some (some v) → (b + i, v) ∈ lv_args b vs
  | [], b, i, v, h => by simp [jEnt] at h
  | w :: ws, b, i, v, h => by
    unfold lv_args
    unfold jEnt at h
    by_cases hc : w.category = 2
    · rw [if_pos hc] at h ⊢
      match i, h with
      | 0, h => simp at h; subst h; exact List.mem_cons_self
      | 1, h => simp at h
      | i + 2, h =>
        have h1 := jEnt_in ws (b + 2) i v (by simpa using h)
        have e : b + 2 + i = b + (i + 2) := by omega
        rw [e] at h1
        exact List.mem_cons_of_mem _ h1
    · rw [if_neg hc] at h ⊢
      match i, h with
      | 0, h => simp at h; subst h; exact List.mem_cons_self
      | i + 1, h =>
        have h1 := jEnt_in ws (b + 1) i v (by simpa using h)
        have e : b + 1 + i = b + (i + 1) := by omega
        rw [e] at h1
        exact List.mem_cons_of_mem _ h1
theorem jL_entry (vs : List Value) {n : Nat} (h : (lg_sl vs).length ≤ n) {l : List (Option Value)} (hl : l = jEnt vs ++ List.replicate (n - (jEnt vs).length) none) : jL ((lg_sl vs ++ List.replicate (n - (lg_sl vs).length) Slot.unset).toArray) n l := by
  obtain ⟨h1, h2, h3⟩ := lv_entry vs h
  refine ⟨h1, h2, fun i v hv => ?_⟩
  subst hl
  by_cases hi : i < (jEnt vs).length
  · rw [List.getElem?_append_left hi] at hv
    have := jEnt_in vs 0 i v hv
    rw [Nat.zero_add] at this
    exact h3 _ this
  · rw [List.getElem?_append_right (by omega)] at hv
    have := List.eq_of_mem_replicate (List.mem_of_getElem? hv)
    cases this
theorem con_of {g : jG} {y : jY} {d : Nat} {As : List Value} {M : jMem} {K : Option Value → jMem → Prop} {l : List (Option Value)} (hy : plainName y.1.cls = true) (hn : (lg_sl As).length ≤ y.2.2.1) (hl : l = jEnt As ++ List.replicate (y.2.2.1 - (jEnt As).length) none) (hJ : J g y d K 0 l [] M) : Con g y d As M K := by
  intro sz
  refine Met.ofW (cc := y.2.1) (maxL := y.2.2.1) (ret := y.2.2.2) hy rfl ?_
  intro p e s m args below meth c s₁ B hml hv
  obtain ⟨rfl, hsz, hP, hK, hD0, hS0⟩ := hv
  subst hsz
  rw [lg_entry_eq]
  exact hJ p e s m _ below meth c _ s.heap [] _ ⟨B.exec, B.bytes, hml, findClass_of_methodNamed B.named, atoms_spec (ws := jWs y) B.pre, B.returns, B.notSynchronized, hK, hS0, fun q h => Or.inr h⟩ hP hD0.self va_S.rf (jL_entry As hn hl)
theorem jS_moved {g : jG} {A B : Nat → Prop} {s U : State} {H : Heap} {locs : List Loc} (h : jS g A s) (hS : va_S A s.heap H locs) (hAB : ∀ q, B q → A q) (hU : U.heap = H) (hvm : s.vm.Alike U.vm) : jS g B U := by
  intro k hk
  obtain ⟨h1, h2⟩ := h k hk
  have kp : ∀ a : Nat, a < s.heap.size → ¬ A a → H[a]? = s.heap[a]? := fun a h1 h2 => hS.2.1 a h1 h2
  rw [hU]
  exact ⟨((h1.kept kp).narrow hAB).moved hvm, ((h2.kept kp).narrow hAB).moved hvm⟩
/-- the callee's words are among the caller's -/
theorem jGood (y y2 : jY) (hc : Cond.code y2.1 y2.2.1 y2.2.2.1 y2.2.2.2 ∈ jTB) : GoodIn (jWs y) (jWs y2) := by
  intro w hw
  have h1 : w ∈ jTB := by
    rcases List.mem_cons.mp hw with h | h
    · rw [h]; exact hc
    · exact h
  exact ⟨List.mem_cons_of_mem _ h1, good_of_word (List.mem_filter.mp h1).2⟩
/-- what holds of a static callee, and of one called on an object -/
def jCalS (y : jY) (n : Nat) : Prop := Cond.code y.1 y.2.1 y.2.2.1 y.2.2.2 ∈ jTB ∧ Cond.static y.1 ∈ jTB ∧ Cond.initialized y.1.cls ∈ jTB ∧ (y.1.cls ≠ "java/lang/invoke/MethodHandle" ∧ y.1.cls ≠ "java/lang/invoke/VarHandle" ∧ (parseMethodDescriptor y.1.desc).map (fun d => d.parameters.length) = some n) ∧ y.2.2.1 ≤ 21
def jCalV (y : jY) (n : Nat) : Prop := Cond.code y.1 y.2.1 y.2.2.1 y.2.2.2 ∈ jTB ∧ (Cond.instanceMethod y.1 ∈ jTB ∧ Cond.selects y.1.cls y.1 y.1 ∈ jTB) ∧ Cond.initialized y.1.cls ∈ jTB ∧ (y.1.cls ≠ "java/lang/invoke/MethodHandle" ∧ y.1.cls ≠ "java/lang/invoke/VarHandle" ∧ (parseMethodDescriptor y.1.desc).map (fun d => d.parameters.length) = some n) ∧ y.2.2.1 ≤ 21
section JC
variable {p : Program} {l : Launch} {e : Env} {R : Room} {s : State} {m : MethodId} {args : Array Value} {below : List Frame} {meth : Method} {c : Code} {H : Heap} {locs : List Loc} {Q : State → Prop}
theorem j_goon {g : jG} {K2 : Option Value → jMem → Prop} {A0 A1 : Nat → Prop} {a : Array Value} {pc : Nat} {ls : Array Slot} {st0 rest : List Value} {cells slots : Nat} (hr : va_Run p l e R s m args below meth c H locs cells slots 0 0 (F0 m pc ls st0) rest (jQ g K2 A1 a) A1) (hS : va_S A0 s.heap H locs) (hF : ∀ q, A1 q → A0 q)
    (kk : ∀ (v : Option Value) (M2 : jMem) (H1 : Heap) (locs1 : List Loc), K2 v M2 → va_P g.2.1 vwCl (jW g M2) H1 → va_D A0 (jW g M2) → va_S A0 s.heap H1 locs1 → W p l e R s m args below meth c H1 locs1 cells slots Q (F0 m (pc + 3) ls (v.toList ++ rest))) : W p l e R s m args below meth c H locs cells slots Q (F0 m pc ls st0) := by
  intro T hT X
  obtain ⟨v, st₀, t, T', L, h0, X', hL, e1, e2, ⟨⟨w, M2, hv, hp, hb, hd⟩, hz, hk⟩, st⟩ := hr T hT X
  cases hv
  rw [h0] at hz hk
  obtain ⟨t2, a1, b1⟩ := kk v M2 T'.heap (locs ++ L) hp (by rw [e1]; exact hb) (hd.weaken (fun _ q _ h => hF q.1 h))
    ⟨Nat.le_trans hS.1 (by rw [e1]; exact hz), fun q h1 h2 => by rw [e1, hk q (Nat.lt_of_lt_of_le h1 hS.1) (fun z => h2 (hF q z))]; exact hS.2.1 q h1 h2, fun q hq => by
      rcases List.mem_append.mp hq with h | h
      · exact hS.2.2 q h
      · exact hF _ (hL q h)⟩ T' rfl X'
  exact ⟨t2, st t2 a1, b1⟩
end JC
theorem j_blind {g : jG} {B : Nat → Prop} {M : jMem} {As : List Value} {sz : Nat} : FrameBlind (va_Pc As (fun U => U.heap.size = sz ∧ va_P g.2.1 vwCl (jW g M) U.heap ∧ va_K g.2.1 vwCl (jTys g) U ∧ va_D (fun _ => True) (jW g M) ∧ jS g B U)) := by
  intro a U gf mk q
  obtain ⟨q0, q1, qP, qK, qD, qS⟩ := q
  exact ⟨q0, q1, qP, va_K.moved (u := U) (U := U.calling gf mk a) (Vm.Alike.refl U.vm) qK, qD, fun k hk => ⟨va_Z.moved (u := U) (U := U.calling gf mk a) (Vm.Alike.refl U.vm) (qS k hk).1, va_T.moved (u := U) (U := U.calling gf mk a) (Vm.Alike.refl U.vm) (qS k hk).2⟩⟩
theorem j_free {g : jG} {A : Nat → Prop} {M : jMem} {s : State} {H : Heap} {locs : List Loc} (hD : va_D A (jW g M)) (hS : va_S A s.heap H locs) (hA : ∀ q, s.heap.size ≤ q → A q) : ∀ q, va_A (jW g M) H.size q → A q := by
  intro q h
  rcases h with ⟨k, e, h⟩ | h
  · exact hD.2 k (q, e) h
  · exact hA q (Nat.le_trans hS.1 h)
section JR
variable {g : jG} {y : jY} {d : Nat} {K : Option Value → jMem → Prop} {pc n : Nat} {ls : List (Option Value)} {st : List Value} {M : jMem}
theorem j_callS {y2 : jY} {d2 idx : Nat} {nA : Nat} (As : List Value) {K2 : Option Value → jMem → Prop} (hC : Con g y2 d2 As M K2) (hd : decode y.2.1 pc = .ok (.invokestatic idx, 3)) (hn : pc + 3 = n) (hcal : jCalS y2 nA) (hl : Cond.methodLink y.1.cls idx y2.1 ∈ jTB) (hd2 : d2 < d) (hnA : As.length = nA) {st0 : List Value} (hst : st0 = As.reverse ++ st) (hW : (st.map fun v => v.category).sum ≤ 8)
    (kk : ∀ (v : Option Value) (M2 : jMem), K2 v M2 → J g y d K n ls (v.toList ++ st) M2) : J g y d K pc ls st0 M := by
  intro p e s m args below meth c A H locs lr C hP hD hS hL
  subst hn
  obtain ⟨hx, hb, hml, hown, hts, hr, hlk, hK, hS0, hA⟩ := id C
  have hF := j_free hD hS hA
  refine j_goon (va_runS (As := As) (rest := st) (n := nA) (g := F0 m pc lr st0) ⟨hx, hb, hml, hown, hts⟩ (hC H.size) ⟨callB_of nA hts (jGood y y2 hcal.1) rfl rfl rfl (hts _ (List.mem_cons_of_mem _ hcal.2.2.1)) (hts _ (List.mem_cons_of_mem _ hl)) hcal.2.2.2.1 ⟨hd2, ?_⟩, hts _ (List.mem_cons_of_mem _ hcal.2.1)⟩ ⟨j_blind, fun U hU hW => ⟨rfl, by rw [hU], by rw [hU]; exact hP, va_K.moved hW.alike hK, hD.weaken (fun _ _ _ _ => trivial), jS_moved hS0 hS hF hU hW.alike⟩⟩ rfl hnA hL.1 hst (lv_room hW) hd ⟨Nat.le_refl _, Nat.le_refl _⟩) hS hF ?_
  · have := hcal.2.2.2.2
    show 8 + (y2.2.2.1 + 11) + 40 * d2 ≤ 40 * d
    omega
  · intro v M2 H1 locs1 hk hP1 hD1 hS1
    exact kk v M2 hk p e s m args below meth c A H1 locs1 lr C hP1 hD1 hS1 hL
theorem j_callV {y2 : jY} {d2 idx : Nat} {nA : Nat} (As : List Value) {K2 : Option Value → jMem → Prop} {kc ci : Nat} {q : vw_C} {fs : List Value} (hC : Con g y2 d2 (.ref (jA g kc) :: As) M K2) (hd : decode y.2.1 pc = .ok (.invokevirtual idx, 3)) (hn : pc + 3 = n) (hcal : jCalV y2 nA) (hl : Cond.methodLink y.1.cls idx y2.1 ∈ jTB) (hd2 : d2 < d) (hnA : As.length = nA) (hkc : kc < 52) (hM : M kc = .inr (ci, fs)) (hci : vwCl[ci]? = some q) (hq : q.1 = y2.1.cls) {st0 : List Value} (hst : st0 = As.reverse ++ .ref (jA g kc) :: st) (hW : (st.map fun v => v.category).sum ≤ 8)
    (kk : ∀ (v : Option Value) (M2 : jMem), K2 v M2 → J g y d K n ls (v.toList ++ st) M2) : J g y d K pc ls st0 M := by
  intro p e s m args below meth c A H locs lr C hP hD hS hL
  subst hn
  obtain ⟨hx, hb, hml, hown, hts, hr, hlk, hK, hS0, hA⟩ := id C
  have hF := j_free hD hS hA
  have hrc := va_recv hK hP hci (q0 := kc) (a := jA g kc) (fs := fs) (by rw [jW_get hkc, hM])
  rw [hq] at hrc
  refine j_goon (va_runV (C := y2.1.cls) (As := As) (rest := st) (n := nA) (g := F0 m pc lr st0) ⟨hx, hb, hml, hown, hts⟩ (hC H.size) ⟨callB_of nA hts (jGood y y2 hcal.1) rfl rfl rfl (hts _ (List.mem_cons_of_mem _ hcal.2.2.1)) (hts _ (List.mem_cons_of_mem _ hl)) hcal.2.2.2.1 ⟨hd2, ?_⟩, hts _ (List.mem_cons_of_mem _ hcal.2.1.1), hts _ (List.mem_cons_of_mem _ hcal.2.1.2)⟩ ⟨j_blind, hrc, fun U hU hW => ⟨rfl, by rw [hU], by rw [hU]; exact hP, va_K.moved hW.alike hK, hD.weaken (fun _ _ _ _ => trivial), jS_moved hS0 hS hF hU hW.alike⟩⟩ rfl hnA hL.1 hst (lv_room hW) hd ⟨Nat.le_refl _, Nat.le_refl _⟩) hS hF ?_
  · have := hcal.2.2.2.2
    show 8 + (y2.2.2.1 + 11) + 40 * d2 ≤ 40 * d
    omega
  · intro v M2 H1 locs1 hk hP1 hD1 hS1
    exact kk v M2 hk p e s m args below meth c A H1 locs1 lr C hP1 hD1 hS1 hL

theorem j_iadd {a b : Int32} (hd : decode y.2.1 pc = .ok (.iadd, 1)) (hn : pc + 1 = n)  (k : J g y d K n ls (.int (a + b) :: st) M) : J g y d K pc ls (.int b :: .int a :: st) M := by
  intro p e s m args below meth c A H locs lr C hP hD hS hL
  subst hn
  exact lv_iadd C.1 C.2.1 hd (k p e s m args below meth c A H locs lr C hP hD hS hL)
theorem j_isub {a b : Int32} (hd : decode y.2.1 pc = .ok (.isub, 1)) (hn : pc + 1 = n)  (k : J g y d K n ls (.int (a - b) :: st) M) : J g y d K pc ls (.int b :: .int a :: st) M := by
  intro p e s m args below meth c A H locs lr C hP hD hS hL
  subst hn
  exact lv_isub C.1 C.2.1 hd (k p e s m args below meth c A H locs lr C hP hD hS hL)
theorem j_imul {a b : Int32} (hd : decode y.2.1 pc = .ok (.imul, 1)) (hn : pc + 1 = n)  (k : J g y d K n ls (.int (a * b) :: st) M) : J g y d K pc ls (.int b :: .int a :: st) M := by
  intro p e s m args below meth c A H locs lr C hP hD hS hL
  subst hn
  exact lv_imul C.1 C.2.1 hd (k p e s m args below meth c A H locs lr C hP hD hS hL)
theorem j_iand {a b : Int32} (hd : decode y.2.1 pc = .ok (.iand, 1)) (hn : pc + 1 = n)  (k : J g y d K n ls (.int (a &&& b) :: st) M) : J g y d K pc ls (.int b :: .int a :: st) M := by
  intro p e s m args below meth c A H locs lr C hP hD hS hL
  subst hn
  exact lv_iand C.1 C.2.1 hd (k p e s m args below meth c A H locs lr C hP hD hS hL)
theorem j_ior {a b : Int32} (hd : decode y.2.1 pc = .ok (.ior, 1)) (hn : pc + 1 = n)  (k : J g y d K n ls (.int (a ||| b) :: st) M) : J g y d K pc ls (.int b :: .int a :: st) M := by
  intro p e s m args below meth c A H locs lr C hP hD hS hL
  subst hn
  exact lv_ior C.1 C.2.1 hd (k p e s m args below meth c A H locs lr C hP hD hS hL)
theorem j_ixor {a b : Int32} (hd : decode y.2.1 pc = .ok (.ixor, 1)) (hn : pc + 1 = n)  (k : J g y d K n ls (.int (a ^^^ b) :: st) M) : J g y d K pc ls (.int b :: .int a :: st) M := by
  intro p e s m args below meth c A H locs lr C hP hD hS hL
  subst hn
  exact lv_ixor C.1 C.2.1 hd (k p e s m args below meth c A H locs lr C hP hD hS hL)
theorem j_ishl {a b : Int32} (hd : decode y.2.1 pc = .ok (.ishl, 1)) (hn : pc + 1 = n)  (k : J g y d K n ls (.int (a <<< (b &&& 31)) :: st) M) : J g y d K pc ls (.int b :: .int a :: st) M := by
  intro p e s m args below meth c A H locs lr C hP hD hS hL
  subst hn
  exact lv_ishl C.1 C.2.1 hd (k p e s m args below meth c A H locs lr C hP hD hS hL)
theorem j_ishr {a b : Int32} (hd : decode y.2.1 pc = .ok (.ishr, 1)) (hn : pc + 1 = n)  (k : J g y d K n ls (.int (a >>> (b &&& 31)) :: st) M) : J g y d K pc ls (.int b :: .int a :: st) M := by
  intro p e s m args below meth c A H locs lr C hP hD hS hL
  subst hn
  exact lv_ishr C.1 C.2.1 hd (k p e s m args below meth c A H locs lr C hP hD hS hL)
theorem j_iushr {a b : Int32} (hd : decode y.2.1 pc = .ok (.iushr, 1)) (hn : pc + 1 = n)  (k : J g y d K n ls (.int (a.toUInt32 >>> (b.toUInt32 &&& Int32.toUInt32 31)).toInt32 :: st) M) : J g y d K pc ls (.int b :: .int a :: st) M := by
  intro p e s m args below meth c A H locs lr C hP hD hS hL
  subst hn
  exact lv_iushr C.1 C.2.1 hd rfl (k p e s m args below meth c A H locs lr C hP hD hS hL)
theorem j_idiv {a b : Int32} (hd : decode y.2.1 pc = .ok (.idiv, 1)) (hn : pc + 1 = n) (h0 : ¬ b = 0) (k : J g y d K n ls (.int (a / b) :: st) M) : J g y d K pc ls (.int b :: .int a :: st) M := by
  intro p e s m args below meth c A H locs lr C hP hD hS hL
  subst hn
  exact lv_idiv C.1 C.2.1 hd h0 (k p e s m args below meth c A H locs lr C hP hD hS hL)
theorem j_irem {a b : Int32} (hd : decode y.2.1 pc = .ok (.irem, 1)) (hn : pc + 1 = n) (h0 : ¬ b = 0) (k : J g y d K n ls (.int (a - a / b * b) :: st) M) : J g y d K pc ls (.int b :: .int a :: st) M := by
  intro p e s m args below meth c A H locs lr C hP hD hS hL
  subst hn
  exact lv_irem C.1 C.2.1 hd h0 (k p e s m args below meth c A H locs lr C hP hD hS hL)
theorem j_ineg {a : Int32} (hd : decode y.2.1 pc = .ok (.ineg, 1)) (hn : pc + 1 = n)  (k : J g y d K n ls (.int (-a) :: st) M) : J g y d K pc ls (.int a :: st) M := by
  intro p e s m args below meth c A H locs lr C hP hD hS hL
  subst hn
  exact lv_ineg C.1 C.2.1 hd (k p e s m args below meth c A H locs lr C hP hD hS hL)
theorem j_ladd {a b : Int64} (hd : decode y.2.1 pc = .ok (.ladd, 1)) (hn : pc + 1 = n)  (k : J g y d K n ls (.long (a + b) :: st) M) : J g y d K pc ls (.long b :: .long a :: st) M := by
  intro p e s m args below meth c A H locs lr C hP hD hS hL
  subst hn
  exact lv_ladd C.1 C.2.1 hd (k p e s m args below meth c A H locs lr C hP hD hS hL)
theorem j_lsub {a b : Int64} (hd : decode y.2.1 pc = .ok (.lsub, 1)) (hn : pc + 1 = n)  (k : J g y d K n ls (.long (a - b) :: st) M) : J g y d K pc ls (.long b :: .long a :: st) M := by
  intro p e s m args below meth c A H locs lr C hP hD hS hL
  subst hn
  exact lv_lsub C.1 C.2.1 hd (k p e s m args below meth c A H locs lr C hP hD hS hL)
theorem j_land {a b : Int64} (hd : decode y.2.1 pc = .ok (.land, 1)) (hn : pc + 1 = n)  (k : J g y d K n ls (.long (a &&& b) :: st) M) : J g y d K pc ls (.long b :: .long a :: st) M := by
  intro p e s m args below meth c A H locs lr C hP hD hS hL
  subst hn
  exact lv_land C.1 C.2.1 hd (k p e s m args below meth c A H locs lr C hP hD hS hL)
theorem j_lor {a b : Int64} (hd : decode y.2.1 pc = .ok (.lor, 1)) (hn : pc + 1 = n)  (k : J g y d K n ls (.long (a ||| b) :: st) M) : J g y d K pc ls (.long b :: .long a :: st) M := by
  intro p e s m args below meth c A H locs lr C hP hD hS hL
  subst hn
  exact lv_lor C.1 C.2.1 hd (k p e s m args below meth c A H locs lr C hP hD hS hL)
theorem j_lxor {a b : Int64} (hd : decode y.2.1 pc = .ok (.lxor, 1)) (hn : pc + 1 = n)  (k : J g y d K n ls (.long (a ^^^ b) :: st) M) : J g y d K pc ls (.long b :: .long a :: st) M := by
  intro p e s m args below meth c A H locs lr C hP hD hS hL
  subst hn
  exact lv_lxor C.1 C.2.1 hd (k p e s m args below meth c A H locs lr C hP hD hS hL)
theorem j_ldiv {a b : Int64} (hd : decode y.2.1 pc = .ok (.ldiv, 1)) (hn : pc + 1 = n) (h0 : ¬ b = 0) (k : J g y d K n ls (.long (a / b) :: st) M) : J g y d K pc ls (.long b :: .long a :: st) M := by
  intro p e s m args below meth c A H locs lr C hP hD hS hL
  subst hn
  exact lv_ldiv C.1 C.2.1 hd h0 (k p e s m args below meth c A H locs lr C hP hD hS hL)
theorem j_lrem {a b : Int64} (hd : decode y.2.1 pc = .ok (.lrem, 1)) (hn : pc + 1 = n) (h0 : ¬ b = 0) (k : J g y d K n ls (.long (a - a / b * b) :: st) M) : J g y d K pc ls (.long b :: .long a :: st) M := by
  intro p e s m args below meth c A H locs lr C hP hD hS hL
  subst hn
  exact lv_lrem C.1 C.2.1 hd h0 (k p e s m args below meth c A H locs lr C hP hD hS hL)
theorem j_lshl {a : Int64} {b : Int32} (hd : decode y.2.1 pc = .ok (.lshl, 1)) (hn : pc + 1 = n)  (k : J g y d K n ls (.long (a <<< (b.toInt64 &&& 63)) :: st) M) : J g y d K pc ls (.int b :: .long a :: st) M := by
  intro p e s m args below meth c A H locs lr C hP hD hS hL
  subst hn
  exact lv_lshl C.1 C.2.1 hd rfl (k p e s m args below meth c A H locs lr C hP hD hS hL)
theorem j_lshr {a : Int64} {b : Int32} (hd : decode y.2.1 pc = .ok (.lshr, 1)) (hn : pc + 1 = n)  (k : J g y d K n ls (.long (a >>> (b.toInt64 &&& 63)) :: st) M) : J g y d K pc ls (.int b :: .long a :: st) M := by
  intro p e s m args below meth c A H locs lr C hP hD hS hL
  subst hn
  exact lv_lshr C.1 C.2.1 hd rfl (k p e s m args below meth c A H locs lr C hP hD hS hL)
theorem j_lushr {a : Int64} {b : Int32} (hd : decode y.2.1 pc = .ok (.lushr, 1)) (hn : pc + 1 = n)  (k : J g y d K n ls (.long (a.toUInt64 >>> (b.toInt64.toUInt64 &&& Int64.toUInt64 63)).toInt64 :: st) M) : J g y d K pc ls (.int b :: .long a :: st) M := by
  intro p e s m args below meth c A H locs lr C hP hD hS hL
  subst hn
  exact lv_lushr C.1 C.2.1 hd rfl (k p e s m args below meth c A H locs lr C hP hD hS hL)
theorem j_lcmp {a b : Int64} (hd : decode y.2.1 pc = .ok (.lcmp, 1)) (hn : pc + 1 = n)  (k : J g y d K n ls (.int (lg_cmp a b) :: st) M) : J g y d K pc ls (.long b :: .long a :: st) M := by
  intro p e s m args below meth c A H locs lr C hP hD hS hL
  subst hn
  exact W.lcmp C.1 C.2.1 hd (k p e s m args below meth c A H locs lr C hP hD hS hL)
theorem j_i2l {a : Int32} (hd : decode y.2.1 pc = .ok (.i2l, 1)) (hn : pc + 1 = n)  (k : J g y d K n ls (.long a.toInt64 :: st) M) : J g y d K pc ls (.int a :: st) M := by
  intro p e s m args below meth c A H locs lr C hP hD hS hL
  subst hn
  exact lv_i2l C.1 C.2.1 hd rfl (k p e s m args below meth c A H locs lr C hP hD hS hL)
theorem j_l2i {a : Int64} (hd : decode y.2.1 pc = .ok (.l2i, 1)) (hn : pc + 1 = n)  (k : J g y d K n ls (.int a.toInt32 :: st) M) : J g y d K pc ls (.long a :: st) M := by
  intro p e s m args below meth c A H locs lr C hP hD hS hL
  subst hn
  exact lv_l2i C.1 C.2.1 hd rfl (k p e s m args below meth c A H locs lr C hP hD hS hL)
theorem j_iconst {z : Int} (v : Int32) (hd : decode y.2.1 pc = .ok (.iconst z, 1)) (hn : pc + 1 = n) (hv : Int32.ofInt z = v) (k : J g y d K n ls (.int v :: st) M) : J g y d K pc ls st M := by
  intro p e s m args below meth c A H locs lr C hP hD hS hL
  subst hn
  exact lv_iconst C.1 C.2.1 hd hv (k p e s m args below meth c A H locs lr C hP hD hS hL)
theorem j_bipush {z : Int} (v : Int32) (hd : decode y.2.1 pc = .ok (.bipush z, 2)) (hn : pc + 2 = n) (hv : (Int8.ofInt z).toInt32 = v) (k : J g y d K n ls (.int v :: st) M) : J g y d K pc ls st M := by
  intro p e s m args below meth c A H locs lr C hP hD hS hL
  subst hn
  exact lv_bipush C.1 C.2.1 hd hv (k p e s m args below meth c A H locs lr C hP hD hS hL)
theorem j_sipush {z : Int} (v : Int32) (hd : decode y.2.1 pc = .ok (.sipush z, 3)) (hn : pc + 3 = n) (hv : (Int16.ofInt z).toInt32 = v) (k : J g y d K n ls (.int v :: st) M) : J g y d K pc ls st M := by
  intro p e s m args below meth c A H locs lr C hP hD hS hL
  subst hn
  exact lv_sipush C.1 C.2.1 hd hv (k p e s m args below meth c A H locs lr C hP hD hS hL)
theorem j_lconst {z : Fin 2} (v : Int64) (hd : decode y.2.1 pc = .ok (.lconst z, 1)) (hn : pc + 1 = n) (hv : Int64.ofNat (z : Nat) = v) (k : J g y d K n ls (.long v :: st) M) : J g y d K pc ls st M := by
  intro p e s m args below meth c A H locs lr C hP hD hS hL
  subst hn
  exact lv_lconst C.1 C.2.1 hd hv (k p e s m args below meth c A H locs lr C hP hD hS hL)
theorem j_ldc {i : Nat} {v : Int32} (hd : decode y.2.1 pc = .ok (.ldc i, 2)) (hn : pc + 2 = n) (hw : Cond.constant y.1.cls i v ∈ jTB) (k : J g y d K n ls (.int v :: st) M) : J g y d K pc ls st M := by
  intro p e s m args below meth c A H locs lr C hP hD hS hL
  subst hn
  exact lv_ldc C.1 C.2.1 C.2.2.2.1 (C.2.2.2.2.1 _ (List.mem_cons_of_mem _ hw)) hd (k p e s m args below meth c A H locs lr C hP hD hS hL)
theorem j_ldcw {i : Nat} {v : Int32} (hd : decode y.2.1 pc = .ok (.ldc_w i, 3)) (hn : pc + 3 = n) (hw : Cond.constant y.1.cls i v ∈ jTB) (k : J g y d K n ls (.int v :: st) M) : J g y d K pc ls st M := by
  intro p e s m args below meth c A H locs lr C hP hD hS hL
  subst hn
  exact lv_ldcw C.1 C.2.1 C.2.2.2.1 (C.2.2.2.2.1 _ (List.mem_cons_of_mem _ hw)) hd (k p e s m args below meth c A H locs lr C hP hD hS hL)
theorem j_ldc2 {i : Nat} {v : Int64} (hd : decode y.2.1 pc = .ok (.ldc2_w i, 3)) (hn : pc + 3 = n) (hw : Cond.constantLong y.1.cls i v ∈ jTB) (k : J g y d K n ls (.long v :: st) M) : J g y d K pc ls st M := by
  intro p e s m args below meth c A H locs lr C hP hD hS hL
  subst hn
  exact lv_ldc2 C.1 C.2.1 C.2.2.2.1 (C.2.2.2.2.1 _ (List.mem_cons_of_mem _ hw)) hd (k p e s m args below meth c A H locs lr C hP hD hS hL)
theorem j_dup {v : Value} (hd : decode y.2.1 pc = .ok (.dup, 1)) (hn : pc + 1 = n) (hv : v.category = 1) (k : J g y d K n ls (v :: v :: st) M) : J g y d K pc ls (v :: st) M := by
  intro p e s m args below meth c A H locs lr C hP hD hS hL
  subst hn
  exact lv_dup C.1 C.2.1 hd hv (k p e s m args below meth c A H locs lr C hP hD hS hL)
theorem j_dup2_11 {v u : Value} (hd : decode y.2.1 pc = .ok (.dup2, 1)) (hn : pc + 1 = n) (hv : v.category = 1) (hu : u.category = 1) (k : J g y d K n ls (v :: u :: v :: u :: st) M) : J g y d K pc ls (v :: u :: st) M := by
  intro p e s m args below meth c A H locs lr C hP hD hS hL
  subst hn
  exact lv_dup2_11 C.1 C.2.1 hd hv hu (k p e s m args below meth c A H locs lr C hP hD hS hL)
theorem j_pop {v : Value} (hd : decode y.2.1 pc = .ok (.pop, 1)) (hn : pc + 1 = n) (hv : v.category = 1) (k : J g y d K n ls st M) : J g y d K pc ls (v :: st) M := by
  intro p e s m args below meth c A H locs lr C hP hD hS hL
  subst hn
  exact lv_pop C.1 C.2.1 hd hv (k p e s m args below meth c A H locs lr C hP hD hS hL)
theorem j_if_eq {a : Int32} {off : Int} (t : Nat) (hd : decode y.2.1 pc = .ok (.ifCond .eq off, 3)) (hn : pc + 3 = n) (ht : (pc : Int) + off = (t : Int)) (kt : a = 0 → J g y d K t ls st M) (kf : ¬ a = 0 → J g y d K n ls st M) : J g y d K pc ls (.int a :: st) M := by
  intro p e s m args below meth c A H locs lr C hP hD hS hL
  subst hn
  exact lv_if_eq C.1 C.2.1 hd ht (fun h => kt h p e s m args below meth c A H locs lr C hP hD hS hL) (fun h => kf h p e s m args below meth c A H locs lr C hP hD hS hL)
theorem j_if_ne {a : Int32} {off : Int} (t : Nat) (hd : decode y.2.1 pc = .ok (.ifCond .ne off, 3)) (hn : pc + 3 = n) (ht : (pc : Int) + off = (t : Int)) (kt : a ≠ 0 → J g y d K t ls st M) (kf : a = 0 → J g y d K n ls st M) : J g y d K pc ls (.int a :: st) M := by
  intro p e s m args below meth c A H locs lr C hP hD hS hL
  subst hn
  exact lv_if_ne C.1 C.2.1 hd ht (fun h => kt h p e s m args below meth c A H locs lr C hP hD hS hL) (fun h => kf h p e s m args below meth c A H locs lr C hP hD hS hL)
theorem j_if_lt {a : Int32} {off : Int} (t : Nat) (hd : decode y.2.1 pc = .ok (.ifCond .lt off, 3)) (hn : pc + 3 = n) (ht : (pc : Int) + off = (t : Int)) (kt : a < 0 → J g y d K t ls st M) (kf : ¬ a < 0 → J g y d K n ls st M) : J g y d K pc ls (.int a :: st) M := by
  intro p e s m args below meth c A H locs lr C hP hD hS hL
  subst hn
  exact lv_if_lt C.1 C.2.1 hd ht (fun h => kt h p e s m args below meth c A H locs lr C hP hD hS hL) (fun h => kf h p e s m args below meth c A H locs lr C hP hD hS hL)
theorem j_if_ge {a : Int32} {off : Int} (t : Nat) (hd : decode y.2.1 pc = .ok (.ifCond .ge off, 3)) (hn : pc + 3 = n) (ht : (pc : Int) + off = (t : Int)) (kt : 0 ≤ a → J g y d K t ls st M) (kf : ¬ 0 ≤ a → J g y d K n ls st M) : J g y d K pc ls (.int a :: st) M := by
  intro p e s m args below meth c A H locs lr C hP hD hS hL
  subst hn
  exact lv_if_ge C.1 C.2.1 hd ht (fun h => kt h p e s m args below meth c A H locs lr C hP hD hS hL) (fun h => kf h p e s m args below meth c A H locs lr C hP hD hS hL)
theorem j_if_gt {a : Int32} {off : Int} (t : Nat) (hd : decode y.2.1 pc = .ok (.ifCond .gt off, 3)) (hn : pc + 3 = n) (ht : (pc : Int) + off = (t : Int)) (kt : 0 < a → J g y d K t ls st M) (kf : ¬ 0 < a → J g y d K n ls st M) : J g y d K pc ls (.int a :: st) M := by
  intro p e s m args below meth c A H locs lr C hP hD hS hL
  subst hn
  exact lv_if_gt C.1 C.2.1 hd ht (fun h => kt h p e s m args below meth c A H locs lr C hP hD hS hL) (fun h => kf h p e s m args below meth c A H locs lr C hP hD hS hL)
theorem j_if_le {a : Int32} {off : Int} (t : Nat) (hd : decode y.2.1 pc = .ok (.ifCond .le off, 3)) (hn : pc + 3 = n) (ht : (pc : Int) + off = (t : Int)) (kt : a ≤ 0 → J g y d K t ls st M) (kf : ¬ a ≤ 0 → J g y d K n ls st M) : J g y d K pc ls (.int a :: st) M := by
  intro p e s m args below meth c A H locs lr C hP hD hS hL
  subst hn
  exact lv_if_le C.1 C.2.1 hd ht (fun h => kt h p e s m args below meth c A H locs lr C hP hD hS hL) (fun h => kf h p e s m args below meth c A H locs lr C hP hD hS hL)
theorem j_icmp_eq {a b : Int32} {off : Int} (t : Nat) (hd : decode y.2.1 pc = .ok (.if_icmp .eq off, 3)) (hn : pc + 3 = n) (ht : (pc : Int) + off = (t : Int)) (kt : a = b → J g y d K t ls st M) (kf : ¬ a = b → J g y d K n ls st M) : J g y d K pc ls (.int b :: .int a :: st) M := by
  intro p e s m args below meth c A H locs lr C hP hD hS hL
  subst hn
  exact lv_icmp_eq C.1 C.2.1 hd ht (fun h => kt h p e s m args below meth c A H locs lr C hP hD hS hL) (fun h => kf h p e s m args below meth c A H locs lr C hP hD hS hL)
theorem j_icmp_ne {a b : Int32} {off : Int} (t : Nat) (hd : decode y.2.1 pc = .ok (.if_icmp .ne off, 3)) (hn : pc + 3 = n) (ht : (pc : Int) + off = (t : Int)) (kt : a ≠ b → J g y d K t ls st M) (kf : a = b → J g y d K n ls st M) : J g y d K pc ls (.int b :: .int a :: st) M := by
  intro p e s m args below meth c A H locs lr C hP hD hS hL
  subst hn
  exact lv_icmp_ne C.1 C.2.1 hd ht (fun h => kt h p e s m args below meth c A H locs lr C hP hD hS hL) (fun h => kf h p e s m args below meth c A H locs lr C hP hD hS hL)
theorem j_icmp_lt {a b : Int32} {off : Int} (t : Nat) (hd : decode y.2.1 pc = .ok (.if_icmp .lt off, 3)) (hn : pc + 3 = n) (ht : (pc : Int) + off = (t : Int)) (kt : a < b → J g y d K t ls st M) (kf : ¬ a < b → J g y d K n ls st M) : J g y d K pc ls (.int b :: .int a :: st) M := by
  intro p e s m args below meth c A H locs lr C hP hD hS hL
  subst hn
  exact lv_icmp_lt C.1 C.2.1 hd ht (fun h => kt h p e s m args below meth c A H locs lr C hP hD hS hL) (fun h => kf h p e s m args below meth c A H locs lr C hP hD hS hL)
theorem j_icmp_ge {a b : Int32} {off : Int} (t : Nat) (hd : decode y.2.1 pc = .ok (.if_icmp .ge off, 3)) (hn : pc + 3 = n) (ht : (pc : Int) + off = (t : Int)) (kt : b ≤ a → J g y d K t ls st M) (kf : ¬ b ≤ a → J g y d K n ls st M) : J g y d K pc ls (.int b :: .int a :: st) M := by
  intro p e s m args below meth c A H locs lr C hP hD hS hL
  subst hn
  exact lv_icmp_ge C.1 C.2.1 hd ht (fun h => kt h p e s m args below meth c A H locs lr C hP hD hS hL) (fun h => kf h p e s m args below meth c A H locs lr C hP hD hS hL)
theorem j_icmp_gt {a b : Int32} {off : Int} (t : Nat) (hd : decode y.2.1 pc = .ok (.if_icmp .gt off, 3)) (hn : pc + 3 = n) (ht : (pc : Int) + off = (t : Int)) (kt : b < a → J g y d K t ls st M) (kf : ¬ b < a → J g y d K n ls st M) : J g y d K pc ls (.int b :: .int a :: st) M := by
  intro p e s m args below meth c A H locs lr C hP hD hS hL
  subst hn
  exact lv_icmp_gt C.1 C.2.1 hd ht (fun h => kt h p e s m args below meth c A H locs lr C hP hD hS hL) (fun h => kf h p e s m args below meth c A H locs lr C hP hD hS hL)
theorem j_icmp_le {a b : Int32} {off : Int} (t : Nat) (hd : decode y.2.1 pc = .ok (.if_icmp .le off, 3)) (hn : pc + 3 = n) (ht : (pc : Int) + off = (t : Int)) (kt : a ≤ b → J g y d K t ls st M) (kf : ¬ a ≤ b → J g y d K n ls st M) : J g y d K pc ls (.int b :: .int a :: st) M := by
  intro p e s m args below meth c A H locs lr C hP hD hS hL
  subst hn
  exact lv_icmp_le C.1 C.2.1 hd ht (fun h => kt h p e s m args below meth c A H locs lr C hP hD hS hL) (fun h => kf h p e s m args below meth c A H locs lr C hP hD hS hL)
theorem j_goto {off : Int} (t : Nat) (hd : decode y.2.1 pc = .ok (.goto off, 3)) (ht : (pc : Int) + off = (t : Int)) (k : J g y d K t ls st M) : J g y d K pc ls st M := by
  intro p e s m args below meth c A H locs lr C hP hD hS hL
  exact lv_goto C.1 C.2.1 hd ht (k p e s m args below meth c A H locs lr C hP hD hS hL)
theorem j_iret {a : Int32} (hd : decode y.2.1 pc = .ok (.ireturn, 1)) (hr : y.2.2.2 = some .int) (hk : K (some (.int a)) M) : J g y d K pc ls [.int a] M := by
  intro p e s m args below meth c A H locs lr C hP hD hS hL
  exact W.iret C.1 C.2.1 (C.2.2.2.2.2.1.trans hr) (fun t ht hW => ⟨⟨_, M, rfl, hk, by rw [ht]; exact hP, hD⟩, hS.F ht⟩) hS.2.2 hd (hlocks := C.2.2.2.2.2.2.1)
theorem j_zret {a : Int32} (hd : decode y.2.1 pc = .ok (.ireturn, 1)) (hr : y.2.2.2 = some .boolean) (ha : narrow .boolean (.int a) = .int a) (hk : K (some (.int a)) M) : J g y d K pc ls [.int a] M := by
  intro p e s m args below meth c A H locs lr C hP hD hS hL
  exact W.zret C.1 C.2.1 (C.2.2.2.2.2.1.trans hr) ha (fun t ht hW => ⟨⟨_, M, rfl, hk, by rw [ht]; exact hP, hD⟩, hS.F ht⟩) hS.2.2 hd (hlocks := C.2.2.2.2.2.2.1)
theorem j_lret {a : Int64} (hd : decode y.2.1 pc = .ok (.lreturn, 1)) (hr : y.2.2.2 = some .long) (hk : K (some (.long a)) M) : J g y d K pc ls [.long a] M := by
  intro p e s m args below meth c A H locs lr C hP hD hS hL
  exact W.lret C.1 C.2.1 (C.2.2.2.2.2.1.trans hr) (fun t ht hW => ⟨⟨_, M, rfl, hk, by rw [ht]; exact hP, hD⟩, hS.F ht⟩) hS.2.2 hd (hlocks := C.2.2.2.2.2.2.1)
theorem j_vret (hd : decode y.2.1 pc = .ok (.return_, 1)) (hr : y.2.2.2 = none) (hk : K none M) : J g y d K pc ls [] M := by
  intro p e s m args below meth c A H locs lr C hP hD hS hL
  exact W.vret C.1 C.2.1 (C.2.2.2.2.2.1.trans hr) (fun t ht hW => ⟨⟨_, M, rfl, hk, by rw [ht]; exact hP, hD⟩, hS.F ht⟩) hS.2.2 hd (hlocks := C.2.2.2.2.2.2.1)

/-- the list of what is known, as the kit has it -/
def jAs (l : List (Option Value)) : List (Nat × Value) := (List.range l.length).filterMap fun i => match l[i]? with
  | some (some v) => some (i, v)
  | _ => none
theorem jAs_in {l : List (Option Value)} {i : Nat} {v : Value} : (i, v) ∈ jAs l ↔ l[i]? = some (some v) := by
  unfold jAs
  rw [List.mem_filterMap]
  constructor
  · rintro ⟨j, -, hj⟩
    split at hj
    · rename_i w hw
      cases hj
      exact hw
    · cases hj
  · intro h
    refine ⟨i, List.mem_range.mpr (List.getElem?_eq_some_iff.mp h).1, ?_⟩
    rw [h]
theorem jL_has {ls : Array Slot} {n : Nat} {l : List (Option Value)} (h : jL ls n l) : lv_has ls n (jAs l) := ⟨h.1, h.2.1, fun q hq => h.2.2 q.1 q.2 (jAs_in.mp hq)⟩
/-- no long begins just ahead of place i -/
def jFree (l : List (Option Value)) : Nat → Bool
  | 0 => true
  | i + 1 => match l[i]? with
    | some (some v) => !(v.category == 2)
    | _ => true
theorem jL_st1 {ls : Array Slot} {n i : Nat} {l : List (Option Value)} {v : Value} (hf : jFree l i = true) (h : lv_has ls n ((i, v) :: (jAs l).filter (fun q => !(q.1 == i) && !(q.1 + 1 == i && q.2.category == 2)))) : jL ls n (l.set i (some v)) := by
  refine ⟨h.1, h.2.1, fun j w hj => ?_⟩
  rw [List.getElem?_set] at hj
  by_cases e : i = j
  · subst e
    rw [if_pos rfl] at hj
    split at hj
    · cases hj
      exact h.2.2 (i, v) List.mem_cons_self
    · cases hj
  · rw [if_neg e] at hj
    refine h.2.2 (j, w) (List.mem_cons_of_mem _ (List.mem_filter.mpr ⟨jAs_in.mpr hj, ?_⟩))
    simp only [Bool.and_eq_true, Bool.not_eq_true', beq_eq_false_iff_ne, ne_eq, Bool.and_eq_false_iff]
    refine ⟨fun q => e q.symm, ?_⟩
    by_cases e2 : j + 1 = i
    · right
      subst e2
      simp only [jFree, hj] at hf
      simpa using hf
    · exact Or.inl e2
theorem jL_st2 {ls : Array Slot} {n i : Nat} {l : List (Option Value)} {v : Value} (hf : jFree l i = true) (h : lv_has ls n ((i, v) :: (jAs l).filter (fun q => !(q.1 == i) && (!(q.1 == i + 1) && !(q.1 + 1 == i && q.2.category == 2))))) : jL ls n ((l.set i (some v)).set (i + 1) none) := by
  refine ⟨h.1, h.2.1, fun j w hj => ?_⟩
  rw [List.getElem?_set] at hj
  by_cases e1 : i + 1 = j
  · rw [if_pos e1] at hj
    split at hj <;> cases hj
  rw [if_neg e1, List.getElem?_set] at hj
  by_cases e : i = j
  · subst e
    rw [if_pos rfl] at hj
    split at hj
    · cases hj
      exact h.2.2 (i, v) List.mem_cons_self
    · cases hj
  · rw [if_neg e] at hj
    refine h.2.2 (j, w) (List.mem_cons_of_mem _ (List.mem_filter.mpr ⟨jAs_in.mpr hj, ?_⟩))
    simp only [Bool.and_eq_true, Bool.not_eq_true', beq_eq_false_iff_ne, ne_eq, Bool.and_eq_false_iff]
    refine ⟨fun q => e q.symm, fun q => e1 q.symm, ?_⟩
    by_cases e2 : j + 1 = i
    · right
      subst e2
      simp only [jFree, hj] at hf
      simpa using hf
    · exact Or.inl e2

theorem j_iload_n {k4 : Fin 4} {x : Int32} (hd : decode y.2.1 pc = .ok (.iload_n k4, 1)) (hn : pc + 1 = n) (hl : ls[(k4 : Nat)]? = some (some (.int x))) (k : J g y d K n ls (.int x :: st) M) : J g y d K pc ls st M := by
  intro p e s m args below meth c A H locs lr C hP hD hS hL
  subst hn
  exact lv_iload_n C.1 C.2.1 hd rfl (hL.2.2 _ _ hl) (k p e s m args below meth c A H locs lr C hP hD hS hL)
theorem j_iload {i : Nat} {x : Int32} (hd : decode y.2.1 pc = .ok (.iload i, 2)) (hn : pc + 2 = n) (hl : ls[i]? = some (some (.int x))) (k : J g y d K n ls (.int x :: st) M) : J g y d K pc ls st M := by
  intro p e s m args below meth c A H locs lr C hP hD hS hL
  subst hn
  exact lv_iload C.1 C.2.1 hd (hL.2.2 _ _ hl) (k p e s m args below meth c A H locs lr C hP hD hS hL)
theorem j_lload_n {k4 : Fin 4} {x : Int64} (hd : decode y.2.1 pc = .ok (.lload_n k4, 1)) (hn : pc + 1 = n) (hl : ls[(k4 : Nat)]? = some (some (.long x))) (k : J g y d K n ls (.long x :: st) M) : J g y d K pc ls st M := by
  intro p e s m args below meth c A H locs lr C hP hD hS hL
  subst hn
  exact lv_lload_n C.1 C.2.1 hd rfl (hL.2.2 _ _ hl) (k p e s m args below meth c A H locs lr C hP hD hS hL)
theorem j_lload {i : Nat} {x : Int64} (hd : decode y.2.1 pc = .ok (.lload i, 2)) (hn : pc + 2 = n) (hl : ls[i]? = some (some (.long x))) (k : J g y d K n ls (.long x :: st) M) : J g y d K pc ls st M := by
  intro p e s m args below meth c A H locs lr C hP hD hS hL
  subst hn
  exact lv_lload C.1 C.2.1 hd (hL.2.2 _ _ hl) (k p e s m args below meth c A H locs lr C hP hD hS hL)
theorem j_aload_n {k4 : Fin 4} {x : Nat} (hd : decode y.2.1 pc = .ok (.aload_n k4, 1)) (hn : pc + 1 = n) (hl : ls[(k4 : Nat)]? = some (some (.ref x))) (k : J g y d K n ls (.ref x :: st) M) : J g y d K pc ls st M := by
  intro p e s m args below meth c A H locs lr C hP hD hS hL
  subst hn
  exact lv_aload_n C.1 C.2.1 hd rfl (hL.2.2 _ _ hl) (k p e s m args below meth c A H locs lr C hP hD hS hL)
theorem j_aload {i : Nat} {x : Nat} (hd : decode y.2.1 pc = .ok (.aload i, 2)) (hn : pc + 2 = n) (hl : ls[i]? = some (some (.ref x))) (k : J g y d K n ls (.ref x :: st) M) : J g y d K pc ls st M := by
  intro p e s m args below meth c A H locs lr C hP hD hS hL
  subst hn
  exact lv_aload C.1 C.2.1 hd (hL.2.2 _ _ hl) (k p e s m args below meth c A H locs lr C hP hD hS hL)
theorem j_istore {i : Nat} {x : Int32} (hd : decode y.2.1 pc = .ok (.istore i, 2)) (hn : pc + 2 = n) (hi : i < y.2.2.1) (hf : jFree ls i = true) (k : J g y d K n (ls.set i (some (.int x))) st M) : J g y d K pc ls (.int x :: st) M := by
  intro p e s m args below meth c A H locs lr C hP hD hS hL
  subst hn
  exact lv_istore C.1 C.2.1 hd (jL_has hL) hi rfl (fun ls2 h2 => k p e s m args below meth c A H locs ls2 C hP hD hS (jL_st1 hf h2))
theorem j_istore_n {k4 : Fin 4} {i : Nat} {x : Int32} (hd : decode y.2.1 pc = .ok (.istore_n k4, 1)) (hn : pc + 1 = n) (h4 : (k4 : Nat) = i) (hi : i < y.2.2.1) (hf : jFree ls i = true) (k : J g y d K n (ls.set i (some (.int x))) st M) : J g y d K pc ls (.int x :: st) M := by
  intro p e s m args below meth c A H locs lr C hP hD hS hL
  subst hn
  exact lv_istore_n C.1 C.2.1 hd h4 (jL_has hL) hi rfl (fun ls2 h2 => k p e s m args below meth c A H locs ls2 C hP hD hS (jL_st1 hf h2))
theorem j_astore {i : Nat} {x : Nat} (hd : decode y.2.1 pc = .ok (.astore i, 2)) (hn : pc + 2 = n) (hi : i < y.2.2.1) (hf : jFree ls i = true) (k : J g y d K n (ls.set i (some (.ref x))) st M) : J g y d K pc ls (.ref x :: st) M := by
  intro p e s m args below meth c A H locs lr C hP hD hS hL
  subst hn
  exact lv_astore C.1 C.2.1 hd (jL_has hL) hi rfl (fun ls2 h2 => k p e s m args below meth c A H locs ls2 C hP hD hS (jL_st1 hf h2))
theorem j_astore_n {k4 : Fin 4} {i : Nat} {x : Nat} (hd : decode y.2.1 pc = .ok (.astore_n k4, 1)) (hn : pc + 1 = n) (h4 : (k4 : Nat) = i) (hi : i < y.2.2.1) (hf : jFree ls i = true) (k : J g y d K n (ls.set i (some (.ref x))) st M) : J g y d K pc ls (.ref x :: st) M := by
  intro p e s m args below meth c A H locs lr C hP hD hS hL
  subst hn
  exact lv_astore_n C.1 C.2.1 hd h4 (jL_has hL) hi rfl (fun ls2 h2 => k p e s m args below meth c A H locs ls2 C hP hD hS (jL_st1 hf h2))
theorem j_lstore {i : Nat} {x : Int64} (hd : decode y.2.1 pc = .ok (.lstore i, 2)) (hn : pc + 2 = n) (hi : i + 1 < y.2.2.1) (hf : jFree ls i = true) (k : J g y d K n ((ls.set i (some (.long x))).set (i + 1) none) st M) : J g y d K pc ls (.long x :: st) M := by
  intro p e s m args below meth c A H locs lr C hP hD hS hL
  subst hn
  exact lv_lstore C.1 C.2.1 hd (jL_has hL) hi rfl (fun ls2 h2 => k p e s m args below meth c A H locs ls2 C hP hD hS (jL_st2 hf h2))
theorem j_lstore_n {k4 : Fin 4} {i : Nat} {x : Int64} (hd : decode y.2.1 pc = .ok (.lstore_n k4, 1)) (hn : pc + 1 = n) (h4 : (k4 : Nat) = i) (hi : i + 1 < y.2.2.1) (hf : jFree ls i = true) (k : J g y d K n ((ls.set i (some (.long x))).set (i + 1) none) st M) : J g y d K pc ls (.long x :: st) M := by
  intro p e s m args below meth c A H locs lr C hP hD hS hL
  subst hn
  exact lv_lstore_n C.1 C.2.1 hd h4 (jL_has hL) hi rfl (fun ls2 h2 => k p e s m args below meth c A H locs ls2 C hP hD hS (jL_st2 hf h2))
theorem j_iinc {i : Nat} {z : Int} {x v : Int32} (hd : decode y.2.1 pc = .ok (.iinc i z, 3)) (hn : pc + 3 = n) (hi : i < y.2.2.1) (hf : jFree ls i = true) (hl : ls[i]? = some (some (.int x))) (hv : x + Int32.ofInt z = v) (k : J g y d K n (ls.set i (some (.int v))) st M) : J g y d K pc ls st M := by
  intro p e s m args below meth c A H locs lr C hP hD hS hL
  subst hn
  obtain ⟨kk, hkk⟩ := List.getElem?_of_mem (jAs_in.mpr hl)
  exact lv_iinc C.1 C.2.1 hd (jL_has hL) hkk hv hi rfl (fun ls2 h2 => k p e s m args below meth c A H locs ls2 C hP hD hS (jL_st1 hf h2))

/-- what holds of class number ci: its row of vwCl, its words -/
def jCls (ci : Nat) (q : vw_C) : Prop := vwCl[ci]? = some q ∧ ∀ w ∈ u_ws q.1 q.2.1 q.2.2, w ∈ jTB
theorem j_get {idx ci k kc : Nat} {q : vw_C} {fs : List Value} {v : Value} (hd : decode y.2.1 pc = .ok (.getfield idx, 3)) (hn : pc + 3 = n) (hcl : jCls ci q) (hk : k < q.2.2) (hl : Cond.fieldLink y.1.cls idx (q.2.1 k).1 (q.2.1 k).2.1 (q.2.1 k).2.2.1 ∈ jTB) (hkc : kc < 52) (hM : M kc = .inr (ci, fs)) (hv : fs[k]? = some v) (kk : J g y d K n ls (v :: st) M) : J g y d K pc ls (.ref (jA g kc) :: st) M := by
  intro p e s m args below meth c A H locs lr C hP hD hS hL
  subst hn
  obtain ⟨hx, hb, hml, hown, hts, hr, hlk, hK, hS0, hA⟩ := id C
  exact va_get hx hb hts (fun w h => List.mem_cons_of_mem _ (hcl.2 w h)) hown hK hP kc (by rw [jW_get hkc, hM]) hcl.1 k hk (hts _ (List.mem_cons_of_mem _ hl)) (fun _ h => h) hv hd (kk p e s m args below meth c A H locs lr C hP hD hS hL)
theorem j_put {idx ci k kc : Nat} {q : vw_C} {fs fs2 : List Value} {v : Value} {ty0 : Nat → FieldType} {ty : FieldType} (hd : decode y.2.1 pc = .ok (.putfield idx, 3)) (hn : pc + 3 = n) (hcl : jCls ci q) (hty : ∀ k, k < q.2.2 → parseFieldDescriptor (q.2.1 k).2.2.1 = some (ty0 k)) (hnm : ∀ a, a < q.2.2 → ∀ b, b < q.2.2 → a ≠ b → (q.2.1 a).2.1 ≠ (q.2.1 b).2.1) (hk : k < q.2.2) (hfin : (q.2.1 k).2.2.2 = false) (hdt : parseFieldDescriptor (q.2.1 k).2.2.1 = some ty) (hl : Cond.fieldLink y.1.cls idx (q.2.1 k).1 (q.2.1 k).2.1 (q.2.1 k).2.2.1 ∈ jTB) (hnw : narrow ty v = v) (hft : fits ty v = true) (hkc : kc < 52) (hM : M kc = .inr (ci, fs)) (hlen : k < fs.length) (hfs : fs.set k v = fs2) (kk : J g y d K n ls st (va_up M kc (.inr (ci, fs2)))) : J g y d K pc ls (v :: .ref (jA g kc) :: st) M := by
  intro p e s m args below meth c A H locs lr C hP hD hS hL
  subst hn
  subst hfs
  obtain ⟨hx, hb, hml, hown, hts, hr, hlk, hK, hS0, hA⟩ := id C
  refine va_put hx hb hts (fun w h => List.mem_cons_of_mem _ (hcl.2 w h)) ty0 hty hnm hown hK hP hD hS kc (by rw [jW_get hkc, hM]) hcl.1 k hk (hts _ (List.mem_cons_of_mem _ hl)) (fun _ h => h) hfin hdt hnw hft hlen hd (fun H1 locs1 hP1 hD1 hS1 => ?_)
  rw [jW_set hkc] at hP1 hD1
  exact kk p e s m args below meth c A H1 locs1 lr C hP1 hD1 hS1 hL
theorem j_gets {idx kz : Nat} (hd : decode y.2.1 pc = .ok (.getstatic idx, 3)) (hn : pc + 3 = n) (hz : kz < 5) (hl : Cond.fieldLink y.1.cls idx (jSt kz).1 (jSt kz).2.1 (jSt kz).2.2.1 ∈ jTB) (kk : J g y d K n ls (.ref (jsa g kz) :: st) M) : J g y d K pc ls st M := by
  intro p e s m args below meth c A H locs lr C hP hD hS hL
  subst hn
  obtain ⟨hx, hb, hml, hown, hts, hr, hlk, hK, hS0, hA⟩ := id C
  exact va_gets hx hb (hS0 kz hz).1 hS hown (hts _ (List.mem_cons_of_mem _ hl)) (fun _ h => h) hd (kk p e s m args below meth c A H locs lr C hP hD hS hL)
theorem j_iald {kc N : Nat} {f : Nat → Int32} {i : Int32} (hd : decode y.2.1 pc = .ok (.iaload, 1)) (hn : pc + 1 = n) (hkc : kc < 52) (hM : M kc = .inl (jc g 0, N, .inl f)) (hi : vp_in i N) (kk : J g y d K n ls (.int (f i.toNatClampNeg) :: st) M) : J g y d K pc ls (.int i :: .ref (jA g kc) :: st) M := by
  intro p e s m args below meth c A H locs lr C hP hD hS hL
  subst hn
  exact va_iald C.1 C.2.1 C.2.2.2.2.2.2.2.1 hP kc 0 (by rw [jW_get hkc, hM]) rfl hi hd (kk p e s m args below meth c A H locs lr C hP hD hS hL)
theorem j_lald {kc N : Nat} {f : Nat → Int64} {i : Int32} (hd : decode y.2.1 pc = .ok (.laload, 1)) (hn : pc + 1 = n) (hkc : kc < 52) (hM : M kc = .inl (jc g 1, N, .inr (.inl f))) (hi : vp_in i N) (kk : J g y d K n ls (.long (f i.toNatClampNeg) :: st) M) : J g y d K pc ls (.int i :: .ref (jA g kc) :: st) M := by
  intro p e s m args below meth c A H locs lr C hP hD hS hL
  subst hn
  exact va_lald C.1 C.2.1 C.2.2.2.2.2.2.2.1 hP kc 1 (by rw [jW_get hkc, hM]) rfl hi hd (kk p e s m args below meth c A H locs lr C hP hD hS hL)
theorem j_zald {kc N : Nat} {f : Nat → Int32} {i : Int32} (hd : decode y.2.1 pc = .ok (.baload, 1)) (hn : pc + 1 = n) (hkc : kc < 52) (hM : M kc = .inl (jc g 2, N, .inl f)) (hi : vp_in i N) (kk : J g y d K n ls (.int (f i.toNatClampNeg) :: st) M) : J g y d K pc ls (.int i :: .ref (jA g kc) :: st) M := by
  intro p e s m args below meth c A H locs lr C hP hD hS hL
  subst hn
  exact va_zald C.1 C.2.1 C.2.2.2.2.2.2.2.1 hP kc 2 (by rw [jW_get hkc, hM]) rfl hi hd (kk p e s m args below meth c A H locs lr C hP hD hS hL)
theorem j_aald {kc N : Nat} {f : Nat → Option Nat} {i : Int32} (hd : decode y.2.1 pc = .ok (.aaload, 1)) (hn : pc + 1 = n) (hkc : kc < 52) (hM : M kc = .inl (jc g 3, N, .inr (.inr (.inr (.inr f))))) (hi : vp_in i N) (kk : J g y d K n ls (va_rf (f i.toNatClampNeg) :: st) M) : J g y d K pc ls (.int i :: .ref (jA g kc) :: st) M := by
  intro p e s m args below meth c A H locs lr C hP hD hS hL
  subst hn
  have hlt : i.toNatClampNeg < N := Nat.not_le.mp fun q => hi (Or.inr q)
  have hq : va_at g.2.1 vwCl (jA g kc, .inl (jc g 3, N, .inr (.inr (.inr (.inr f))))) H := hP kc _ (by rw [jW_get hkc, hM])
  exact W.aald (v := va_rf (f i.toNatClampNeg)) (ty := .array .int) C.1 C.2.1 hq ((C.2.2.2.2.2.2.2.1.2 3 _ rfl).1 N (fun j => va_rf (f j))) rfl (fun q => by cases q) (by show ¬ (i < 0 ∨ (arrV _ _ _).slots.size ≤ _); rw [arrV_size]; exact hi) (by show (arrV _ _ _).slots[_]? = _; rw [arrV_read _ _ hlt]) rfl rfl hd (kk p e s m args below meth c A H locs lr C hP hD hS hL)
theorem j_iast {kc N : Nat} {f : Nat → Int32} {i x : Int32} (hd : decode y.2.1 pc = .ok (.iastore, 1)) (hn : pc + 1 = n) (hkc : kc < 52) (hM : M kc = .inl (jc g 0, N, .inl f)) (hi : vp_in i N) (kk : J g y d K n ls st (va_up M kc (.inl (jc g 0, N, .inl (upd f i.toNatClampNeg x))))) : J g y d K pc ls (.int x :: .int i :: .ref (jA g kc) :: st) M := by
  intro p e s m args below meth c A H locs lr C hP hD hS hL
  subst hn
  refine va_iast C.1 C.2.1 C.2.2.2.2.2.2.2.1 hP hD hS kc 0 (by rw [jW_get hkc, hM]) rfl hi hd (fun H1 locs1 hP1 hD1 hS1 => ?_)
  rw [jW_set hkc] at hP1 hD1
  exact kk p e s m args below meth c A H1 locs1 lr C hP1 hD1 hS1 hL
theorem j_last {kc N : Nat} {f : Nat → Int64} {i : Int32} {x : Int64} (hd : decode y.2.1 pc = .ok (.lastore, 1)) (hn : pc + 1 = n) (hkc : kc < 52) (hM : M kc = .inl (jc g 1, N, .inr (.inl f))) (hi : vp_in i N) (kk : J g y d K n ls st (va_up M kc (.inl (jc g 1, N, .inr (.inl (vp_updL f i.toNatClampNeg x)))))) : J g y d K pc ls (.long x :: .int i :: .ref (jA g kc) :: st) M := by
  intro p e s m args below meth c A H locs lr C hP hD hS hL
  subst hn
  refine va_last C.1 C.2.1 C.2.2.2.2.2.2.2.1 hP hD hS kc 1 (by rw [jW_get hkc, hM]) rfl hi hd (fun H1 locs1 hP1 hD1 hS1 => ?_)
  rw [jW_set hkc] at hP1 hD1
  exact kk p e s m args below meth c A H1 locs1 lr C hP1 hD1 hS1 hL
theorem j_zast {kc N : Nat} {f : Nat → Int32} {i x : Int32} (hd : decode y.2.1 pc = .ok (.bastore, 1)) (hn : pc + 1 = n) (hkc : kc < 52) (hM : M kc = .inl (jc g 2, N, .inl f)) (hi : vp_in i N) (kk : J g y d K n ls st (va_up M kc (.inl (jc g 2, N, .inl (upd f i.toNatClampNeg (vp_nar .boolean x)))))) : J g y d K pc ls (.int x :: .int i :: .ref (jA g kc) :: st) M := by
  intro p e s m args below meth c A H locs lr C hP hD hS hL
  subst hn
  refine va_zast C.1 C.2.1 C.2.2.2.2.2.2.2.1 hP hD hS kc 2 (by rw [jW_get hkc, hM]) rfl hi hd (fun H1 locs1 hP1 hD1 hS1 => ?_)
  rw [jW_set hkc] at hP1 hD1
  exact kk p e s m args below meth c A H1 locs1 lr C hP1 hD1 hS1 hL
theorem j_tild {kz : Nat} {i v : Int32} (hd : decode y.2.1 pc = .ok (.iaload, 1)) (hn : pc + 1 = n) (hz : kz < 5) (hty : (jSt kz).2.2.2.1 = .int) (hi : vp_in i (jSt kz).2.2.2.2.1) (hv : (jSt kz).2.2.2.2.2 i.toNatClampNeg = .int v) (kk : J g y d K n ls (.int v :: st) M) : J g y d K pc ls (.int i :: .ref (jsa g kz) :: st) M := by
  intro p e s m args below meth c A H locs lr C hP hD hS hL
  subst hn
  have hT := (C.2.2.2.2.2.2.2.2.1 kz hz).2
  rw [hty] at hT
  exact va_ti C.1 C.2.1 hT hS hi hv hd (kk p e s m args below meth c A H locs lr C hP hD hS hL)
theorem j_tlld {kz : Nat} {i : Int32} {v : Int64} (hd : decode y.2.1 pc = .ok (.laload, 1)) (hn : pc + 1 = n) (hz : kz < 5) (hty : (jSt kz).2.2.2.1 = .long) (hi : vp_in i (jSt kz).2.2.2.2.1) (hv : (jSt kz).2.2.2.2.2 i.toNatClampNeg = .long v) (kk : J g y d K n ls (.long v :: st) M) : J g y d K pc ls (.int i :: .ref (jsa g kz) :: st) M := by
  intro p e s m args below meth c A H locs lr C hP hD hS hL
  subst hn
  have hT := (C.2.2.2.2.2.2.2.2.1 kz hz).2
  rw [hty] at hT
  exact va_tl C.1 C.2.1 hT hS hi hv hd (kk p e s m args below meth c A H locs lr C hP hD hS hL)

theorem j_mmax {a b : Int32} {idx : Nat} (hd : decode y.2.1 pc = .ok (.invokestatic idx, 3)) (hn : pc + 3 = n) (hl : Cond.methodLink y.1.cls idx Lib.Math.max.name ∈ jTB) (hw : Cond.static Lib.Math.max.name ∈ jTB ∧ Cond.initialized "java/lang/Math" ∈ jTB ∧ Cond.code Lib.Math.max.name Lib.Math.max.code 2 (some .int) ∈ jTB) (hd1 : 0 < d) (hW : (st.map fun v => v.category).sum ≤ 8) (k : J g y d K n ls (.int (if a < b then b else a) :: st) M) : J g y d K pc ls (.int b :: .int a :: st) M := by
  intro p e s m args below meth c A H locs lr C hP hD hS hL
  subst hn
  obtain ⟨hx, hb, hml, hown, hts, hr, hlk, hK, hS0, hA⟩ := id C
  exact va_mmax hx hb (by rw [hml]; exact hL.1.symm) hown (hts _ (List.mem_cons_of_mem _ hl)) (hts _ (List.mem_cons_of_mem _ hw.1)) (hts _ (List.mem_cons_of_mem _ hw.2.1)) (hts _ (List.mem_cons_of_mem _ hw.2.2)) (by show 1 ≤ d; omega) (by show _ ≤ 40 * d; omega) (Nat.le_refl _) (Nat.le_refl _) hd (k p e s m args below meth c A H locs lr C hP hD hS hL)
theorem j_mmin {a b : Int32} {idx : Nat} (hd : decode y.2.1 pc = .ok (.invokestatic idx, 3)) (hn : pc + 3 = n) (hl : Cond.methodLink y.1.cls idx Lib.Math.min.name ∈ jTB) (hw : Cond.static Lib.Math.min.name ∈ jTB ∧ Cond.initialized "java/lang/Math" ∈ jTB ∧ Cond.code Lib.Math.min.name Lib.Math.min.code 2 (some .int) ∈ jTB) (hd1 : 0 < d) (hW : (st.map fun v => v.category).sum ≤ 8) (k : J g y d K n ls (.int (if b < a then b else a) :: st) M) : J g y d K pc ls (.int b :: .int a :: st) M := by
  intro p e s m args below meth c A H locs lr C hP hD hS hL
  subst hn
  obtain ⟨hx, hb, hml, hown, hts, hr, hlk, hK, hS0, hA⟩ := id C
  exact va_mmin hx hb (by rw [hml]; exact hL.1.symm) hown (hts _ (List.mem_cons_of_mem _ hl)) (hts _ (List.mem_cons_of_mem _ hw.1)) (hts _ (List.mem_cons_of_mem _ hw.2.1)) (hts _ (List.mem_cons_of_mem _ hw.2.2)) (by show 1 ≤ d; omega) (by show _ ≤ 40 * d; omega) (Nat.le_refl _) (Nat.le_refl _) hd (k p e s m args below meth c A H locs lr C hP hD hS hL)
theorem j_mabs {a : Int32} {idx : Nat} (hd : decode y.2.1 pc = .ok (.invokestatic idx, 3)) (hn : pc + 3 = n) (hl : Cond.methodLink y.1.cls idx Lib.Math.abs.name ∈ jTB) (hw : Cond.static Lib.Math.abs.name ∈ jTB ∧ Cond.initialized "java/lang/Math" ∈ jTB ∧ Cond.code Lib.Math.abs.name Lib.Math.abs.code 1 (some .int) ∈ jTB) (hd1 : 0 < d) (hW : (st.map fun v => v.category).sum ≤ 8) (k : J g y d K n ls (.int (if 0 ≤ a then a else 0 - a) :: st) M) : J g y d K pc ls (.int a :: st) M := by
  intro p e s m args below meth c A H locs lr C hP hD hS hL
  subst hn
  obtain ⟨hx, hb, hml, hown, hts, hr, hlk, hK, hS0, hA⟩ := id C
  exact va_mabs hx hb (by rw [hml]; exact hL.1.symm) hown (hts _ (List.mem_cons_of_mem _ hl)) (hts _ (List.mem_cons_of_mem _ hw.1)) (hts _ (List.mem_cons_of_mem _ hw.2.1)) (hts _ (List.mem_cons_of_mem _ hw.2.2)) (by show 1 ≤ d; omega) (by show _ ≤ 40 * d; omega) (Nat.le_refl _) (Nat.le_refl _) hd (k p e s m args below meth c A H locs lr C hP hD hS hL)
end JR
end
section
theorem tb_1 {w : Cond} (i : Nat) (h : tables_1_1[i]? = some w) (hg : goodWord w = true) : w ∈ jTB := jTB_in (List.mem_append_right _ (List.mem_append_left _ (List.mem_of_getElem? h))) hg
theorem tb_2 {w : Cond} (i : Nat) (h : tables_1_2[i]? = some w) (hg : goodWord w = true) : w ∈ jTB := jTB_in (List.mem_append_right _ (List.mem_append_right _ (List.mem_append_left _ (List.mem_of_getElem? h)))) hg
theorem tb_3 {w : Cond} (i : Nat) (h : tables_1_3[i]? = some w) (hg : goodWord w = true) : w ∈ jTB := jTB_in (List.mem_append_right _ (List.mem_append_right _ (List.mem_append_right _ (List.mem_append_left _ (List.mem_of_getElem? h))))) hg
theorem tb_4 {w : Cond} (i : Nat) (h : tables_1_4[i]? = some w) (hg : goodWord w = true) : w ∈ jTB := jTB_in (List.mem_append_right _ (List.mem_append_right _ (List.mem_append_right _ (List.mem_append_right _ (List.mem_of_getElem? h))))) hg
theorem tb_0 {w : Cond} (h : w ∈ k2_sels lw_privs) (hg : goodWord w = true) : w ∈ jTB := jTB_in (List.mem_append_left _ h) hg
def jJ13_bitCount_95d88 : jY := (yJ13_bitCount_95d88, cJ13_bitCount_95d88, 2, (some .int))
def jJ13_numberOfTrailingZeros_95d88 : jY := (yJ13_numberOfTrailingZeros_95d88, cJ13_numberOfTrailingZeros_95d88, 3, (some .int))
def jJ6_bitCount_0f7a4 : jY := (yJ6_bitCount_0f7a4, cJ6_bitCount_0f7a4, 1, (some .int))
def jJ6_numberOfTrailingZeros_0f7a4 : jY := (yJ6_numberOfTrailingZeros_0f7a4, cJ6_numberOfTrailingZeros_0f7a4, 2, (some .int))
def jJ7_fill_53178 : jY := (yJ7_fill_53178, cJ7_fill_53178, 4, none)
def jJ9_abs_0f7a4 : jY := (yJ9_abs_0f7a4, cJ9_abs_0f7a4, 1, (some .int))
def jJ9_max_7cf53 : jY := (yJ9_max_7cf53, cJ9_max_7cf53, 2, (some .int))
def jJ9_min_7cf53 : jY := (yJ9_min_7cf53, cJ9_min_7cf53, 2, (some .int))
def jX0_findWrongRows : jY := (yX0_findWrongRows, cX0_findWrongRows, 7, none)
def jX0_init : jY := (yX0_init, cX0_init, 1, none)
def jX0_leastFirst : jY := (yX0_leastFirst, cX0_leastFirst, 5, (some .int))
def jX0_partsSomeOrder : jY := (yX0_partsSomeOrder, cX0_partsSomeOrder, 6, (some .boolean))
def jX0_weighRows : jY := (yX0_weighRows, cX0_weighRows, 6, none)
def jX1_changePlaces : jY := (yX1_changePlaces, cX1_changePlaces, 5, none)
def jX1_compare : jY := (yX1_compare, cX1_compare, 3, none)
def jX1_find : jY := (yX1_find, cX1_find, 4, none)
def jX1_init : jY := (yX1_init, cX1_init, 1, none)
def jX1_meet : jY := (yX1_meet, cX1_meet, 3, none)
def jX1_members : jY := (yX1_members, cX1_members, 1, (some .int))
def jX1_turnInputs : jY := (yX1_turnInputs, cX1_turnInputs, 6, none)
def jX2_find : jY := (yX2_find, cX2_find, 6, (some .boolean))
def jX2_findFloors : jY := (yX2_findFloors, cX2_findFloors, 4, (some .int))
def jX2_init : jY := (yX2_init, cX2_init, 1, none)
def jX2_keepsOrder : jY := (yX2_keepsOrder, cX2_keepsOrder, 7, (some .boolean))
def jX2_raiseFloor : jY := (yX2_raiseFloor, cX2_raiseFloor, 3, none)
def jX2_separates : jY := (yX2_separates, cX2_separates, 2, (some .boolean))
def jX2_share : jY := (yX2_share, cX2_share, 7, (some .boolean))
def jX2_thousandthsOff : jY := (yX2_thousandthsOff, cX2_thousandthsOff, 5, (some .int))
def jX3_append : jY := (yX3_append, cX3_append, 3, (some .int))
def jX3_clear : jY := (yX3_clear, cX3_clear, 2, none)
def jX3_depthOf : jY := (yX3_depthOf, cX3_depthOf, 4, (some .int))
def jX3_init : jY := (yX3_init, cX3_init, 1, none)
def jX3_lastTold : jY := (yX3_lastTold, cX3_lastTold, 1, (some .long))
def jX3_lastToldWith : jY := (yX3_lastToldWith, cX3_lastToldWith, 4, (some .long))
def jX3_sumAt : jY := (yX3_sumAt, cX3_sumAt, 6, (some .int))
def jX3_swapNextWeight : jY := (yX3_swapNextWeight, cX3_swapNextWeight, 4, (some .int))
def jX3_toldBy : jY := (yX3_toldBy, cX3_toldBy, 6, (some .long))
def jX4_findEnds : jY := (yX4_findEnds, cX4_findEnds, 5, none)
def jX4_init : jY := (yX4_init, cX4_init, 1, none)
def jX4_setWeight : jY := (yX4_setWeight, cX4_setWeight, 5, none)
def jX5_all : jY := (yX5_all, cX5_all, 1, (some .long))
def jX5_hasInput : jY := (yX5_hasInput, cX5_hasInput, 2, (some .boolean))
def jX5_inputHeld : jY := (yX5_inputHeld, cX5_inputHeld, 11, (some .long))
def jX5_inputTurned : jY := (yX5_inputTurned, cX5_inputTurned, 6, (some .long))
def jX5_inputsSwapped : jY := (yX5_inputsSwapped, cX5_inputsSwapped, 9, (some .long))
def jX5_isOne : jY := (yX5_isOne, cX5_isOne, 3, (some .boolean))
def jX5_number : jY := (yX5_number, cX5_number, 1, (some .int))
def jX5_onesWith : jY := (yX5_onesWith, cX5_onesWith, 3, (some .int))
def jX6_find : jY := (yX6_find, cX6_find, 5, (some .boolean))
def jX6_findSecond : jY := (yX6_findSecond, cX6_findSecond, 6, (some .boolean))
def jX6_findZeros : jY := (yX6_findZeros, cX6_findZeros, 10, (some .boolean))
def jX6_init : jY := (yX6_init, cX6_init, 1, none)
def jX7_add : jY := (yX7_add, cX7_add, 2, (some .int))
def jX7_bits : jY := (yX7_bits, cX7_bits, 2, (some .long))
def jX7_bound : jY := (yX7_bound, cX7_bound, 2, (some .int))
def jX7_chief : jY := (yX7_chief, cX7_chief, 2, (some .long))
def jX7_count : jY := (yX7_count, cX7_count, 2, (some .int))
def jX7_depth : jY := (yX7_depth, cX7_depth, 2, (some .int))
def jX7_fewest : jY := (yX7_fewest, cX7_fewest, 2, (some .int))
def jX7_findLeast : jY := (yX7_findLeast, cX7_findLeast, 2, (some .boolean))
def jX7_first : jY := (yX7_first, cX7_first, 2, (some .int))
def jX7_gate : jY := (yX7_gate, cX7_gate, 2, (some .int))
def jX7_gates : jY := (yX7_gates, cX7_gates, 2, (some .int))
def jX7_hold : jY := (yX7_hold, cX7_hold, 6, (some .int))
def jX7_idle : jY := (yX7_idle, cX7_idle, 3, (some .int))
def jX7_init : jY := (yX7_init, cX7_init, 1, none)
def jX7_inputs : jY := (yX7_inputs, cX7_inputs, 2, (some .int))
def jX7_isGateOfNet : jY := (yX7_isGateOfNet, cX7_isGateOfNet, 2, (some .boolean))
def jX7_isInput : jY := (yX7_isInput, cX7_isInput, 3, (some .boolean))
def jX7_isSlot : jY := (yX7_isSlot, cX7_isSlot, 1, (some .boolean))
def jX7_isWithin : jY := (yX7_isWithin, cX7_isWithin, 3, (some .boolean))
def jX7_keep : jY := (yX7_keep, cX7_keep, 5, (some .int))
def jX7_kin : jY := (yX7_kin, cX7_kin, 2, (some .int))
def jX7_kinds : jY := (yX7_kinds, cX7_kinds, 3, (some .int))
def jX7_matters : jY := (yX7_matters, cX7_matters, 3, (some .int))
def jX7_most : jY := (yX7_most, cX7_most, 9, (some .int))
def jX7_net : jY := (yX7_net, cX7_net, 3, (some .int))
def jX7_ones : jY := (yX7_ones, cX7_ones, 3, (some .int))
def jX7_put : jY := (yX7_put, cX7_put, 3, (some .int))
def jX7_size : jY := (yX7_size, cX7_size, 2, (some .int))
def jX7_slack : jY := (yX7_slack, cX7_slack, 2, (some .int))
def jX7_sumAt : jY := (yX7_sumAt, cX7_sumAt, 8, (some .int))
def jX7_table : jY := (yX7_table, cX7_table, 5, (some .int))
def jX7_tell : jY := (yX7_tell, cX7_tell, 3, (some .int))
def jX7_tellsGate : jY := (yX7_tellsGate, cX7_tellsGate, 2, (some .boolean))
def jX7_turn : jY := (yX7_turn, cX7_turn, 7, (some .int))
def jX7_unlike : jY := (yX7_unlike, cX7_unlike, 4, (some .int))
def jX7_weigh : jY := (yX7_weigh, cX7_weigh, 9, (some .long))
def jX7_weight : jY := (yX7_weight, cX7_weight, 3, (some .int))
def jX7_witness : jY := (yX7_witness, cX7_witness, 3, (some .int))
def jX8_add : jY := (yX8_add, cX8_add, 3, (some .int))
def jX8_asThree : jY := (yX8_asThree, cX8_asThree, 6, (some .int))
def jX8_bits : jY := (yX8_bits, cX8_bits, 2, (some .long))
def jX8_bound : jY := (yX8_bound, cX8_bound, 2, (some .int))
def jX8_changed : jY := (yX8_changed, cX8_changed, 9, (some .long))
def jX8_chief : jY := (yX8_chief, cX8_chief, 2, (some .long))
def jX8_count : jY := (yX8_count, cX8_count, 2, (some .int))
def jX8_depth : jY := (yX8_depth, cX8_depth, 5, (some .int))
def jX8_falling : jY := (yX8_falling, cX8_falling, 8, (some .int))
def jX8_fewest : jY := (yX8_fewest, cX8_fewest, 3, (some .int))
def jX8_findOthers : jY := (yX8_findOthers, cX8_findOthers, 7, none)
def jX8_first : jY := (yX8_first, cX8_first, 3, (some .int))
def jX8_firstOf : jY := (yX8_firstOf, cX8_firstOf, 7, (some .int))
def jX8_gate : jY := (yX8_gate, cX8_gate, 2, (some .int))
def jX8_gates : jY := (yX8_gates, cX8_gates, 4, (some .int))
def jX8_hold : jY := (yX8_hold, cX8_hold, 11, (some .int))
def jX8_idle : jY := (yX8_idle, cX8_idle, 4, (some .int))
def jX8_in : jY := (yX8_in, cX8_in, 6, (some .boolean))
def jX8_init : jY := (yX8_init, cX8_init, 2, none)
def jX8_inputs : jY := (yX8_inputs, cX8_inputs, 2, (some .int))
def jX8_inputsGate : jY := (yX8_inputsGate, cX8_inputsGate, 2, (some .boolean))
def jX8_is : jY := (yX8_is, cX8_is, 3, (some .boolean))
def jX8_isGate : jY := (yX8_isGate, cX8_isGate, 6, (some .boolean))
def jX8_isInput : jY := (yX8_isInput, cX8_isInput, 3, (some .boolean))
def jX8_isNetGate : jY := (yX8_isNetGate, cX8_isNetGate, 2, (some .boolean))
def jX8_isSecond : jY := (yX8_isSecond, cX8_isSecond, 13, (some .boolean))
def jX8_isSlot : jY := (yX8_isSlot, cX8_isSlot, 1, (some .boolean))
def jX8_kin : jY := (yX8_kin, cX8_kin, 2, (some .int))
def jX8_kinds : jY := (yX8_kinds, cX8_kinds, 6, (some .int))
def jX8_layFalse : jY := (yX8_layFalse, cX8_layFalse, 6, none)
def jX8_layKind : jY := (yX8_layKind, cX8_layKind, 13, none)
def jX8_layThree : jY := (yX8_layThree, cX8_layThree, 5, none)
def jX8_matters : jY := (yX8_matters, cX8_matters, 3, (some .int))
def jX8_meet : jY := (yX8_meet, cX8_meet, 3, none)
def jX8_most : jY := (yX8_most, cX8_most, 5, (some .int))
def jX8_net : jY := (yX8_net, cX8_net, 4, (some .int))
def jX8_next : jY := (yX8_next, cX8_next, 7, (some .boolean))
def jX8_ones : jY := (yX8_ones, cX8_ones, 4, (some .int))
def jX8_ones_ : jY := (yX8_ones_, cX8_ones_, 5, (some .int))
def jX8_parts : jY := (yX8_parts, cX8_parts, 10, (some .boolean))
def jX8_put : jY := (yX8_put, cX8_put, 4, (some .int))
def jX8_set : jY := (yX8_set, cX8_set, 5, (some .int))
def jX8_size : jY := (yX8_size, cX8_size, 4, (some .int))
def jX8_slack : jY := (yX8_slack, cX8_slack, 7, (some .int))
def jX8_solve : jY := (yX8_solve, cX8_solve, 8, none)
def jX8_sumOf : jY := (yX8_sumOf, cX8_sumOf, 5, (some .int))
def jX8_table : jY := (yX8_table, cX8_table, 5, (some .int))
def jX8_tell : jY := (yX8_tell, cX8_tell, 3, (some .int))
def jX8_turn : jY := (yX8_turn, cX8_turn, 6, (some .int))
def jX8_turned : jY := (yX8_turned, cX8_turned, 7, (some .long))
def jX8_unlike : jY := (yX8_unlike, cX8_unlike, 3, (some .int))
def jX8_weigh : jY := (yX8_weigh, cX8_weigh, 13, (some .long))
def jX8_weight : jY := (yX8_weight, cX8_weight, 3, (some .int))
def jX8_whole : jY := (yX8_whole, cX8_whole, 1, (some .long))
def jX8_witness : jY := (yX8_witness, cX8_witness, 3, (some .int))
def jX8_work : jY := (yX8_work, cX8_work, 9, none)
theorem jcl0_a : ∀ w ∈ u_ws RX0 TX0 4, w ∈ lw_tbl ∧ goodWord w = true := by decide +kernel
theorem jcl0 : jCls 0 (RX0, TX0, 4) := ⟨rfl, fun w h => jTB_in (jcl0_a w h).1 (jcl0_a w h).2⟩
theorem jcl1_a : ∀ w ∈ u_ws RX1 TX1 4, w ∈ lw_tbl ∧ goodWord w = true := by decide +kernel
theorem jcl1 : jCls 1 (RX1, TX1, 4) := ⟨rfl, fun w h => jTB_in (jcl1_a w h).1 (jcl1_a w h).2⟩
theorem jcl2_a : ∀ w ∈ u_ws RX2 TX2 8, w ∈ lw_tbl ∧ goodWord w = true := by decide +kernel
theorem jcl2 : jCls 2 (RX2, TX2, 8) := ⟨rfl, fun w h => jTB_in (jcl2_a w h).1 (jcl2_a w h).2⟩
theorem jcl3_a : ∀ w ∈ u_ws RX3 TX3 7, w ∈ lw_tbl ∧ goodWord w = true := by decide +kernel
theorem jcl3 : jCls 3 (RX3, TX3, 7) := ⟨rfl, fun w h => jTB_in (jcl3_a w h).1 (jcl3_a w h).2⟩
theorem jcl4_a : ∀ w ∈ u_ws RX4 TX4 3, w ∈ lw_tbl ∧ goodWord w = true := by decide +kernel
theorem jcl4 : jCls 4 (RX4, TX4, 3) := ⟨rfl, fun w h => jTB_in (jcl4_a w h).1 (jcl4_a w h).2⟩
theorem jcl5_a : ∀ w ∈ u_ws RX6 TX6 1, w ∈ lw_tbl ∧ goodWord w = true := by decide +kernel
theorem jcl5 : jCls 5 (RX6, TX6, 1) := ⟨rfl, fun w h => jTB_in (jcl5_a w h).1 (jcl5_a w h).2⟩
theorem jcl6_a : ∀ w ∈ u_ws RX7 TX7 7, w ∈ lw_tbl ∧ goodWord w = true := by decide +kernel
theorem jcl6 : jCls 6 (RX7, TX7, 7) := ⟨rfl, fun w h => jTB_in (jcl6_a w h).1 (jcl6_a w h).2⟩
theorem jcl7_a : ∀ w ∈ u_ws RX8 TX8 26, w ∈ lw_tbl ∧ goodWord w = true := by decide +kernel
theorem jcl7 : jCls 7 (RX8, TX8, 26) := ⟨rfl, fun w h => jTB_in (jcl7_a w h).1 (jcl7_a w h).2⟩
theorem cal_J13_bitCount_95d88 : jCalS jJ13_bitCount_95d88 1 := ⟨tb_1 215 (by decide +kernel) rfl, tb_1 214 (by decide +kernel) rfl, tb_1 11 (by decide +kernel) rfl, by decide +kernel, by decide⟩
theorem cal_J13_numberOfTrailingZeros_95d88 : jCalS jJ13_numberOfTrailingZeros_95d88 1 := ⟨tb_3 59 (by decide +kernel) rfl, tb_3 58 (by decide +kernel) rfl, tb_1 11 (by decide +kernel) rfl, by decide +kernel, by decide⟩
theorem cal_J6_bitCount_0f7a4 : jCalS jJ6_bitCount_0f7a4 1 := ⟨tb_2 144 (by decide +kernel) rfl, tb_2 143 (by decide +kernel) rfl, tb_1 13 (by decide +kernel) rfl, by decide +kernel, by decide⟩
theorem cal_J6_numberOfTrailingZeros_0f7a4 : jCalS jJ6_numberOfTrailingZeros_0f7a4 1 := ⟨tb_2 177 (by decide +kernel) rfl, tb_2 176 (by decide +kernel) rfl, tb_1 13 (by decide +kernel) rfl, by decide +kernel, by decide⟩
theorem cal_J7_fill_53178 : jCalS jJ7_fill_53178 2 := ⟨tb_1 170 (by decide +kernel) rfl, tb_1 169 (by decide +kernel) rfl, tb_1 8 (by decide +kernel) rfl, by decide +kernel, by decide⟩
theorem cal_X0_findWrongRows : jCalV jX0_findWrongRows 3 := ⟨tb_2 229 (by decide +kernel) rfl, ⟨tb_2 228 (by decide +kernel) rfl, tb_0 (by decide +kernel) rfl⟩, tb_1 6 (by decide +kernel) rfl, by decide +kernel, by decide⟩
theorem cal_X0_leastFirst : jCalV jX0_leastFirst 2 := ⟨tb_2 217 (by decide +kernel) rfl, ⟨tb_2 215 (by decide +kernel) rfl, tb_2 216 (by decide +kernel) rfl⟩, tb_1 6 (by decide +kernel) rfl, by decide +kernel, by decide⟩
theorem cal_X0_partsSomeOrder : jCalV jX0_partsSomeOrder 1 := ⟨tb_2 237 (by decide +kernel) rfl, ⟨tb_2 236 (by decide +kernel) rfl, tb_0 (by decide +kernel) rfl⟩, tb_1 6 (by decide +kernel) rfl, by decide +kernel, by decide⟩
theorem cal_X0_weighRows : jCalV jX0_weighRows 2 := ⟨tb_2 221 (by decide +kernel) rfl, ⟨tb_2 220 (by decide +kernel) rfl, tb_0 (by decide +kernel) rfl⟩, tb_1 6 (by decide +kernel) rfl, by decide +kernel, by decide⟩
theorem cal_X1_changePlaces : jCalV jX1_changePlaces 2 := ⟨tb_2 161 (by decide +kernel) rfl, ⟨tb_2 160 (by decide +kernel) rfl, tb_0 (by decide +kernel) rfl⟩, tb_1 5 (by decide +kernel) rfl, by decide +kernel, by decide⟩
theorem cal_X1_compare : jCalV jX1_compare 1 := ⟨tb_2 173 (by decide +kernel) rfl, ⟨tb_2 172 (by decide +kernel) rfl, tb_0 (by decide +kernel) rfl⟩, tb_1 5 (by decide +kernel) rfl, by decide +kernel, by decide⟩
theorem cal_X1_find : jCalV jX1_find 2 := ⟨tb_2 157 (by decide +kernel) rfl, ⟨tb_2 155 (by decide +kernel) rfl, tb_2 156 (by decide +kernel) rfl⟩, tb_1 5 (by decide +kernel) rfl, by decide +kernel, by decide⟩
theorem cal_X1_meet : jCalV jX1_meet 1 := ⟨tb_2 169 (by decide +kernel) rfl, ⟨tb_2 168 (by decide +kernel) rfl, tb_0 (by decide +kernel) rfl⟩, tb_1 5 (by decide +kernel) rfl, by decide +kernel, by decide⟩
theorem cal_X1_members : jCalV jX1_members 0 := ⟨tb_2 191 (by decide +kernel) rfl, ⟨tb_2 189 (by decide +kernel) rfl, tb_2 190 (by decide +kernel) rfl⟩, tb_1 5 (by decide +kernel) rfl, by decide +kernel, by decide⟩
theorem cal_X1_turnInputs : jCalV jX1_turnInputs 1 := ⟨tb_2 165 (by decide +kernel) rfl, ⟨tb_2 164 (by decide +kernel) rfl, tb_0 (by decide +kernel) rfl⟩, tb_1 5 (by decide +kernel) rfl, by decide +kernel, by decide⟩
theorem cal_X2_find : jCalV jX2_find 2 := ⟨tb_2 75 (by decide +kernel) rfl, ⟨tb_2 73 (by decide +kernel) rfl, tb_2 74 (by decide +kernel) rfl⟩, tb_1 3 (by decide +kernel) rfl, by decide +kernel, by decide⟩
theorem cal_X2_findFloors : jCalV jX2_findFloors 0 := ⟨tb_2 81 (by decide +kernel) rfl, ⟨tb_2 80 (by decide +kernel) rfl, tb_0 (by decide +kernel) rfl⟩, tb_1 3 (by decide +kernel) rfl, by decide +kernel, by decide⟩
theorem cal_X2_keepsOrder : jCalV jX2_keepsOrder 2 := ⟨tb_2 116 (by decide +kernel) rfl, ⟨tb_2 115 (by decide +kernel) rfl, tb_0 (by decide +kernel) rfl⟩, tb_1 3 (by decide +kernel) rfl, by decide +kernel, by decide⟩
theorem cal_X2_raiseFloor : jCalV jX2_raiseFloor 1 := ⟨tb_2 85 (by decide +kernel) rfl, ⟨tb_2 84 (by decide +kernel) rfl, tb_0 (by decide +kernel) rfl⟩, tb_1 3 (by decide +kernel) rfl, by decide +kernel, by decide⟩
theorem cal_X2_separates : jCalV jX2_separates 0 := ⟨tb_2 99 (by decide +kernel) rfl, ⟨tb_2 98 (by decide +kernel) rfl, tb_0 (by decide +kernel) rfl⟩, tb_1 3 (by decide +kernel) rfl, by decide +kernel, by decide⟩
theorem cal_X2_share : jCalV jX2_share 2 := ⟨tb_2 95 (by decide +kernel) rfl, ⟨tb_2 94 (by decide +kernel) rfl, tb_0 (by decide +kernel) rfl⟩, tb_1 3 (by decide +kernel) rfl, by decide +kernel, by decide⟩
theorem cal_X2_thousandthsOff : jCalV jX2_thousandthsOff 0 := ⟨tb_2 140 (by decide +kernel) rfl, ⟨tb_2 138 (by decide +kernel) rfl, tb_2 139 (by decide +kernel) rfl⟩, tb_1 3 (by decide +kernel) rfl, by decide +kernel, by decide⟩
theorem cal_X3_append : jCalV jX3_append 1 := ⟨tb_3 24 (by decide +kernel) rfl, ⟨tb_3 22 (by decide +kernel) rfl, tb_3 23 (by decide +kernel) rfl⟩, tb_1 7 (by decide +kernel) rfl, by decide +kernel, by decide⟩
theorem cal_X3_clear : jCalV jX3_clear 1 := ⟨tb_3 7 (by decide +kernel) rfl, ⟨tb_3 5 (by decide +kernel) rfl, tb_3 6 (by decide +kernel) rfl⟩, tb_1 7 (by decide +kernel) rfl, by decide +kernel, by decide⟩
theorem cal_X3_depthOf : jCalV jX3_depthOf 1 := ⟨tb_3 39 (by decide +kernel) rfl, ⟨tb_3 38 (by decide +kernel) rfl, tb_0 (by decide +kernel) rfl⟩, tb_1 7 (by decide +kernel) rfl, by decide +kernel, by decide⟩
theorem cal_X3_lastTold : jCalV jX3_lastTold 0 := ⟨tb_3 56 (by decide +kernel) rfl, ⟨tb_3 54 (by decide +kernel) rfl, tb_3 55 (by decide +kernel) rfl⟩, tb_1 7 (by decide +kernel) rfl, by decide +kernel, by decide⟩
theorem cal_X3_lastToldWith : jCalV jX3_lastToldWith 2 := ⟨tb_3 72 (by decide +kernel) rfl, ⟨tb_3 70 (by decide +kernel) rfl, tb_3 71 (by decide +kernel) rfl⟩, tb_1 7 (by decide +kernel) rfl, by decide +kernel, by decide⟩
theorem cal_X3_sumAt : jCalV jX3_sumAt 3 := ⟨tb_3 33 (by decide +kernel) rfl, ⟨tb_3 32 (by decide +kernel) rfl, tb_0 (by decide +kernel) rfl⟩, tb_1 7 (by decide +kernel) rfl, by decide +kernel, by decide⟩
theorem cal_X3_swapNextWeight : jCalV jX3_swapNextWeight 2 := ⟨tb_3 16 (by decide +kernel) rfl, ⟨tb_3 14 (by decide +kernel) rfl, tb_3 15 (by decide +kernel) rfl⟩, tb_1 7 (by decide +kernel) rfl, by decide +kernel, by decide⟩
theorem cal_X3_toldBy : jCalV jX3_toldBy 2 := ⟨tb_3 28 (by decide +kernel) rfl, ⟨tb_3 27 (by decide +kernel) rfl, tb_0 (by decide +kernel) rfl⟩, tb_1 7 (by decide +kernel) rfl, by decide +kernel, by decide⟩
theorem cal_X4_findEnds : jCalV jX4_findEnds 2 := ⟨tb_2 103 (by decide +kernel) rfl, ⟨tb_2 101 (by decide +kernel) rfl, tb_2 102 (by decide +kernel) rfl⟩, tb_1 4 (by decide +kernel) rfl, by decide +kernel, by decide⟩
theorem cal_X4_setWeight : jCalV jX4_setWeight 2 := ⟨tb_2 120 (by decide +kernel) rfl, ⟨tb_2 118 (by decide +kernel) rfl, tb_2 119 (by decide +kernel) rfl⟩, tb_1 4 (by decide +kernel) rfl, by decide +kernel, by decide⟩
theorem cal_X5_all : jCalS jX5_all 1 := ⟨tb_1 205 (by decide +kernel) rfl, tb_1 204 (by decide +kernel) rfl, tb_1 10 (by decide +kernel) rfl, by decide +kernel, by decide⟩
theorem cal_X5_hasInput : jCalS jX5_hasInput 2 := ⟨tb_1 232 (by decide +kernel) rfl, tb_1 231 (by decide +kernel) rfl, tb_1 10 (by decide +kernel) rfl, by decide +kernel, by decide⟩
theorem cal_X5_inputHeld : jCalS jX5_inputHeld 4 := ⟨tb_2 26 (by decide +kernel) rfl, tb_2 25 (by decide +kernel) rfl, tb_1 10 (by decide +kernel) rfl, by decide +kernel, by decide⟩
theorem cal_X5_inputTurned : jCalS jX5_inputTurned 2 := ⟨tb_2 17 (by decide +kernel) rfl, tb_2 16 (by decide +kernel) rfl, tb_1 10 (by decide +kernel) rfl, by decide +kernel, by decide⟩
theorem cal_X5_inputsSwapped : jCalS jX5_inputsSwapped 3 := ⟨tb_2 182 (by decide +kernel) rfl, tb_2 181 (by decide +kernel) rfl, tb_1 10 (by decide +kernel) rfl, by decide +kernel, by decide⟩
theorem cal_X5_isOne : jCalS jX5_isOne 2 := ⟨tb_2 29 (by decide +kernel) rfl, tb_2 28 (by decide +kernel) rfl, tb_1 10 (by decide +kernel) rfl, by decide +kernel, by decide⟩
theorem cal_X5_number : jCalS jX5_number 1 := ⟨tb_1 208 (by decide +kernel) rfl, tb_1 207 (by decide +kernel) rfl, tb_1 10 (by decide +kernel) rfl, by decide +kernel, by decide⟩
theorem cal_X5_onesWith : jCalS jX5_onesWith 2 := ⟨tb_2 40 (by decide +kernel) rfl, tb_2 39 (by decide +kernel) rfl, tb_1 10 (by decide +kernel) rfl, by decide +kernel, by decide⟩
theorem cal_X6_find : jCalV jX6_find 2 := ⟨tb_2 53 (by decide +kernel) rfl, ⟨tb_2 51 (by decide +kernel) rfl, tb_2 52 (by decide +kernel) rfl⟩, tb_1 2 (by decide +kernel) rfl, by decide +kernel, by decide⟩
theorem cal_X6_findSecond : jCalV jX6_findSecond 3 := ⟨tb_2 59 (by decide +kernel) rfl, ⟨tb_2 58 (by decide +kernel) rfl, tb_0 (by decide +kernel) rfl⟩, tb_1 2 (by decide +kernel) rfl, by decide +kernel, by decide⟩
theorem cal_X6_findZeros : jCalV jX6_findZeros 3 := ⟨tb_2 63 (by decide +kernel) rfl, ⟨tb_2 62 (by decide +kernel) rfl, tb_0 (by decide +kernel) rfl⟩, tb_1 2 (by decide +kernel) rfl, by decide +kernel, by decide⟩
theorem cal_X7_add : jCalV jX7_add 1 := ⟨tb_3 20 (by decide +kernel) rfl, ⟨tb_3 18 (by decide +kernel) rfl, tb_3 19 (by decide +kernel) rfl⟩, tb_1 1 (by decide +kernel) rfl, by decide +kernel, by decide⟩
theorem cal_X7_bits : jCalV jX7_bits 1 := ⟨tb_1 237 (by decide +kernel) rfl, ⟨tb_1 235 (by decide +kernel) rfl, tb_1 236 (by decide +kernel) rfl⟩, tb_1 1 (by decide +kernel) rfl, by decide +kernel, by decide⟩
theorem cal_X7_bound : jCalV jX7_bound 1 := ⟨tb_2 124 (by decide +kernel) rfl, ⟨tb_2 122 (by decide +kernel) rfl, tb_2 123 (by decide +kernel) rfl⟩, tb_1 1 (by decide +kernel) rfl, by decide +kernel, by decide⟩
theorem cal_X7_chief : jCalV jX7_chief 1 := ⟨tb_2 152 (by decide +kernel) rfl, ⟨tb_2 150 (by decide +kernel) rfl, tb_2 151 (by decide +kernel) rfl⟩, tb_1 1 (by decide +kernel) rfl, by decide +kernel, by decide⟩
theorem cal_X7_count : jCalV jX7_count 1 := ⟨tb_3 77 (by decide +kernel) rfl, ⟨tb_3 75 (by decide +kernel) rfl, tb_3 76 (by decide +kernel) rfl⟩, tb_1 1 (by decide +kernel) rfl, by decide +kernel, by decide⟩
theorem cal_X7_depth : jCalV jX7_depth 1 := ⟨tb_3 64 (by decide +kernel) rfl, ⟨tb_3 62 (by decide +kernel) rfl, tb_3 63 (by decide +kernel) rfl⟩, tb_1 1 (by decide +kernel) rfl, by decide +kernel, by decide⟩
theorem cal_X7_fewest : jCalV jX7_fewest 1 := ⟨tb_2 209 (by decide +kernel) rfl, ⟨tb_2 207 (by decide +kernel) rfl, tb_2 208 (by decide +kernel) rfl⟩, tb_1 1 (by decide +kernel) rfl, by decide +kernel, by decide⟩
theorem cal_X7_findLeast : jCalV jX7_findLeast 1 := ⟨tb_2 71 (by decide +kernel) rfl, ⟨tb_2 70 (by decide +kernel) rfl, tb_0 (by decide +kernel) rfl⟩, tb_1 1 (by decide +kernel) rfl, by decide +kernel, by decide⟩
theorem cal_X7_first : jCalV jX7_first 1 := ⟨tb_2 213 (by decide +kernel) rfl, ⟨tb_2 211 (by decide +kernel) rfl, tb_2 212 (by decide +kernel) rfl⟩, tb_1 1 (by decide +kernel) rfl, by decide +kernel, by decide⟩
theorem cal_X7_gate : jCalV jX7_gate 1 := ⟨tb_2 45 (by decide +kernel) rfl, ⟨tb_2 43 (by decide +kernel) rfl, tb_2 44 (by decide +kernel) rfl⟩, tb_1 1 (by decide +kernel) rfl, by decide +kernel, by decide⟩
theorem cal_X7_gates : jCalV jX7_gates 1 := ⟨tb_2 195 (by decide +kernel) rfl, ⟨tb_2 193 (by decide +kernel) rfl, tb_2 194 (by decide +kernel) rfl⟩, tb_1 1 (by decide +kernel) rfl, by decide +kernel, by decide⟩
theorem cal_X7_hold : jCalV jX7_hold 4 := ⟨tb_2 23 (by decide +kernel) rfl, ⟨tb_2 21 (by decide +kernel) rfl, tb_2 22 (by decide +kernel) rfl⟩, tb_1 1 (by decide +kernel) rfl, by decide +kernel, by decide⟩
theorem cal_X7_idle : jCalV jX7_idle 2 := ⟨tb_3 68 (by decide +kernel) rfl, ⟨tb_3 66 (by decide +kernel) rfl, tb_3 67 (by decide +kernel) rfl⟩, tb_1 1 (by decide +kernel) rfl, by decide +kernel, by decide⟩
theorem cal_X7_inputs : jCalV jX7_inputs 1 := ⟨tb_2 1 (by decide +kernel) rfl, ⟨tb_1 239 (by decide +kernel) rfl, tb_2 0 (by decide +kernel) rfl⟩, tb_1 1 (by decide +kernel) rfl, by decide +kernel, by decide⟩
theorem cal_X7_isGateOfNet : jCalV jX7_isGateOfNet 1 := ⟨tb_3 48 (by decide +kernel) rfl, ⟨tb_3 47 (by decide +kernel) rfl, tb_0 (by decide +kernel) rfl⟩, tb_1 1 (by decide +kernel) rfl, by decide +kernel, by decide⟩
theorem cal_X7_isInput : jCalV jX7_isInput 2 := ⟨tb_2 14 (by decide +kernel) rfl, ⟨tb_2 13 (by decide +kernel) rfl, tb_0 (by decide +kernel) rfl⟩, tb_1 1 (by decide +kernel) rfl, by decide +kernel, by decide⟩
theorem cal_X7_isSlot : jCalS jX7_isSlot 1 := ⟨tb_1 199 (by decide +kernel) rfl, tb_1 198 (by decide +kernel) rfl, tb_1 1 (by decide +kernel) rfl, by decide +kernel, by decide⟩
theorem cal_X7_isWithin : jCalS jX7_isWithin 3 := ⟨tb_1 202 (by decide +kernel) rfl, tb_1 201 (by decide +kernel) rfl, tb_1 1 (by decide +kernel) rfl, by decide +kernel, by decide⟩
theorem cal_X7_keep : jCalV jX7_keep 3 := ⟨tb_1 212 (by decide +kernel) rfl, ⟨tb_1 211 (by decide +kernel) rfl, tb_0 (by decide +kernel) rfl⟩, tb_1 1 (by decide +kernel) rfl, by decide +kernel, by decide⟩
theorem cal_X7_kin : jCalV jX7_kin 1 := ⟨tb_2 187 (by decide +kernel) rfl, ⟨tb_2 185 (by decide +kernel) rfl, tb_2 186 (by decide +kernel) rfl⟩, tb_1 1 (by decide +kernel) rfl, by decide +kernel, by decide⟩
theorem cal_X7_kinds : jCalV jX7_kinds 2 := ⟨tb_2 201 (by decide +kernel) rfl, ⟨tb_2 199 (by decide +kernel) rfl, tb_2 200 (by decide +kernel) rfl⟩, tb_1 1 (by decide +kernel) rfl, by decide +kernel, by decide⟩
theorem cal_X7_matters : jCalV jX7_matters 2 := ⟨tb_2 33 (by decide +kernel) rfl, ⟨tb_2 31 (by decide +kernel) rfl, tb_2 32 (by decide +kernel) rfl⟩, tb_1 1 (by decide +kernel) rfl, by decide +kernel, by decide⟩
theorem cal_X7_most : jCalV jX7_most 4 := ⟨tb_2 5 (by decide +kernel) rfl, ⟨tb_2 3 (by decide +kernel) rfl, tb_2 4 (by decide +kernel) rfl⟩, tb_1 1 (by decide +kernel) rfl, by decide +kernel, by decide⟩
theorem cal_X7_net : jCalV jX7_net 1 := ⟨tb_3 3 (by decide +kernel) rfl, ⟨tb_3 1 (by decide +kernel) rfl, tb_3 2 (by decide +kernel) rfl⟩, tb_1 1 (by decide +kernel) rfl, by decide +kernel, by decide⟩
theorem cal_X7_ones : jCalV jX7_ones 2 := ⟨tb_2 37 (by decide +kernel) rfl, ⟨tb_2 35 (by decide +kernel) rfl, tb_2 36 (by decide +kernel) rfl⟩, tb_1 1 (by decide +kernel) rfl, by decide +kernel, by decide⟩
theorem cal_X7_put : jCalV jX7_put 2 := ⟨tb_3 12 (by decide +kernel) rfl, ⟨tb_3 10 (by decide +kernel) rfl, tb_3 11 (by decide +kernel) rfl⟩, tb_1 1 (by decide +kernel) rfl, by decide +kernel, by decide⟩
theorem cal_X7_size : jCalV jX7_size 1 := ⟨tb_2 128 (by decide +kernel) rfl, ⟨tb_2 126 (by decide +kernel) rfl, tb_2 127 (by decide +kernel) rfl⟩, tb_1 1 (by decide +kernel) rfl, by decide +kernel, by decide⟩
theorem cal_X7_slack : jCalV jX7_slack 1 := ⟨tb_2 136 (by decide +kernel) rfl, ⟨tb_2 134 (by decide +kernel) rfl, tb_2 135 (by decide +kernel) rfl⟩, tb_1 1 (by decide +kernel) rfl, by decide +kernel, by decide⟩
theorem cal_X7_sumAt : jCalS jX7_sumAt 3 := ⟨tb_1 229 (by decide +kernel) rfl, tb_1 228 (by decide +kernel) rfl, tb_1 1 (by decide +kernel) rfl, by decide +kernel, by decide⟩
theorem cal_X7_table : jCalV jX7_table 3 := ⟨tb_1 196 (by decide +kernel) rfl, ⟨tb_1 194 (by decide +kernel) rfl, tb_1 195 (by decide +kernel) rfl⟩, tb_1 1 (by decide +kernel) rfl, by decide +kernel, by decide⟩
theorem cal_X7_tell : jCalV jX7_tell 2 := ⟨tb_3 44 (by decide +kernel) rfl, ⟨tb_3 42 (by decide +kernel) rfl, tb_3 43 (by decide +kernel) rfl⟩, tb_1 1 (by decide +kernel) rfl, by decide +kernel, by decide⟩
theorem cal_X7_tellsGate : jCalV jX7_tellsGate 1 := ⟨tb_2 49 (by decide +kernel) rfl, ⟨tb_2 48 (by decide +kernel) rfl, tb_0 (by decide +kernel) rfl⟩, tb_1 1 (by decide +kernel) rfl, by decide +kernel, by decide⟩
theorem cal_X7_turn : jCalV jX7_turn 3 := ⟨tb_2 9 (by decide +kernel) rfl, ⟨tb_2 7 (by decide +kernel) rfl, tb_2 8 (by decide +kernel) rfl⟩, tb_1 1 (by decide +kernel) rfl, by decide +kernel, by decide⟩
theorem cal_X7_unlike : jCalV jX7_unlike 1 := ⟨tb_3 52 (by decide +kernel) rfl, ⟨tb_3 50 (by decide +kernel) rfl, tb_3 51 (by decide +kernel) rfl⟩, tb_1 1 (by decide +kernel) rfl, by decide +kernel, by decide⟩
theorem cal_X7_weigh : jCalV jX7_weigh 4 := ⟨tb_1 222 (by decide +kernel) rfl, ⟨tb_1 220 (by decide +kernel) rfl, tb_1 221 (by decide +kernel) rfl⟩, tb_1 1 (by decide +kernel) rfl, by decide +kernel, by decide⟩
theorem cal_X7_weight : jCalV jX7_weight 2 := ⟨tb_2 67 (by decide +kernel) rfl, ⟨tb_2 65 (by decide +kernel) rfl, tb_2 66 (by decide +kernel) rfl⟩, tb_1 1 (by decide +kernel) rfl, by decide +kernel, by decide⟩
theorem cal_X7_witness : jCalV jX7_witness 2 := ⟨tb_2 132 (by decide +kernel) rfl, ⟨tb_2 130 (by decide +kernel) rfl, tb_2 131 (by decide +kernel) rfl⟩, tb_1 1 (by decide +kernel) rfl, by decide +kernel, by decide⟩
theorem cal_X8_add : jCalV jX8_add 1 := ⟨tb_4 123 (by decide +kernel) rfl, ⟨tb_4 121 (by decide +kernel) rfl, tb_4 122 (by decide +kernel) rfl⟩, tb_1 9 (by decide +kernel) rfl, by decide +kernel, by decide⟩
theorem cal_X8_asThree : jCalS jX8_asThree 2 := ⟨tb_4 97 (by decide +kernel) rfl, tb_4 96 (by decide +kernel) rfl, tb_1 9 (by decide +kernel) rfl, by decide +kernel, by decide⟩
theorem cal_X8_bits : jCalV jX8_bits 1 := ⟨tb_3 203 (by decide +kernel) rfl, ⟨tb_3 201 (by decide +kernel) rfl, tb_3 202 (by decide +kernel) rfl⟩, tb_1 9 (by decide +kernel) rfl, by decide +kernel, by decide⟩
theorem cal_X8_bound : jCalV jX8_bound 1 := ⟨tb_4 43 (by decide +kernel) rfl, ⟨tb_4 41 (by decide +kernel) rfl, tb_4 42 (by decide +kernel) rfl⟩, tb_1 9 (by decide +kernel) rfl, by decide +kernel, by decide⟩
theorem cal_X8_changed : jCalV jX8_changed 2 := ⟨tb_4 69 (by decide +kernel) rfl, ⟨tb_4 68 (by decide +kernel) rfl, tb_0 (by decide +kernel) rfl⟩, tb_1 9 (by decide +kernel) rfl, by decide +kernel, by decide⟩
theorem cal_X8_chief : jCalV jX8_chief 1 := ⟨tb_4 60 (by decide +kernel) rfl, ⟨tb_4 58 (by decide +kernel) rfl, tb_4 59 (by decide +kernel) rfl⟩, tb_1 9 (by decide +kernel) rfl, by decide +kernel, by decide⟩
theorem cal_X8_count : jCalV jX8_count 1 := ⟨tb_4 153 (by decide +kernel) rfl, ⟨tb_4 151 (by decide +kernel) rfl, tb_4 152 (by decide +kernel) rfl⟩, tb_1 9 (by decide +kernel) rfl, by decide +kernel, by decide⟩
theorem cal_X8_depth : jCalV jX8_depth 1 := ⟨tb_4 145 (by decide +kernel) rfl, ⟨tb_4 143 (by decide +kernel) rfl, tb_4 144 (by decide +kernel) rfl⟩, tb_1 9 (by decide +kernel) rfl, by decide +kernel, by decide⟩
theorem cal_X8_falling : jCalV jX8_falling 2 := ⟨tb_4 23 (by decide +kernel) rfl, ⟨tb_4 22 (by decide +kernel) rfl, tb_0 (by decide +kernel) rfl⟩, tb_1 9 (by decide +kernel) rfl, by decide +kernel, by decide⟩
theorem cal_X8_fewest : jCalV jX8_fewest 1 := ⟨tb_4 90 (by decide +kernel) rfl, ⟨tb_4 88 (by decide +kernel) rfl, tb_4 89 (by decide +kernel) rfl⟩, tb_1 9 (by decide +kernel) rfl, by decide +kernel, by decide⟩
theorem cal_X8_findOthers : jCalV jX8_findOthers 2 := ⟨tb_4 19 (by decide +kernel) rfl, ⟨tb_4 18 (by decide +kernel) rfl, tb_0 (by decide +kernel) rfl⟩, tb_1 9 (by decide +kernel) rfl, by decide +kernel, by decide⟩
theorem cal_X8_first : jCalV jX8_first 1 := ⟨tb_4 109 (by decide +kernel) rfl, ⟨tb_4 107 (by decide +kernel) rfl, tb_4 108 (by decide +kernel) rfl⟩, tb_1 9 (by decide +kernel) rfl, by decide +kernel, by decide⟩
theorem cal_X8_firstOf : jCalV jX8_firstOf 2 := ⟨tb_4 94 (by decide +kernel) rfl, ⟨tb_4 93 (by decide +kernel) rfl, tb_0 (by decide +kernel) rfl⟩, tb_1 9 (by decide +kernel) rfl, by decide +kernel, by decide⟩
theorem cal_X8_gate : jCalV jX8_gate 1 := ⟨tb_3 239 (by decide +kernel) rfl, ⟨tb_3 237 (by decide +kernel) rfl, tb_3 238 (by decide +kernel) rfl⟩, tb_1 9 (by decide +kernel) rfl, by decide +kernel, by decide⟩
theorem cal_X8_gates : jCalV jX8_gates 1 := ⟨tb_4 81 (by decide +kernel) rfl, ⟨tb_4 79 (by decide +kernel) rfl, tb_4 80 (by decide +kernel) rfl⟩, tb_1 9 (by decide +kernel) rfl, by decide +kernel, by decide⟩
theorem cal_X8_hold : jCalV jX8_hold 4 := ⟨tb_3 227 (by decide +kernel) rfl, ⟨tb_3 225 (by decide +kernel) rfl, tb_3 226 (by decide +kernel) rfl⟩, tb_1 9 (by decide +kernel) rfl, by decide +kernel, by decide⟩
theorem cal_X8_idle : jCalV jX8_idle 2 := ⟨tb_4 149 (by decide +kernel) rfl, ⟨tb_4 147 (by decide +kernel) rfl, tb_4 148 (by decide +kernel) rfl⟩, tb_1 9 (by decide +kernel) rfl, by decide +kernel, by decide⟩
theorem cal_X8_in : jCalS jX8_in 3 := ⟨tb_3 176 (by decide +kernel) rfl, tb_3 175 (by decide +kernel) rfl, tb_1 9 (by decide +kernel) rfl, by decide +kernel, by decide⟩
theorem cal_X8_inputs : jCalV jX8_inputs 1 := ⟨tb_3 207 (by decide +kernel) rfl, ⟨tb_3 205 (by decide +kernel) rfl, tb_3 206 (by decide +kernel) rfl⟩, tb_1 9 (by decide +kernel) rfl, by decide +kernel, by decide⟩
theorem cal_X8_inputsGate : jCalV jX8_inputsGate 1 := ⟨tb_4 105 (by decide +kernel) rfl, ⟨tb_4 104 (by decide +kernel) rfl, tb_0 (by decide +kernel) rfl⟩, tb_1 9 (by decide +kernel) rfl, by decide +kernel, by decide⟩
theorem cal_X8_is : jCalS jX8_is 2 := ⟨tb_3 190 (by decide +kernel) rfl, tb_3 189 (by decide +kernel) rfl, tb_1 9 (by decide +kernel) rfl, by decide +kernel, by decide⟩
theorem cal_X8_isGate : jCalV jX8_isGate 2 := ⟨tb_4 7 (by decide +kernel) rfl, ⟨tb_4 6 (by decide +kernel) rfl, tb_0 (by decide +kernel) rfl⟩, tb_1 9 (by decide +kernel) rfl, by decide +kernel, by decide⟩
theorem cal_X8_isInput : jCalV jX8_isInput 2 := ⟨tb_3 220 (by decide +kernel) rfl, ⟨tb_3 219 (by decide +kernel) rfl, tb_0 (by decide +kernel) rfl⟩, tb_1 9 (by decide +kernel) rfl, by decide +kernel, by decide⟩
theorem cal_X8_isNetGate : jCalV jX8_isNetGate 1 := ⟨tb_4 133 (by decide +kernel) rfl, ⟨tb_4 132 (by decide +kernel) rfl, tb_0 (by decide +kernel) rfl⟩, tb_1 9 (by decide +kernel) rfl, by decide +kernel, by decide⟩
theorem cal_X8_isSecond : jCalV jX8_isSecond 3 := ⟨tb_4 101 (by decide +kernel) rfl, ⟨tb_4 100 (by decide +kernel) rfl, tb_0 (by decide +kernel) rfl⟩, tb_1 9 (by decide +kernel) rfl, by decide +kernel, by decide⟩
theorem cal_X8_isSlot : jCalS jX8_isSlot 1 := ⟨tb_3 172 (by decide +kernel) rfl, tb_3 171 (by decide +kernel) rfl, tb_1 9 (by decide +kernel) rfl, by decide +kernel, by decide⟩
theorem cal_X8_kin : jCalV jX8_kin 1 := ⟨tb_4 77 (by decide +kernel) rfl, ⟨tb_4 75 (by decide +kernel) rfl, tb_4 76 (by decide +kernel) rfl⟩, tb_1 9 (by decide +kernel) rfl, by decide +kernel, by decide⟩
theorem cal_X8_kinds : jCalV jX8_kinds 2 := ⟨tb_4 86 (by decide +kernel) rfl, ⟨tb_4 84 (by decide +kernel) rfl, tb_4 85 (by decide +kernel) rfl⟩, tb_1 9 (by decide +kernel) rfl, by decide +kernel, by decide⟩
theorem cal_X8_layFalse : jCalV jX8_layFalse 2 := ⟨tb_4 11 (by decide +kernel) rfl, ⟨tb_4 10 (by decide +kernel) rfl, tb_0 (by decide +kernel) rfl⟩, tb_1 9 (by decide +kernel) rfl, by decide +kernel, by decide⟩
theorem cal_X8_layKind : jCalV jX8_layKind 2 := ⟨tb_4 65 (by decide +kernel) rfl, ⟨tb_4 64 (by decide +kernel) rfl, tb_0 (by decide +kernel) rfl⟩, tb_1 9 (by decide +kernel) rfl, by decide +kernel, by decide⟩
theorem cal_X8_layThree : jCalV jX8_layThree 1 := ⟨tb_4 15 (by decide +kernel) rfl, ⟨tb_4 14 (by decide +kernel) rfl, tb_0 (by decide +kernel) rfl⟩, tb_1 9 (by decide +kernel) rfl, by decide +kernel, by decide⟩
theorem cal_X8_matters : jCalV jX8_matters 2 := ⟨tb_3 231 (by decide +kernel) rfl, ⟨tb_3 229 (by decide +kernel) rfl, tb_3 230 (by decide +kernel) rfl⟩, tb_1 9 (by decide +kernel) rfl, by decide +kernel, by decide⟩
theorem cal_X8_meet : jCalV jX8_meet 1 := ⟨tb_4 73 (by decide +kernel) rfl, ⟨tb_4 72 (by decide +kernel) rfl, tb_0 (by decide +kernel) rfl⟩, tb_1 9 (by decide +kernel) rfl, by decide +kernel, by decide⟩
theorem cal_X8_most : jCalV jX8_most 4 := ⟨tb_3 211 (by decide +kernel) rfl, ⟨tb_3 209 (by decide +kernel) rfl, tb_3 210 (by decide +kernel) rfl⟩, tb_1 9 (by decide +kernel) rfl, by decide +kernel, by decide⟩
theorem cal_X8_net : jCalV jX8_net 1 := ⟨tb_4 113 (by decide +kernel) rfl, ⟨tb_4 111 (by decide +kernel) rfl, tb_4 112 (by decide +kernel) rfl⟩, tb_1 9 (by decide +kernel) rfl, by decide +kernel, by decide⟩
theorem cal_X8_next : jCalV jX8_next 2 := ⟨tb_4 35 (by decide +kernel) rfl, ⟨tb_4 34 (by decide +kernel) rfl, tb_0 (by decide +kernel) rfl⟩, tb_1 9 (by decide +kernel) rfl, by decide +kernel, by decide⟩
theorem cal_X8_ones : jCalS jX8_ones 1 := ⟨tb_3 187 (by decide +kernel) rfl, tb_3 186 (by decide +kernel) rfl, tb_1 9 (by decide +kernel) rfl, by decide +kernel, by decide⟩
theorem cal_X8_ones_ : jCalV jX8_ones_ 2 := ⟨tb_3 235 (by decide +kernel) rfl, ⟨tb_3 233 (by decide +kernel) rfl, tb_3 234 (by decide +kernel) rfl⟩, tb_1 9 (by decide +kernel) rfl, by decide +kernel, by decide⟩
theorem cal_X8_parts : jCalV jX8_parts 3 := ⟨tb_4 27 (by decide +kernel) rfl, ⟨tb_4 26 (by decide +kernel) rfl, tb_0 (by decide +kernel) rfl⟩, tb_1 9 (by decide +kernel) rfl, by decide +kernel, by decide⟩
theorem cal_X8_put : jCalV jX8_put 2 := ⟨tb_4 117 (by decide +kernel) rfl, ⟨tb_4 115 (by decide +kernel) rfl, tb_4 116 (by decide +kernel) rfl⟩, tb_1 9 (by decide +kernel) rfl, by decide +kernel, by decide⟩
theorem cal_X8_set : jCalV jX8_set 3 := ⟨tb_3 184 (by decide +kernel) rfl, ⟨tb_3 183 (by decide +kernel) rfl, tb_0 (by decide +kernel) rfl⟩, tb_1 9 (by decide +kernel) rfl, by decide +kernel, by decide⟩
theorem cal_X8_size : jCalV jX8_size 1 := ⟨tb_4 47 (by decide +kernel) rfl, ⟨tb_4 45 (by decide +kernel) rfl, tb_4 46 (by decide +kernel) rfl⟩, tb_1 9 (by decide +kernel) rfl, by decide +kernel, by decide⟩
theorem cal_X8_slack : jCalV jX8_slack 1 := ⟨tb_4 56 (by decide +kernel) rfl, ⟨tb_4 54 (by decide +kernel) rfl, tb_4 55 (by decide +kernel) rfl⟩, tb_1 9 (by decide +kernel) rfl, by decide +kernel, by decide⟩
theorem cal_X8_solve : jCalV jX8_solve 2 := ⟨tb_4 3 (by decide +kernel) rfl, ⟨tb_4 2 (by decide +kernel) rfl, tb_0 (by decide +kernel) rfl⟩, tb_1 9 (by decide +kernel) rfl, by decide +kernel, by decide⟩
theorem cal_X8_sumOf : jCalV jX8_sumOf 2 := ⟨tb_4 31 (by decide +kernel) rfl, ⟨tb_4 30 (by decide +kernel) rfl, tb_0 (by decide +kernel) rfl⟩, tb_1 9 (by decide +kernel) rfl, by decide +kernel, by decide⟩
theorem cal_X8_table : jCalV jX8_table 3 := ⟨tb_3 169 (by decide +kernel) rfl, ⟨tb_3 167 (by decide +kernel) rfl, tb_3 168 (by decide +kernel) rfl⟩, tb_1 9 (by decide +kernel) rfl, by decide +kernel, by decide⟩
theorem cal_X8_tell : jCalV jX8_tell 2 := ⟨tb_4 129 (by decide +kernel) rfl, ⟨tb_4 127 (by decide +kernel) rfl, tb_4 128 (by decide +kernel) rfl⟩, tb_1 9 (by decide +kernel) rfl, by decide +kernel, by decide⟩
theorem cal_X8_turn : jCalV jX8_turn 3 := ⟨tb_3 215 (by decide +kernel) rfl, ⟨tb_3 213 (by decide +kernel) rfl, tb_3 214 (by decide +kernel) rfl⟩, tb_1 9 (by decide +kernel) rfl, by decide +kernel, by decide⟩
theorem cal_X8_turned : jCalS jX8_turned 3 := ⟨tb_3 223 (by decide +kernel) rfl, tb_3 222 (by decide +kernel) rfl, tb_1 9 (by decide +kernel) rfl, by decide +kernel, by decide⟩
theorem cal_X8_unlike : jCalV jX8_unlike 1 := ⟨tb_4 141 (by decide +kernel) rfl, ⟨tb_4 139 (by decide +kernel) rfl, tb_4 140 (by decide +kernel) rfl⟩, tb_1 9 (by decide +kernel) rfl, by decide +kernel, by decide⟩
theorem cal_X8_weigh : jCalV jX8_weigh 4 := ⟨tb_3 194 (by decide +kernel) rfl, ⟨tb_3 192 (by decide +kernel) rfl, tb_3 193 (by decide +kernel) rfl⟩, tb_1 9 (by decide +kernel) rfl, by decide +kernel, by decide⟩
theorem cal_X8_weight : jCalV jX8_weight 2 := ⟨tb_4 39 (by decide +kernel) rfl, ⟨tb_4 37 (by decide +kernel) rfl, tb_4 38 (by decide +kernel) rfl⟩, tb_1 9 (by decide +kernel) rfl, by decide +kernel, by decide⟩
theorem cal_X8_whole : jCalS jX8_whole 1 := ⟨tb_3 180 (by decide +kernel) rfl, tb_3 179 (by decide +kernel) rfl, tb_1 9 (by decide +kernel) rfl, by decide +kernel, by decide⟩
theorem cal_X8_witness : jCalV jX8_witness 2 := ⟨tb_4 51 (by decide +kernel) rfl, ⟨tb_4 49 (by decide +kernel) rfl, tb_4 50 (by decide +kernel) rfl⟩, tb_1 9 (by decide +kernel) rfl, by decide +kernel, by decide⟩
theorem cal_X8_work : jCalV jX8_work 2 := ⟨tb_4 137 (by decide +kernel) rfl, ⟨tb_4 136 (by decide +kernel) rfl, tb_0 (by decide +kernel) rfl⟩, tb_1 9 (by decide +kernel) rfl, by decide +kernel, by decide⟩
theorem ml_J13_311 : Cond.methodLink RJ13 311 yJ6_numberOfTrailingZeros_0f7a4 ∈ jTB := tb_3 60 (by decide +kernel) rfl
theorem ml_L_100 : Cond.methodLink RL 100 yX7_fewest ∈ jTB := tb_2 206 (by decide +kernel) rfl
theorem ml_L_103 : Cond.methodLink RL 103 yX8_fewest ∈ jTB := tb_4 87 (by decide +kernel) rfl
theorem ml_L_104 : Cond.methodLink RL 104 yX7_first ∈ jTB := tb_2 210 (by decide +kernel) rfl
theorem ml_L_107 : Cond.methodLink RL 107 yX8_first ∈ jTB := tb_4 106 (by decide +kernel) rfl
theorem ml_L_108 : Cond.methodLink RL 108 yX7_net ∈ jTB := tb_3 0 (by decide +kernel) rfl
theorem ml_L_111 : Cond.methodLink RL 111 yX8_net ∈ jTB := tb_4 110 (by decide +kernel) rfl
theorem ml_L_112 : Cond.methodLink RL 112 yX7_put ∈ jTB := tb_3 9 (by decide +kernel) rfl
theorem ml_L_115 : Cond.methodLink RL 115 yX8_put ∈ jTB := tb_4 114 (by decide +kernel) rfl
theorem ml_L_116 : Cond.methodLink RL 116 yX7_add ∈ jTB := tb_3 17 (by decide +kernel) rfl
theorem ml_L_119 : Cond.methodLink RL 119 yX8_add ∈ jTB := tb_4 120 (by decide +kernel) rfl
theorem ml_L_120 : Cond.methodLink RL 120 yX7_tell ∈ jTB := tb_3 41 (by decide +kernel) rfl
theorem ml_L_123 : Cond.methodLink RL 123 yX8_tell ∈ jTB := tb_4 126 (by decide +kernel) rfl
theorem ml_L_124 : Cond.methodLink RL 124 yX7_unlike ∈ jTB := tb_3 49 (by decide +kernel) rfl
theorem ml_L_127 : Cond.methodLink RL 127 yX8_unlike ∈ jTB := tb_4 138 (by decide +kernel) rfl
theorem ml_L_128 : Cond.methodLink RL 128 yX7_depth ∈ jTB := tb_3 61 (by decide +kernel) rfl
theorem ml_L_131 : Cond.methodLink RL 131 yX8_depth ∈ jTB := tb_4 142 (by decide +kernel) rfl
theorem ml_L_132 : Cond.methodLink RL 132 yX7_idle ∈ jTB := tb_3 65 (by decide +kernel) rfl
theorem ml_L_135 : Cond.methodLink RL 135 yX8_idle ∈ jTB := tb_4 146 (by decide +kernel) rfl
theorem ml_L_136 : Cond.methodLink RL 136 yX7_count ∈ jTB := tb_3 74 (by decide +kernel) rfl
theorem ml_L_139 : Cond.methodLink RL 139 yX8_count ∈ jTB := tb_4 150 (by decide +kernel) rfl
theorem ml_L_15 : Cond.methodLink RL 15 yX7_table ∈ jTB := tb_1 193 (by decide +kernel) rfl
theorem ml_L_19 : Cond.methodLink RL 19 yX8_table ∈ jTB := tb_3 166 (by decide +kernel) rfl
theorem ml_L_20 : Cond.methodLink RL 20 yX7_weigh ∈ jTB := tb_1 219 (by decide +kernel) rfl
theorem ml_L_24 : Cond.methodLink RL 24 yX8_weigh ∈ jTB := tb_3 191 (by decide +kernel) rfl
theorem ml_L_25 : Cond.methodLink RL 25 yX7_bits ∈ jTB := tb_1 234 (by decide +kernel) rfl
theorem ml_L_29 : Cond.methodLink RL 29 yX8_bits ∈ jTB := tb_3 200 (by decide +kernel) rfl
theorem ml_L_30 : Cond.methodLink RL 30 yX7_inputs ∈ jTB := tb_1 238 (by decide +kernel) rfl
theorem ml_L_34 : Cond.methodLink RL 34 yX8_inputs ∈ jTB := tb_3 204 (by decide +kernel) rfl
theorem ml_L_35 : Cond.methodLink RL 35 yX7_most ∈ jTB := tb_2 2 (by decide +kernel) rfl
theorem ml_L_39 : Cond.methodLink RL 39 yX8_most ∈ jTB := tb_3 208 (by decide +kernel) rfl
theorem ml_L_40 : Cond.methodLink RL 40 yX7_turn ∈ jTB := tb_2 6 (by decide +kernel) rfl
theorem ml_L_44 : Cond.methodLink RL 44 yX8_turn ∈ jTB := tb_3 212 (by decide +kernel) rfl
theorem ml_L_45 : Cond.methodLink RL 45 yX7_hold ∈ jTB := tb_2 20 (by decide +kernel) rfl
theorem ml_L_49 : Cond.methodLink RL 49 yX8_hold ∈ jTB := tb_3 224 (by decide +kernel) rfl
theorem ml_L_50 : Cond.methodLink RL 50 yX7_matters ∈ jTB := tb_2 30 (by decide +kernel) rfl
theorem ml_L_54 : Cond.methodLink RL 54 yX8_matters ∈ jTB := tb_3 228 (by decide +kernel) rfl
theorem ml_L_55 : Cond.methodLink RL 55 yX7_ones ∈ jTB := tb_2 34 (by decide +kernel) rfl
theorem ml_L_58 : Cond.methodLink RL 58 yX8_ones_ ∈ jTB := tb_3 232 (by decide +kernel) rfl
theorem ml_L_59 : Cond.methodLink RL 59 yX7_gate ∈ jTB := tb_2 42 (by decide +kernel) rfl
theorem ml_L_62 : Cond.methodLink RL 62 yX8_gate ∈ jTB := tb_3 236 (by decide +kernel) rfl
theorem ml_L_63 : Cond.methodLink RL 63 yX7_weight ∈ jTB := tb_2 64 (by decide +kernel) rfl
theorem ml_L_66 : Cond.methodLink RL 66 yX8_weight ∈ jTB := tb_4 36 (by decide +kernel) rfl
theorem ml_L_67 : Cond.methodLink RL 67 yX7_bound ∈ jTB := tb_2 121 (by decide +kernel) rfl
theorem ml_L_70 : Cond.methodLink RL 70 yX8_bound ∈ jTB := tb_4 40 (by decide +kernel) rfl
theorem ml_L_71 : Cond.methodLink RL 71 yX7_size ∈ jTB := tb_2 125 (by decide +kernel) rfl
theorem ml_L_74 : Cond.methodLink RL 74 yX8_size ∈ jTB := tb_4 44 (by decide +kernel) rfl
theorem ml_L_75 : Cond.methodLink RL 75 yX7_witness ∈ jTB := tb_2 129 (by decide +kernel) rfl
theorem ml_L_78 : Cond.methodLink RL 78 yX8_witness ∈ jTB := tb_4 48 (by decide +kernel) rfl
theorem ml_L_79 : Cond.methodLink RL 79 yX7_slack ∈ jTB := tb_2 133 (by decide +kernel) rfl
theorem ml_L_82 : Cond.methodLink RL 82 yX8_slack ∈ jTB := tb_4 53 (by decide +kernel) rfl
theorem ml_L_83 : Cond.methodLink RL 83 yX7_chief ∈ jTB := tb_2 149 (by decide +kernel) rfl
theorem ml_L_86 : Cond.methodLink RL 86 yX8_chief ∈ jTB := tb_4 57 (by decide +kernel) rfl
theorem ml_L_87 : Cond.methodLink RL 87 yX7_kin ∈ jTB := tb_2 184 (by decide +kernel) rfl
theorem ml_L_90 : Cond.methodLink RL 90 yX8_kin ∈ jTB := tb_4 74 (by decide +kernel) rfl
theorem ml_L_91 : Cond.methodLink RL 91 yX7_gates ∈ jTB := tb_2 192 (by decide +kernel) rfl
theorem ml_L_94 : Cond.methodLink RL 94 yX8_gates ∈ jTB := tb_4 78 (by decide +kernel) rfl
theorem ml_L_95 : Cond.methodLink RL 95 yX7_kinds ∈ jTB := tb_2 198 (by decide +kernel) rfl
theorem ml_L_99 : Cond.methodLink RL 99 yX8_kinds ∈ jTB := tb_4 83 (by decide +kernel) rfl
theorem ml_X0_32 : Cond.methodLink RX0 32 yX0_weighRows ∈ jTB := tb_2 218 (by decide +kernel) rfl
theorem ml_X0_36 : Cond.methodLink RX0 36 yX0_findWrongRows ∈ jTB := tb_2 226 (by decide +kernel) rfl
theorem ml_X0_40 : Cond.methodLink RX0 40 yX5_all ∈ jTB := tb_2 233 (by decide +kernel) rfl
theorem ml_X0_46 : Cond.methodLink RX0 46 yX0_partsSomeOrder ∈ jTB := tb_2 234 (by decide +kernel) rfl
theorem ml_X0_50 : Cond.methodLink RX0 50 yX6_find ∈ jTB := tb_2 238 (by decide +kernel) rfl
theorem ml_X0_59 : Cond.methodLink RX0 59 yX5_hasInput ∈ jTB := tb_2 224 (by decide +kernel) rfl
theorem ml_X0_63 : Cond.methodLink RX0 63 yX4_setWeight ∈ jTB := tb_2 225 (by decide +kernel) rfl
theorem ml_X0_66 : Cond.methodLink RX0 66 yX4_findEnds ∈ jTB := tb_2 230 (by decide +kernel) rfl
theorem ml_X0_70 : Cond.methodLink RX0 70 yX5_number ∈ jTB := tb_2 231 (by decide +kernel) rfl
theorem ml_X0_74 : Cond.methodLink RX0 74 yX5_isOne ∈ jTB := tb_2 232 (by decide +kernel) rfl
theorem ml_X1_23 : Cond.methodLink RX1 23 yX1_changePlaces ∈ jTB := tb_2 158 (by decide +kernel) rfl
theorem ml_X1_27 : Cond.methodLink RX1 27 yX1_turnInputs ∈ jTB := tb_2 162 (by decide +kernel) rfl
theorem ml_X1_31 : Cond.methodLink RX1 31 yX5_inputsSwapped ∈ jTB := tb_2 180 (by decide +kernel) rfl
theorem ml_X1_37 : Cond.methodLink RX1 37 yX1_meet ∈ jTB := tb_2 166 (by decide +kernel) rfl
theorem ml_X1_40 : Cond.methodLink RX1 40 yJ6_numberOfTrailingZeros_0f7a4 ∈ jTB := tb_2 175 (by decide +kernel) rfl
theorem ml_X1_46 : Cond.methodLink RX1 46 yX5_inputTurned ∈ jTB := tb_2 179 (by decide +kernel) rfl
theorem ml_X1_50 : Cond.methodLink RX1 50 yX1_compare ∈ jTB := tb_2 170 (by decide +kernel) rfl
theorem ml_X1_53 : Cond.methodLink RX1 53 yX5_all ∈ jTB := tb_2 174 (by decide +kernel) rfl
theorem ml_X2_101 : Cond.methodLink RX2 101 yX5_number ∈ jTB := tb_2 141 (by decide +kernel) rfl
theorem ml_X2_107 : Cond.methodLink RX2 107 yJ6_bitCount_0f7a4 ∈ jTB := tb_2 142 (by decide +kernel) rfl
theorem ml_X2_111 : Cond.methodLink RX2 111 Lib.Math.min.name ∈ jTB := tb_2 148 (by decide +kernel) rfl
theorem ml_X2_36 : Cond.methodLink RX2 36 yX5_onesWith ∈ jTB := tb_2 76 (by decide +kernel) rfl
theorem ml_X2_42 : Cond.methodLink RX2 42 yJ13_bitCount_95d88 ∈ jTB := tb_2 77 (by decide +kernel) rfl
theorem ml_X2_48 : Cond.methodLink RX2 48 yX2_findFloors ∈ jTB := tb_2 78 (by decide +kernel) rfl
theorem ml_X2_52 : Cond.methodLink RX2 52 yX2_share ∈ jTB := tb_2 92 (by decide +kernel) rfl
theorem ml_X2_59 : Cond.methodLink RX2 59 yX2_raiseFloor ∈ jTB := tb_2 82 (by decide +kernel) rfl
theorem ml_X2_63 : Cond.methodLink RX2 63 Lib.Math.abs.name ∈ jTB := tb_2 86 (by decide +kernel) rfl
theorem ml_X2_69 : Cond.methodLink RX2 69 Lib.Math.max.name ∈ jTB := tb_2 89 (by decide +kernel) rfl
theorem ml_X2_73 : Cond.methodLink RX2 73 yX2_separates ∈ jTB := tb_2 96 (by decide +kernel) rfl
theorem ml_X2_77 : Cond.methodLink RX2 77 yX2_keepsOrder ∈ jTB := tb_2 113 (by decide +kernel) rfl
theorem ml_X2_80 : Cond.methodLink RX2 80 yX4_setWeight ∈ jTB := tb_2 117 (by decide +kernel) rfl
theorem ml_X2_84 : Cond.methodLink RX2 84 yX4_findEnds ∈ jTB := tb_2 100 (by decide +kernel) rfl
theorem ml_X2_94 : Cond.methodLink RX2 94 yX5_all ∈ jTB := tb_2 112 (by decide +kernel) rfl
theorem ml_X3_37 : Cond.methodLink RX3 37 yJ7_fill_53178 ∈ jTB := tb_3 8 (by decide +kernel) rfl
theorem ml_X3_43 : Cond.methodLink RX3 43 yX3_toldBy ∈ jTB := tb_3 25 (by decide +kernel) rfl
theorem ml_X3_47 : Cond.methodLink RX3 47 yX3_depthOf ∈ jTB := tb_3 36 (by decide +kernel) rfl
theorem ml_X3_51 : Cond.methodLink RX3 51 yX5_all ∈ jTB := tb_3 73 (by decide +kernel) rfl
theorem ml_X3_57 : Cond.methodLink RX3 57 yX5_number ∈ jTB := tb_3 29 (by decide +kernel) rfl
theorem ml_X3_60 : Cond.methodLink RX3 60 yX3_sumAt ∈ jTB := tb_3 30 (by decide +kernel) rfl
theorem ml_X3_64 : Cond.methodLink RX3 64 yX5_hasInput ∈ jTB := tb_3 34 (by decide +kernel) rfl
theorem ml_X3_68 : Cond.methodLink RX3 68 yX5_isOne ∈ jTB := tb_3 35 (by decide +kernel) rfl
theorem ml_X3_72 : Cond.methodLink RX3 72 Lib.Math.max.name ∈ jTB := tb_3 40 (by decide +kernel) rfl
theorem ml_X4_15 : Cond.methodLink RX4 15 yX5_number ∈ jTB := tb_2 106 (by decide +kernel) rfl
theorem ml_X4_32 : Cond.methodLink RX4 32 yX5_isOne ∈ jTB := tb_2 107 (by decide +kernel) rfl
theorem ml_X4_36 : Cond.methodLink RX4 36 Lib.Math.min.name ∈ jTB := tb_2 108 (by decide +kernel) rfl
theorem ml_X4_42 : Cond.methodLink RX4 42 Lib.Math.max.name ∈ jTB := tb_2 111 (by decide +kernel) rfl
theorem ml_X5_17 : Cond.methodLink RX5 17 yJ13_bitCount_95d88 ∈ jTB := tb_2 41 (by decide +kernel) rfl
theorem ml_X5_25 : Cond.methodLink RX5 25 yX5_isOne ∈ jTB := tb_2 27 (by decide +kernel) rfl
theorem ml_X5_7 : Cond.methodLink RX5 7 yX5_number ∈ jTB := tb_1 206 (by decide +kernel) rfl
theorem ml_X6_15 : Cond.methodLink RX6 15 yX5_number ∈ jTB := tb_2 54 (by decide +kernel) rfl
theorem ml_X6_21 : Cond.methodLink RX6 21 yX5_isOne ∈ jTB := tb_2 55 (by decide +kernel) rfl
theorem ml_X6_25 : Cond.methodLink RX6 25 yX6_findSecond ∈ jTB := tb_2 56 (by decide +kernel) rfl
theorem ml_X6_29 : Cond.methodLink RX6 29 yX6_findZeros ∈ jTB := tb_2 60 (by decide +kernel) rfl
theorem ml_X7_102 : Cond.methodLink RX7 102 yJ13_bitCount_95d88 ∈ jTB := tb_1 213 (by decide +kernel) rfl
theorem ml_X7_108 : Cond.methodLink RX7 108 yX5_onesWith ∈ jTB := tb_2 38 (by decide +kernel) rfl
theorem ml_X7_112 : Cond.methodLink RX7 112 yX7_tellsGate ∈ jTB := tb_2 46 (by decide +kernel) rfl
theorem ml_X7_115 : Cond.methodLink RX7 115 yX7_findLeast ∈ jTB := tb_2 68 (by decide +kernel) rfl
theorem ml_X7_131 : Cond.methodLink RX7 131 yX2_thousandthsOff ∈ jTB := tb_2 137 (by decide +kernel) rfl
theorem ml_X7_137 : Cond.methodLink RX7 137 yX1_find ∈ jTB := tb_2 154 (by decide +kernel) rfl
theorem ml_X7_145 : Cond.methodLink RX7 145 yX1_members ∈ jTB := tb_2 188 (by decide +kernel) rfl
theorem ml_X7_157 : Cond.methodLink RX7 157 yX0_leastFirst ∈ jTB := tb_2 214 (by decide +kernel) rfl
theorem ml_X7_164 : Cond.methodLink RX7 164 yX3_clear ∈ jTB := tb_3 4 (by decide +kernel) rfl
theorem ml_X7_171 : Cond.methodLink RX7 171 yX3_swapNextWeight ∈ jTB := tb_3 13 (by decide +kernel) rfl
theorem ml_X7_175 : Cond.methodLink RX7 175 yX3_append ∈ jTB := tb_3 21 (by decide +kernel) rfl
theorem ml_X7_178 : Cond.methodLink RX7 178 yX7_isGateOfNet ∈ jTB := tb_3 45 (by decide +kernel) rfl
theorem ml_X7_184 : Cond.methodLink RX7 184 yX3_lastTold ∈ jTB := tb_3 53 (by decide +kernel) rfl
theorem ml_X7_188 : Cond.methodLink RX7 188 yJ13_numberOfTrailingZeros_95d88 ∈ jTB := tb_3 57 (by decide +kernel) rfl
theorem ml_X7_194 : Cond.methodLink RX7 194 yX3_lastToldWith ∈ jTB := tb_3 69 (by decide +kernel) rfl
theorem ml_X7_198 : Cond.methodLink RX7 198 yX5_hasInput ∈ jTB := tb_1 230 (by decide +kernel) rfl
theorem ml_X7_203 : Cond.methodLink RX7 203 yX6_find ∈ jTB := tb_2 50 (by decide +kernel) rfl
theorem ml_X7_206 : Cond.methodLink RX7 206 yX2_find ∈ jTB := tb_2 72 (by decide +kernel) rfl
theorem ml_X7_52 : Cond.methodLink RX7 52 yJ7_fill_53178 ∈ jTB := tb_1 168 (by decide +kernel) rfl
theorem ml_X7_58 : Cond.methodLink RX7 58 yX7_isSlot ∈ jTB := tb_1 197 (by decide +kernel) rfl
theorem ml_X7_62 : Cond.methodLink RX7 62 yX7_isWithin ∈ jTB := tb_1 200 (by decide +kernel) rfl
theorem ml_X7_66 : Cond.methodLink RX7 66 yX5_all ∈ jTB := tb_1 203 (by decide +kernel) rfl
theorem ml_X7_72 : Cond.methodLink RX7 72 yX7_keep ∈ jTB := tb_1 209 (by decide +kernel) rfl
theorem ml_X7_82 : Cond.methodLink RX7 82 yX5_number ∈ jTB := tb_1 226 (by decide +kernel) rfl
theorem ml_X7_86 : Cond.methodLink RX7 86 yX7_sumAt ∈ jTB := tb_1 227 (by decide +kernel) rfl
theorem ml_X7_90 : Cond.methodLink RX7 90 yX7_isInput ∈ jTB := tb_2 11 (by decide +kernel) rfl
theorem ml_X7_94 : Cond.methodLink RX7 94 yX5_inputTurned ∈ jTB := tb_2 15 (by decide +kernel) rfl
theorem ml_X7_98 : Cond.methodLink RX7 98 yX5_inputHeld ∈ jTB := tb_2 24 (by decide +kernel) rfl
theorem ml_X8_113 : Cond.methodLink RX8 113 yX8_isInput ∈ jTB := tb_3 217 (by decide +kernel) rfl
theorem ml_X8_117 : Cond.methodLink RX8 117 yX8_turned ∈ jTB := tb_3 221 (by decide +kernel) rfl
theorem ml_X8_121 : Cond.methodLink RX8 121 yX8_layThree ∈ jTB := tb_4 12 (by decide +kernel) rfl
theorem ml_X8_125 : Cond.methodLink RX8 125 yX8_layFalse ∈ jTB := tb_4 8 (by decide +kernel) rfl
theorem ml_X8_129 : Cond.methodLink RX8 129 yX8_sumOf ∈ jTB := tb_4 28 (by decide +kernel) rfl
theorem ml_X8_139 : Cond.methodLink RX8 139 yX8_isGate ∈ jTB := tb_4 4 (by decide +kernel) rfl
theorem ml_X8_146 : Cond.methodLink RX8 146 yX8_findOthers ∈ jTB := tb_4 16 (by decide +kernel) rfl
theorem ml_X8_149 : Cond.methodLink RX8 149 yX8_falling ∈ jTB := tb_4 20 (by decide +kernel) rfl
theorem ml_X8_153 : Cond.methodLink RX8 153 yX8_parts ∈ jTB := tb_4 24 (by decide +kernel) rfl
theorem ml_X8_157 : Cond.methodLink RX8 157 yX8_next ∈ jTB := tb_4 32 (by decide +kernel) rfl
theorem ml_X8_160 : Cond.methodLink RX8 160 yX8_solve ∈ jTB := tb_4 0 (by decide +kernel) rfl
theorem ml_X8_174 : Cond.methodLink RX8 174 yX8_changed ∈ jTB := tb_4 66 (by decide +kernel) rfl
theorem ml_X8_178 : Cond.methodLink RX8 178 yX8_meet ∈ jTB := tb_4 70 (by decide +kernel) rfl
theorem ml_X8_184 : Cond.methodLink RX8 184 yX8_layKind ∈ jTB := tb_4 62 (by decide +kernel) rfl
theorem ml_X8_189 : Cond.methodLink RX8 189 yX8_asThree ∈ jTB := tb_4 95 (by decide +kernel) rfl
theorem ml_X8_192 : Cond.methodLink RX8 192 yX8_isSecond ∈ jTB := tb_4 98 (by decide +kernel) rfl
theorem ml_X8_196 : Cond.methodLink RX8 196 yX8_firstOf ∈ jTB := tb_4 91 (by decide +kernel) rfl
theorem ml_X8_199 : Cond.methodLink RX8 199 yX8_inputsGate ∈ jTB := tb_4 102 (by decide +kernel) rfl
theorem ml_X8_213 : Cond.methodLink RX8 213 yX8_isNetGate ∈ jTB := tb_4 130 (by decide +kernel) rfl
theorem ml_X8_216 : Cond.methodLink RX8 216 yX8_work ∈ jTB := tb_4 134 (by decide +kernel) rfl
theorem ml_X8_76 : Cond.methodLink RX8 76 yX8_in ∈ jTB := tb_3 174 (by decide +kernel) rfl
theorem ml_X8_80 : Cond.methodLink RX8 80 yX8_is ∈ jTB := tb_3 188 (by decide +kernel) rfl
theorem ml_X8_84 : Cond.methodLink RX8 84 yX8_ones ∈ jTB := tb_3 185 (by decide +kernel) rfl
theorem ml_X8_88 : Cond.methodLink RX8 88 yX8_isSlot ∈ jTB := tb_3 170 (by decide +kernel) rfl
theorem ml_X8_94 : Cond.methodLink RX8 94 yX8_whole ∈ jTB := tb_3 178 (by decide +kernel) rfl
theorem ml_X8_98 : Cond.methodLink RX8 98 yX8_set ∈ jTB := tb_3 181 (by decide +kernel) rfl
theorem fl_X0_12 : Cond.fieldLink RX0 12 "WeighGates$GatePair" "proof" "LWeighGates$Witness;" ∈ jTB := tb_1 121 (by decide +kernel) rfl
theorem fl_X0_21 : Cond.fieldLink RX0 21 "WeighGates$GatePair" "weighed" "LWeighGates$RowSums;" ∈ jTB := tb_1 122 (by decide +kernel) rfl
theorem fl_X0_25 : Cond.fieldLink RX0 25 "WeighGates$GatePair" "wrongZeros" "[J" ∈ jTB := tb_1 123 (by decide +kernel) rfl
theorem fl_X0_29 : Cond.fieldLink RX0 29 "WeighGates$GatePair" "wrongOnes" "[J" ∈ jTB := tb_1 124 (by decide +kernel) rfl
theorem fl_X0_55 : Cond.fieldLink RX0 55 "WeighGates$GatePair" "SIZES" "[I" ∈ jTB := tb_2 222 (by decide +kernel) rfl
theorem fl_X0_78 : Cond.fieldLink RX0 78 "WeighGates$RowSums" "sums" "[I" ∈ jTB := tb_1 48 (by decide +kernel) rfl
theorem fl_X0_81 : Cond.fieldLink RX0 81 "WeighGates$RowSums" "greatestOfZeros" "I" ∈ jTB := tb_1 54 (by decide +kernel) rfl
theorem fl_X0_85 : Cond.fieldLink RX0 85 "WeighGates$RowSums" "leastOfOnes" "I" ∈ jTB := tb_1 51 (by decide +kernel) rfl
theorem fl_X1_13 : Cond.fieldLink RX1 13 "WeighGates$Kind" "leastBits" "J" ∈ jTB := tb_1 97 (by decide +kernel) rfl
theorem fl_X1_17 : Cond.fieldLink RX1 17 "WeighGates$Kind" "ways" "I" ∈ jTB := tb_1 100 (by decide +kernel) rfl
theorem fl_X1_20 : Cond.fieldLink RX1 20 "WeighGates$Kind" "waysToLeast" "I" ∈ jTB := tb_1 101 (by decide +kernel) rfl
theorem fl_X1_7 : Cond.fieldLink RX1 7 "WeighGates$Kind" "n" "I" ∈ jTB := tb_1 99 (by decide +kernel) rfl
theorem fl_X2_104 : Cond.fieldLink RX2 104 "WeighGates$RowSums" "sums" "[I" ∈ jTB := tb_1 49 (by decide +kernel) rfl
theorem fl_X2_15 : Cond.fieldLink RX2 15 "WeighGates$LeastWeighing" "pulls" "[I" ∈ jTB := tb_1 71 (by decide +kernel) rfl
theorem fl_X2_18 : Cond.fieldLink RX2 18 "WeighGates$LeastWeighing" "floors" "[I" ∈ jTB := tb_1 72 (by decide +kernel) rfl
theorem fl_X2_24 : Cond.fieldLink RX2 24 "WeighGates$LeastWeighing" "weighed" "LWeighGates$RowSums;" ∈ jTB := tb_1 73 (by decide +kernel) rfl
theorem fl_X2_28 : Cond.fieldLink RX2 28 "WeighGates$LeastWeighing" "n" "I" ∈ jTB := tb_1 69 (by decide +kernel) rfl
theorem fl_X2_32 : Cond.fieldLink RX2 32 "WeighGates$LeastWeighing" "bits" "J" ∈ jTB := tb_1 70 (by decide +kernel) rfl
theorem fl_X2_56 : Cond.fieldLink RX2 56 "WeighGates$LeastWeighing" "size" "I" ∈ jTB := tb_1 67 (by decide +kernel) rfl
theorem fl_X2_88 : Cond.fieldLink RX2 88 "WeighGates$RowSums" "greatestOfZeros" "I" ∈ jTB := tb_1 55 (by decide +kernel) rfl
theorem fl_X2_9 : Cond.fieldLink RX2 9 "WeighGates$LeastWeighing" "weights" "[I" ∈ jTB := tb_1 63 (by decide +kernel) rfl
theorem fl_X2_91 : Cond.fieldLink RX2 91 "WeighGates$RowSums" "leastOfOnes" "I" ∈ jTB := tb_1 52 (by decide +kernel) rfl
theorem fl_X2_98 : Cond.fieldLink RX2 98 "WeighGates$LeastWeighing" "bound" "I" ∈ jTB := tb_1 65 (by decide +kernel) rfl
theorem fl_X3_15 : Cond.fieldLink RX3 15 "WeighGates$Net" "told" "[J" ∈ jTB := tb_1 146 (by decide +kernel) rfl
theorem fl_X3_19 : Cond.fieldLink RX3 19 "WeighGates$Net" "depths" "[I" ∈ jTB := tb_1 148 (by decide +kernel) rfl
theorem fl_X3_25 : Cond.fieldLink RX3 25 "WeighGates$Net" "weights" "[[I" ∈ jTB := tb_1 150 (by decide +kernel) rfl
theorem fl_X3_28 : Cond.fieldLink RX3 28 "WeighGates$Net" "bounds" "[I" ∈ jTB := tb_1 151 (by decide +kernel) rfl
theorem fl_X3_31 : Cond.fieldLink RX3 31 "WeighGates$Net" "supposed" "[J" ∈ jTB := tb_1 152 (by decide +kernel) rfl
theorem fl_X3_34 : Cond.fieldLink RX3 34 "WeighGates$Net" "gateCount" "I" ∈ jTB := tb_1 144 (by decide +kernel) rfl
theorem fl_X3_9 : Cond.fieldLink RX3 9 "WeighGates$Net" "inputCount" "I" ∈ jTB := tb_1 142 (by decide +kernel) rfl
theorem fl_X4_24 : Cond.fieldLink RX4 24 "WeighGates$RowSums" "leastOfOnes" "I" ∈ jTB := tb_1 50 (by decide +kernel) rfl
theorem fl_X4_29 : Cond.fieldLink RX4 29 "WeighGates$RowSums" "greatestOfZeros" "I" ∈ jTB := tb_1 53 (by decide +kernel) rfl
theorem fl_X4_9 : Cond.fieldLink RX4 9 "WeighGates$RowSums" "sums" "[I" ∈ jTB := tb_1 47 (by decide +kernel) rfl
theorem fl_X5_13 : Cond.fieldLink RX5 13 "WeighGates$Rows" "WITH_INPUT" "[J" ∈ jTB := tb_2 18 (by decide +kernel) rfl
theorem fl_X6_9 : Cond.fieldLink RX6 9 "WeighGates$Witness" "rows" "[I" ∈ jTB := tb_1 28 (by decide +kernel) rfl
theorem fl_X7_118 : Cond.fieldLink RX7 118 "WeighGates$LeastWeighing" "weights" "[I" ∈ jTB := tb_1 64 (by decide +kernel) rfl
theorem fl_X7_121 : Cond.fieldLink RX7 121 "WeighGates$LeastWeighing" "bound" "I" ∈ jTB := tb_1 66 (by decide +kernel) rfl
theorem fl_X7_125 : Cond.fieldLink RX7 125 "WeighGates$LeastWeighing" "size" "I" ∈ jTB := tb_1 68 (by decide +kernel) rfl
theorem fl_X7_128 : Cond.fieldLink RX7 128 "WeighGates$Witness" "rows" "[I" ∈ jTB := tb_1 29 (by decide +kernel) rfl
theorem fl_X7_13 : Cond.fieldLink RX7 13 "WeighGates" "slotBits" "[J" ∈ jTB := tb_1 172 (by decide +kernel) rfl
theorem fl_X7_141 : Cond.fieldLink RX7 141 "WeighGates$Kind" "leastBits" "J" ∈ jTB := tb_1 98 (by decide +kernel) rfl
theorem fl_X7_148 : Cond.fieldLink RX7 148 "WeighGates" "GATES_OF" "[I" ∈ jTB := tb_2 196 (by decide +kernel) rfl
theorem fl_X7_151 : Cond.fieldLink RX7 151 "WeighGates" "KINDS_OF" "[I" ∈ jTB := tb_2 202 (by decide +kernel) rfl
theorem fl_X7_154 : Cond.fieldLink RX7 154 "WeighGates" "KINDS_OF_GATES_OF" "[I" ∈ jTB := tb_2 204 (by decide +kernel) rfl
theorem fl_X7_161 : Cond.fieldLink RX7 161 "WeighGates$Net" "gateCount" "I" ∈ jTB := tb_1 145 (by decide +kernel) rfl
theorem fl_X7_168 : Cond.fieldLink RX7 168 "WeighGates$Net" "inputCount" "I" ∈ jTB := tb_1 143 (by decide +kernel) rfl
theorem fl_X7_181 : Cond.fieldLink RX7 181 "WeighGates$Net" "told" "[J" ∈ jTB := tb_1 147 (by decide +kernel) rfl
theorem fl_X7_191 : Cond.fieldLink RX7 191 "WeighGates$Net" "depths" "[I" ∈ jTB := tb_1 149 (by decide +kernel) rfl
theorem fl_X7_20 : Cond.fieldLink RX7 20 "WeighGates" "proof" "LWeighGates$Witness;" ∈ jTB := tb_1 173 (by decide +kernel) rfl
theorem fl_X7_27 : Cond.fieldLink RX7 27 "WeighGates" "least" "LWeighGates$LeastWeighing;" ∈ jTB := tb_1 174 (by decide +kernel) rfl
theorem fl_X7_34 : Cond.fieldLink RX7 34 "WeighGates" "kind" "LWeighGates$Kind;" ∈ jTB := tb_1 175 (by decide +kernel) rfl
theorem fl_X7_41 : Cond.fieldLink RX7 41 "WeighGates" "pair" "LWeighGates$GatePair;" ∈ jTB := tb_1 176 (by decide +kernel) rfl
theorem fl_X7_48 : Cond.fieldLink RX7 48 "WeighGates" "network" "LWeighGates$Net;" ∈ jTB := tb_1 177 (by decide +kernel) rfl
theorem fl_X7_9 : Cond.fieldLink RX7 9 "WeighGates" "slotInputs" "[I" ∈ jTB := tb_1 171 (by decide +kernel) rfl
theorem fl_X8_13 : Cond.fieldLink RX8 13 "WeighGatesModel" "table" "[J" ∈ jTB := tb_3 87 (by decide +kernel) rfl
theorem fl_X8_133 : Cond.fieldLink RX8 133 "WeighGatesModel" "bound" "I" ∈ jTB := tb_3 96 (by decide +kernel) rfl
theorem fl_X8_136 : Cond.fieldLink RX8 136 "WeighGatesModel" "solvedInputs" "I" ∈ jTB := tb_3 92 (by decide +kernel) rfl
theorem fl_X8_142 : Cond.fieldLink RX8 142 "WeighGatesModel" "solvedGate" "Z" ∈ jTB := tb_3 93 (by decide +kernel) rfl
theorem fl_X8_165 : Cond.fieldLink RX8 165 "WeighGatesModel" "chief" "J" ∈ jTB := tb_3 100 (by decide +kernel) rfl
theorem fl_X8_168 : Cond.fieldLink RX8 168 "WeighGatesModel" "marks" "I" ∈ jTB := tb_3 99 (by decide +kernel) rfl
theorem fl_X8_17 : Cond.fieldLink RX8 17 "WeighGatesModel" "three" "[I" ∈ jTB := tb_3 88 (by decide +kernel) rfl
theorem fl_X8_171 : Cond.fieldLink RX8 171 "WeighGatesModel" "kin" "I" ∈ jTB := tb_3 101 (by decide +kernel) rfl
theorem fl_X8_20 : Cond.fieldLink RX8 20 "WeighGatesModel" "hasFalse" "[Z" ∈ jTB := tb_3 89 (by decide +kernel) rfl
theorem fl_X8_202 : Cond.fieldLink RX8 202 "WeighGatesModel" "gates" "I" ∈ jTB := tb_3 106 (by decide +kernel) rfl
theorem fl_X8_24 : Cond.fieldLink RX8 24 "WeighGatesModel" "witness" "[I" ∈ jTB := tb_3 90 (by decide +kernel) rfl
theorem fl_X8_29 : Cond.fieldLink RX8 29 "WeighGatesModel" "solved" "J" ∈ jTB := tb_3 91 (by decide +kernel) rfl
theorem fl_X8_33 : Cond.fieldLink RX8 33 "WeighGatesModel" "size" "[I" ∈ jTB := tb_3 94 (by decide +kernel) rfl
theorem fl_X8_36 : Cond.fieldLink RX8 36 "WeighGatesModel" "weight" "[I" ∈ jTB := tb_3 95 (by decide +kernel) rfl
theorem fl_X8_39 : Cond.fieldLink RX8 39 "WeighGatesModel" "order" "[I" ∈ jTB := tb_3 97 (by decide +kernel) rfl
theorem fl_X8_43 : Cond.fieldLink RX8 43 "WeighGatesModel" "mark" "[I" ∈ jTB := tb_3 98 (by decide +kernel) rfl
theorem fl_X8_46 : Cond.fieldLink RX8 46 "WeighGatesModel" "gateMany" "[I" ∈ jTB := tb_3 102 (by decide +kernel) rfl
theorem fl_X8_49 : Cond.fieldLink RX8 49 "WeighGatesModel" "kindMany" "[I" ∈ jTB := tb_3 103 (by decide +kernel) rfl
theorem fl_X8_52 : Cond.fieldLink RX8 52 "WeighGatesModel" "firsts" "[I" ∈ jTB := tb_3 104 (by decide +kernel) rfl
theorem fl_X8_55 : Cond.fieldLink RX8 55 "WeighGatesModel" "netInputs" "I" ∈ jTB := tb_3 105 (by decide +kernel) rfl
theorem fl_X8_59 : Cond.fieldLink RX8 59 "WeighGatesModel" "told" "[I" ∈ jTB := tb_3 107 (by decide +kernel) rfl
theorem fl_X8_62 : Cond.fieldLink RX8 62 "WeighGatesModel" "netWeight" "[I" ∈ jTB := tb_3 108 (by decide +kernel) rfl
theorem fl_X8_65 : Cond.fieldLink RX8 65 "WeighGatesModel" "netBound" "[I" ∈ jTB := tb_3 109 (by decide +kernel) rfl
theorem fl_X8_68 : Cond.fieldLink RX8 68 "WeighGatesModel" "works" "[I" ∈ jTB := tb_3 110 (by decide +kernel) rfl
theorem fl_X8_7 : Cond.fieldLink RX8 7 "WeighGatesModel" "inputs" "[I" ∈ jTB := tb_3 86 (by decide +kernel) rfl
theorem fl_X8_71 : Cond.fieldLink RX8 71 "WeighGatesModel" "deep" "[I" ∈ jTB := tb_3 111 (by decide +kernel) rfl
theorem cn_J6_264 : Cond.constant RJ6 264 (65536) ∈ jTB := tb_2 178 (by decide +kernel) rfl
theorem cn_J6_265 : Cond.constant RJ6 265 (1431655765) ∈ jTB := tb_2 145 (by decide +kernel) rfl
theorem cn_J6_266 : Cond.constant RJ6 266 (858993459) ∈ jTB := tb_2 146 (by decide +kernel) rfl
theorem cn_J6_267 : Cond.constant RJ6 267 (252645135) ∈ jTB := tb_2 147 (by decide +kernel) rfl
theorem cn_X0_54 : Cond.constant RX0 54 (-1000000) ∈ jTB := tb_2 239 (by decide +kernel) rfl
theorem cn_X4_23 : Cond.constant RX4 23 (2147483647) ∈ jTB := tb_2 104 (by decide +kernel) rfl
theorem cn_X4_28 : Cond.constant RX4 28 (-2147483648) ∈ jTB := tb_2 105 (by decide +kernel) rfl
theorem cn_X7_89 : Cond.constant RX7 89 (-1000000) ∈ jTB := tb_2 10 (by decide +kernel) rfl
theorem cn_X8_112 : Cond.constant RX8 112 (-1000000) ∈ jTB := tb_3 216 (by decide +kernel) rfl
theorem cn_X8_42 : Cond.constant RX8 42 (65536) ∈ jTB := tb_3 85 (by decide +kernel) rfl
theorem cl_J13_314 : Cond.constantLong RJ13 314 (6148914691236517205) ∈ jTB := tb_1 216 (by decide +kernel) rfl
theorem cl_J13_316 : Cond.constantLong RJ13 316 (3689348814741910323) ∈ jTB := tb_1 217 (by decide +kernel) rfl
theorem cl_J13_318 : Cond.constantLong RJ13 318 (1085102592571150095) ∈ jTB := tb_1 218 (by decide +kernel) rfl
theorem cl_L_13 : Cond.constantLong RL 13 (4294967295) ∈ jTB := tb_4 154 (by decide +kernel) rfl
theorem cl_X5_23 : Cond.constantLong RX5 23 (-1) ∈ jTB := tb_2 183 (by decide +kernel) rfl
theorem cl_X7_135 : Cond.constantLong RX7 135 (-3) ∈ jTB := tb_2 153 (by decide +kernel) rfl
theorem cl_X7_201 : Cond.constantLong RX7 201 (100) ∈ jTB := tb_1 233 (by decide +kernel) rfl
theorem cl_X7_76 : Cond.constantLong RX7 76 (-1) ∈ jTB := tb_1 223 (by decide +kernel) rfl
theorem cl_X7_78 : Cond.constantLong RX7 78 (10000000000) ∈ jTB := tb_1 224 (by decide +kernel) rfl
theorem cl_X7_80 : Cond.constantLong RX7 80 (-2) ∈ jTB := tb_1 225 (by decide +kernel) rfl
theorem cl_X8_102 : Cond.constantLong RX8 102 (9999999999) ∈ jTB := tb_3 195 (by decide +kernel) rfl
theorem cl_X8_104 : Cond.constantLong RX8 104 (-999) ∈ jTB := tb_3 196 (by decide +kernel) rfl
theorem cl_X8_106 : Cond.constantLong RX8 106 (999) ∈ jTB := tb_3 197 (by decide +kernel) rfl
theorem cl_X8_108 : Cond.constantLong RX8 108 (-2) ∈ jTB := tb_3 198 (by decide +kernel) rfl
theorem cl_X8_110 : Cond.constantLong RX8 110 (100) ∈ jTB := tb_3 199 (by decide +kernel) rfl
theorem cl_X8_163 : Cond.constantLong RX8 163 (3) ∈ jTB := tb_4 52 (by decide +kernel) rfl
theorem cl_X8_182 : Cond.constantLong RX8 182 (-3) ∈ jTB := tb_4 61 (by decide +kernel) rfl
theorem cl_X8_187 : Cond.constantLong RX8 187 (4) ∈ jTB := tb_4 82 (by decide +kernel) rfl
theorem cl_X8_205 : Cond.constantLong RX8 205 (-9) ∈ jTB := tb_4 118 (by decide +kernel) rfl
theorem cl_X8_207 : Cond.constantLong RX8 207 (9) ∈ jTB := tb_4 119 (by decide +kernel) rfl
theorem cl_X8_209 : Cond.constantLong RX8 209 (-99) ∈ jTB := tb_4 124 (by decide +kernel) rfl
theorem cl_X8_211 : Cond.constantLong RX8 211 (99) ∈ jTB := tb_4 125 (by decide +kernel) rfl
theorem cl_X8_27 : Cond.constantLong RX8 27 (-1) ∈ jTB := tb_3 84 (by decide +kernel) rfl
theorem cl_X8_74 : Cond.constantLong RX8 74 (7) ∈ jTB := tb_3 173 (by decide +kernel) rfl
theorem cl_X8_92 : Cond.constantLong RX8 92 (5) ∈ jTB := tb_3 177 (by decide +kernel) rfl
theorem mw_max : Cond.static Lib.Math.max.name ∈ jTB ∧ Cond.initialized "java/lang/Math" ∈ jTB ∧ Cond.code Lib.Math.max.name Lib.Math.max.code 2 (some .int) ∈ jTB := ⟨tb_2 90 (by decide +kernel) rfl, tb_1 12 (by decide +kernel) rfl, tb_2 91 (by decide +kernel) rfl⟩
theorem mw_min : Cond.static Lib.Math.min.name ∈ jTB ∧ Cond.initialized "java/lang/Math" ∈ jTB ∧ Cond.code Lib.Math.min.name Lib.Math.min.code 2 (some .int) ∈ jTB := ⟨tb_2 109 (by decide +kernel) rfl, tb_1 12 (by decide +kernel) rfl, tb_2 110 (by decide +kernel) rfl⟩
theorem mw_abs : Cond.static Lib.Math.abs.name ∈ jTB ∧ Cond.initialized "java/lang/Math" ∈ jTB ∧ Cond.code Lib.Math.abs.name Lib.Math.abs.code 1 (some .int) ∈ jTB := ⟨tb_2 87 (by decide +kernel) rfl, tb_1 12 (by decide +kernel) rfl, tb_2 88 (by decide +kernel) rfl⟩
end
