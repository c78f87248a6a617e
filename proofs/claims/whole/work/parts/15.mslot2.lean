theorem maj_lt {a b c k : Nat} (ha : a < 2 ^ k) (hb : b < 2 ^ k) : majT a b c < 2 ^ k := by
  unfold majT
  exact Nat.or_lt_two_pow (Nat.or_lt_two_pow (Nat.and_lt_two_pow _ hb) (Nat.lt_of_le_of_lt Nat.and_le_left hb)) (Nat.lt_of_le_of_lt Nat.and_le_left ha)
set_option maxRecDepth 100000 in
theorem con_X8_most {g : jG} {M : jMem} {q : jMq} {sn sT : Nat → Nat} (h34 : M 34 = .inr (7, oMod g q)) (h35 : M 35 = iA g 8 fun j => nI (sn j)) (h36 : M 36 = lA g 8 fun j => lN (sT j)) (ok : slOK sn sT) {s1 s2 s3 s4 : Int32} : Con g jX8_most 3 [.ref (jA g 34), .int s1, .int s2, .int s3, .int s4] M (fun v M2 => v = some (.int (sp_most sn sT s1 s2 s3 s4).1) ∧ M2 = setM g 35 M (sp_most sn sT s1 s2 s3 s4).2.1 (sp_most sn sT s1 s2 s3 s4).2.2) := by
  have hid := setM_id h35 h36
  refine con_of (l := [some (.ref (jA g 34)), some (.int s1), some (.int s2), some (.int s3), some (.int s4)]) (by decide) (Nat.le_of_ble_eq_true rfl) rfl ?_
  refine j_iload_n1 (n := 1) dX8_most_0 rfl ?_
  refine j_fnS1 (n := 4) con_X8_isSlot dX8_most_1 rfl cal_X8_isSlot ml_X8_88 (Nat.le_of_ble_eq_true rfl) (Nat.le_of_ble_eq_true rfl) ?_
  refine j_bif_eq (n := 7) 29 dX8_most_4 rfl (by decide) (fun k1 => ?_) (fun k1 => ?_)
  · refine j_iconst (n := 30) (-1) dX8_most_29 rfl (by decide) ?_
    refine j_iret dX8_most_30 rfl ?_
    simp [sp_most, k1, hid]
  refine j_iload_n2 (n := 8) dX8_most_7 rfl ?_
  refine j_fnS1 (n := 11) con_X8_isSlot dX8_most_8 rfl cal_X8_isSlot ml_X8_88 (Nat.le_of_ble_eq_true rfl) (Nat.le_of_ble_eq_true rfl) ?_
  refine j_bif_eq (n := 14) 29 dX8_most_11 rfl (by decide) (fun k2 => ?_) (fun k2 => ?_)
  · refine j_iconst (n := 30) (-1) dX8_most_29 rfl (by decide) ?_
    refine j_iret dX8_most_30 rfl ?_
    simp [sp_most, k1, k2, hid]
  refine j_iload_n3 (n := 15) dX8_most_14 rfl ?_
  refine j_fnS1 (n := 18) con_X8_isSlot dX8_most_15 rfl cal_X8_isSlot ml_X8_88 (Nat.le_of_ble_eq_true rfl) (Nat.le_of_ble_eq_true rfl) ?_
  refine j_bif_eq (n := 21) 29 dX8_most_18 rfl (by decide) (fun k3 => ?_) (fun k3 => ?_)
  · refine j_iconst (n := 30) (-1) dX8_most_29 rfl (by decide) ?_
    refine j_iret dX8_most_30 rfl ?_
    simp [sp_most, k1, k2, k3, hid]
  refine j_iload4 (n := 23) dX8_most_21 rfl ?_
  refine j_fnS1 (n := 26) con_X8_isSlot dX8_most_23 rfl cal_X8_isSlot ml_X8_88 (Nat.le_of_ble_eq_true rfl) (Nat.le_of_ble_eq_true rfl) ?_
  refine j_bif_ne (n := 29) 31 dX8_most_26 rfl (by decide) (fun k4 => ?_) (fun k4 => ?_)
  rotate_left
  · refine j_iconst (n := 30) (-1) dX8_most_29 rfl (by decide) ?_
    refine j_iret dX8_most_30 rfl ?_
    simp [sp_most, k1, k2, k3, k4, hid]
  obtain ⟨j1, hj1, rfl⟩ := isSl_of k1
  obtain ⟨j2, hj2, rfl⟩ := isSl_of k2
  obtain ⟨j3, hj3, rfl⟩ := isSl_of k3
  obtain ⟨j4, hj4, rfl⟩ := isSl_of k4
  have c1 := nI_clamp (show j1 < 2 ^ 31 by omega)
  have c2 := nI_clamp (show j2 < 2 ^ 31 by omega)
  have c3 := nI_clamp (show j3 < 2 ^ 31 by omega)
  have c4 := nI_clamp (show j4 < 2 ^ 31 by omega)
  have b2 := ok j2 hj2
  have b3 := ok j3 hj3
  have b4 := ok j4 hj4
  refine j_aload_n0 (n := 32) dX8_most_31 rfl ?_
  refine j_get (n := 35) (k := 0) dX8_most_32 rfl jcl7 (Nat.le_of_ble_eq_true rfl) fl_X8_7 (Nat.le_of_ble_eq_true rfl) (by first | assumption | rfl) (by rfl) ?_
  refine j_iload_n2 (n := 36) dX8_most_35 rfl ?_
  refine j_iald_n (n := 37) dX8_most_36 rfl (by first | decide | omega) (by first | assumption | rfl) (by decide) (by first | assumption | omega) ?_
  refine j_aload_n0 (n := 38) dX8_most_37 rfl ?_
  refine j_get (n := 41) (k := 0) dX8_most_38 rfl jcl7 (Nat.le_of_ble_eq_true rfl) fl_X8_7 (Nat.le_of_ble_eq_true rfl) (by first | assumption | rfl) (by rfl) ?_
  refine j_iload_n3 (n := 42) dX8_most_41 rfl ?_
  refine j_iald_n (n := 43) dX8_most_42 rfl (by first | decide | omega) (by first | assumption | rfl) (by decide) (by first | assumption | omega) ?_
  refine j_nicmp_ne (n := 46) 62 dX8_most_43 rfl (by decide) (by omega) (by omega) (fun e => ?_) (fun e => ?_)
  · refine j_bipush (n := 64) (-3) dX8_most_62 rfl (by decide) ?_
    refine j_iret dX8_most_64 rfl ?_
    simp [sp_most, k1, k2, k3, k4, c1, c2, c3, c4, e, hid]
  refine j_aload_n0 (n := 47) dX8_most_46 rfl ?_
  refine j_get (n := 50) (k := 0) dX8_most_47 rfl jcl7 (Nat.le_of_ble_eq_true rfl) fl_X8_7 (Nat.le_of_ble_eq_true rfl) (by first | assumption | rfl) (by rfl) ?_
  refine j_iload_n2 (n := 51) dX8_most_50 rfl ?_
  refine j_iald_n (n := 52) dX8_most_51 rfl (by first | decide | omega) (by first | assumption | rfl) (by decide) (by first | assumption | omega) ?_
  refine j_aload_n0 (n := 53) dX8_most_52 rfl ?_
  refine j_get (n := 56) (k := 0) dX8_most_53 rfl jcl7 (Nat.le_of_ble_eq_true rfl) fl_X8_7 (Nat.le_of_ble_eq_true rfl) (by first | assumption | rfl) (by rfl) ?_
  refine j_iload4 (n := 58) dX8_most_56 rfl ?_
  refine j_iald_n (n := 59) dX8_most_58 rfl (by first | decide | omega) (by first | assumption | rfl) (by decide) (by first | assumption | omega) ?_
  refine j_nicmp_eq (n := 62) 65 dX8_most_59 rfl (by decide) (by omega) (by omega) (fun e2 => ?_) (fun e2 => ?_)
  rotate_left
  · refine j_bipush (n := 64) (-3) dX8_most_62 rfl (by decide) ?_
    refine j_iret dX8_most_64 rfl ?_
    simp [sp_most, k1, k2, k3, k4, c1, c2, c3, c4, e, hid]
    rw [e] at e2
    simp [e2, hid]
  refine j_aload_n0 (n := 66) dX8_most_65 rfl ?_
  refine j_iload_n1 (n := 67) dX8_most_66 rfl ?_
  refine j_aload_n0 (n := 68) dX8_most_67 rfl ?_
  refine j_get (n := 71) (k := 0) dX8_most_68 rfl jcl7 (Nat.le_of_ble_eq_true rfl) fl_X8_7 (Nat.le_of_ble_eq_true rfl) (by first | assumption | rfl) (by rfl) ?_
  refine j_iload_n2 (n := 72) dX8_most_71 rfl ?_
  refine j_iald_n (n := 73) dX8_most_72 rfl (by first | decide | omega) (by first | assumption | rfl) (by decide) (by first | assumption | omega) ?_
  refine j_aload_n0 (n := 74) dX8_most_73 rfl ?_
  refine j_get (n := 77) (k := 1) dX8_most_74 rfl jcl7 (Nat.le_of_ble_eq_true rfl) fl_X8_13 (Nat.le_of_ble_eq_true rfl) (by first | assumption | rfl) (by rfl) ?_
  refine j_iload_n2 (n := 78) dX8_most_77 rfl ?_
  refine j_lald_n (n := 79) dX8_most_78 rfl (by first | decide | omega) (by first | assumption | rfl) (by decide) (by first | assumption | omega) ?_
  refine j_aload_n0 (n := 80) dX8_most_79 rfl ?_
  refine j_get (n := 83) (k := 1) dX8_most_80 rfl jcl7 (Nat.le_of_ble_eq_true rfl) fl_X8_13 (Nat.le_of_ble_eq_true rfl) (by first | assumption | rfl) (by rfl) ?_
  refine j_iload_n3 (n := 84) dX8_most_83 rfl ?_
  refine j_lald_n (n := 85) dX8_most_84 rfl (by first | decide | omega) (by first | assumption | rfl) (by decide) (by first | assumption | omega) ?_
  refine j_land (n := 86) dX8_most_85 rfl ?_
  refine j_aload_n0 (n := 87) dX8_most_86 rfl ?_
  refine j_get (n := 90) (k := 1) dX8_most_87 rfl jcl7 (Nat.le_of_ble_eq_true rfl) fl_X8_13 (Nat.le_of_ble_eq_true rfl) (by first | assumption | rfl) (by rfl) ?_
  refine j_iload_n3 (n := 91) dX8_most_90 rfl ?_
  refine j_lald_n (n := 92) dX8_most_91 rfl (by first | decide | omega) (by first | assumption | rfl) (by decide) (by first | assumption | omega) ?_
  refine j_aload_n0 (n := 93) dX8_most_92 rfl ?_
  refine j_get (n := 96) (k := 1) dX8_most_93 rfl jcl7 (Nat.le_of_ble_eq_true rfl) fl_X8_13 (Nat.le_of_ble_eq_true rfl) (by first | assumption | rfl) (by rfl) ?_
  refine j_iload4 (n := 98) dX8_most_96 rfl ?_
  refine j_lald_n (n := 99) dX8_most_98 rfl (by first | decide | omega) (by first | assumption | rfl) (by decide) (by first | assumption | omega) ?_
  refine j_land (n := 100) dX8_most_99 rfl ?_
  refine j_lor (n := 101) dX8_most_100 rfl ?_
  refine j_aload_n0 (n := 102) dX8_most_101 rfl ?_
  refine j_get (n := 105) (k := 1) dX8_most_102 rfl jcl7 (Nat.le_of_ble_eq_true rfl) fl_X8_13 (Nat.le_of_ble_eq_true rfl) (by first | assumption | rfl) (by rfl) ?_
  refine j_iload_n2 (n := 106) dX8_most_105 rfl ?_
  refine j_lald_n (n := 107) dX8_most_106 rfl (by first | decide | omega) (by first | assumption | rfl) (by decide) (by first | assumption | omega) ?_
  refine j_aload_n0 (n := 108) dX8_most_107 rfl ?_
  refine j_get (n := 111) (k := 1) dX8_most_108 rfl jcl7 (Nat.le_of_ble_eq_true rfl) fl_X8_13 (Nat.le_of_ble_eq_true rfl) (by first | assumption | rfl) (by rfl) ?_
  refine j_iload4 (n := 113) dX8_most_111 rfl ?_
  refine j_lald_n (n := 114) dX8_most_113 rfl (by first | decide | omega) (by first | assumption | rfl) (by decide) (by first | assumption | omega) ?_
  refine j_land (n := 115) dX8_most_114 rfl ?_
  refine j_lor (n := 116) dX8_most_115 rfl ?_
  refine j_topl (lN (majT (sT j2) (sT j3) (sT j4))) (by rw [fb_andL, fb_andL, fb_andL, fb_orL, fb_orL]; rfl) ?_
  have hlt : majT (sT j2) (sT j3) (sT j4) < 2 ^ 32 := maj_lt (ok.b hj2) (ok.b hj3)
  refine j_cV3 (n := 119) (con_X8_set h34 h35 h36 hj1 (by omega)) dX8_most_116 rfl cal_X8_set ml_X8_98 (Nat.le_of_ble_eq_true rfl) (by first | decide | omega) rfl rfl (Nat.le_of_ble_eq_true rfl) (by first | assumption | rfl) ?_
  rintro _ M2 ⟨rfl, rfl⟩
  refine j_iret dX8_most_119 rfl ?_
  rw [e] at e2
  simp [sp_most, k1, k2, k3, k4, c1, c2, c3, c4, e, e2]
set_option maxRecDepth 100000 in
theorem con_X8_turned {g : jG} {M : jMem} {t n m : Nat} (ht : t < 2 ^ 62) (hn : n ≤ 5) (hm : m < 2 ^ n) : Fn g jX8_turned 1 [.long (lN t), .int (nI n), .int (nI m)] M (.long (lN (turnT n t m))) := by
  have h5 := pw5 hn
  refine con_of (l := [some (.long (lN t)), none, some (.int (nI n)), some (.int (nI m)), none, none, none]) (by decide) (Nat.le_of_ble_eq_true rfl) rfl ?_
  refine j_lconst (n := 1) (lN 0) dX8_turned_0 rfl rfl ?_
  refine j_lstore4 (n := 3) dX8_turned_1 rfl (Nat.le_of_ble_eq_true rfl) rfl ?_
  refine j_iconst (n := 4) (nI 0) dX8_turned_3 rfl (by decide) ?_
  refine j_istore6 (n := 6) dX8_turned_4 rfl (Nat.le_of_ble_eq_true rfl) rfl ?_
  have key : ∀ i, i ≤ 2 ^ n → J g jX8_turned 1 (fun v M2 => v = some (.long (lN (turnT n t m))) ∧ M2 = M) 6 [some (.long (lN t)), none, some (.int (nI n)), some (.int (nI m)), some (.long (lN (mkT i (fun r => t.testBit (r ^^^ m))))), none, some (.int (nI i))] [] M := by
    refine j_for ?_ ?_
    · refine j_iload6 (n := 8) dX8_turned_6 rfl ?_
      refine j_iconst (n := 9) (nI 1) dX8_turned_8 rfl (by decide) ?_
      refine j_iload_n2 (n := 10) dX8_turned_9 rfl ?_
      refine j_ishl (n := 11) dX8_turned_10 rfl ?_
      refine j_topi (nI (2 ^ n)) (ai_shl1 (by omega)) ?_
      refine j_nicmp_ge (n := 14) 44 dX8_turned_11 rfl (by decide) (by omega) (by omega) (fun h => ?_) (fun h => ?_)
      · refine j_lload4 (n := 46) dX8_turned_44 rfl ?_
        refine j_lret dX8_turned_46 rfl ?_
        exact ⟨rfl, rfl⟩
      · omega
    · intro i hi ih
      refine j_iload6 (n := 8) dX8_turned_6 rfl ?_
      refine j_iconst (n := 9) (nI 1) dX8_turned_8 rfl (by decide) ?_
      refine j_iload_n2 (n := 10) dX8_turned_9 rfl ?_
      refine j_ishl (n := 11) dX8_turned_10 rfl ?_
      refine j_topi (nI (2 ^ n)) (ai_shl1 (by omega)) ?_
      refine j_nicmp_ge (n := 14) 44 dX8_turned_11 rfl (by decide) (by omega) (by omega) (fun h => ?_) (fun h => ?_)
      · omega
      have hx : i ^^^ m < 2 ^ n := Nat.xor_lt_two_pow hi hm
      refine j_lload4 (n := 16) dX8_turned_14 rfl ?_
      refine j_lload_n0 (n := 17) dX8_turned_16 rfl ?_
      refine j_iload6 (n := 19) dX8_turned_17 rfl ?_
      refine j_iload_n3 (n := 20) dX8_turned_19 rfl ?_
      refine j_ixor (n := 21) dX8_turned_20 rfl ?_
      refine j_topi (nI (i ^^^ m)) (fb_xorI i m) ?_
      refine j_fnS2 (n := 24) (con_X8_is ht (by omega)) dX8_turned_21 rfl cal_X8_is ml_X8_80 (Nat.le_of_ble_eq_true rfl) (Nat.le_of_ble_eq_true rfl) ?_
      refine j_bif_eq (n := 27) 34 dX8_turned_24 rfl (by decide) (fun e => ?_) (fun e => ?_)
      · refine j_lconst (n := 35) (lN 0) dX8_turned_34 rfl rfl ?_
        refine j_lor (n := 36) dX8_turned_35 rfl ?_
        refine j_topl (lN (mkT (i + 1) (fun r => t.testBit (r ^^^ m)))) (by rw [fb_orL]; simp [mkT, e]) ?_
        refine j_lstore4 (n := 38) dX8_turned_36 rfl (Nat.le_of_ble_eq_true rfl) rfl ?_
        refine j_inc6 (n := 41) dX8_turned_38 rfl (Nat.le_of_ble_eq_true rfl) rfl ?_
        refine j_goto 6 dX8_turned_41 (by decide) ?_
        exact ih
      · refine j_lconst (n := 28) (lN 1) dX8_turned_27 rfl rfl ?_
        refine j_iload6 (n := 30) dX8_turned_28 rfl ?_
        refine j_lshl (n := 31) dX8_turned_30 rfl ?_
        refine j_topl (lN (2 ^ i)) (al_shl1 (by omega)) ?_
        refine j_goto 35 dX8_turned_31 (by decide) ?_
        refine j_lor (n := 36) dX8_turned_35 rfl ?_
        refine j_topl (lN (mkT (i + 1) (fun r => t.testBit (r ^^^ m)))) (by rw [fb_orL]; simp [mkT, e]) ?_
        refine j_lstore4 (n := 38) dX8_turned_36 rfl (Nat.le_of_ble_eq_true rfl) rfl ?_
        refine j_inc6 (n := 41) dX8_turned_38 rfl (Nat.le_of_ble_eq_true rfl) rfl ?_
        refine j_goto 6 dX8_turned_41 (by decide) ?_
        exact ih
  exact key 0 (Nat.zero_le _)
theorem turnT_lt (n t m : Nat) : turnT n t m < 2 ^ 2 ^ n := mkT_lt _ _
theorem sp_turnT_lt {n t : Nat} (ht : t < 2 ^ 2 ^ n) (i : Int32) : sp_turnT n t i < 2 ^ 2 ^ n := by
  unfold sp_turnT
  split
  · exact Nat.xor_lt_two_pow (Nat.sub_lt (Nat.pos_of_ne_zero (by simp)) (by omega)) ht
  · exact turnT_lt _ _ _
set_option maxRecDepth 100000 in
theorem con_X8_turn {g : jG} {M : jMem} {q : jMq} {sn sT : Nat → Nat} (h34 : M 34 = .inr (7, oMod g q)) (h35 : M 35 = iA g 8 fun j => nI (sn j)) (h36 : M 36 = lA g 8 fun j => lN (sT j)) (ok : slOK sn sT) {s1 s2 i : Int32} : Con g jX8_turn 3 [.ref (jA g 34), .int s1, .int s2, .int i] M (fun v M2 => v = some (.int (sp_turn sn sT s1 s2 i).1) ∧ M2 = setM g 35 M (sp_turn sn sT s1 s2 i).2.1 (sp_turn sn sT s1 s2 i).2.2) := by
  have hid := setM_id h35 h36
  refine con_of (l := [some (.ref (jA g 34)), some (.int s1), some (.int s2), some (.int i), none, none]) (by decide) (Nat.le_of_ble_eq_true rfl) rfl ?_
  refine j_iload_n1 (n := 1) dX8_turn_0 rfl ?_
  refine j_fnS1 (n := 4) con_X8_isSlot dX8_turn_1 rfl cal_X8_isSlot ml_X8_88 (Nat.le_of_ble_eq_true rfl) (Nat.le_of_ble_eq_true rfl) ?_
  refine j_bif_eq (n := 7) 29 dX8_turn_4 rfl (by decide) (fun k1 => ?_) (fun k1 => ?_)
  · refine j_iconst (n := 30) (-1) dX8_turn_29 rfl (by decide) ?_
    refine j_iret dX8_turn_30 rfl ?_
    simp [sp_turn, k1, hid]
  refine j_iload_n2 (n := 8) dX8_turn_7 rfl ?_
  refine j_fnS1 (n := 11) con_X8_isSlot dX8_turn_8 rfl cal_X8_isSlot ml_X8_88 (Nat.le_of_ble_eq_true rfl) (Nat.le_of_ble_eq_true rfl) ?_
  refine j_bif_eq (n := 14) 29 dX8_turn_11 rfl (by decide) (fun k2 => ?_) (fun k2 => ?_)
  · refine j_iconst (n := 30) (-1) dX8_turn_29 rfl (by decide) ?_
    refine j_iret dX8_turn_30 rfl ?_
    simp [sp_turn, k1, k2, hid]
  obtain ⟨j1, hj1, rfl⟩ := isSl_of k1
  obtain ⟨j2, hj2, rfl⟩ := isSl_of k2
  have c1 := nI_clamp (show j1 < 2 ^ 31 by omega)
  have c2 := nI_clamp (show j2 < 2 ^ 31 by omega)
  have b2 := ok j2 hj2
  have b3 := ok.b hj2
  have hlt := sp_turnT_lt b2.2.2 i
  have hlt2 : sp_turnT (sn j2) (sT j2) i < 2 ^ 32 := Nat.lt_of_lt_of_le hlt (pw32 b2.2.1)
  have h74 : J g jX8_turn 3 (fun v M2 => v = some (.int (nI (cnt 32 (sp_turnT (sn j2) (sT j2) i).testBit))) ∧ M2 = setM g 35 M (va_up sn j1 (sn j2)) (va_up sT j1 (sp_turnT (sn j2) (sT j2) i))) 74 [some (.ref (jA g 34)), some (.int (nI j1)), some (.int (nI j2)), some (.int i), none, none] [.long (lN (sp_turnT (sn j2) (sT j2) i))] M := by
    refine j_lstore4 (n := 76) dX8_turn_74 rfl (Nat.le_of_ble_eq_true rfl) rfl ?_
    refine j_aload_n0 (n := 77) dX8_turn_76 rfl ?_
    refine j_iload_n1 (n := 78) dX8_turn_77 rfl ?_
    refine j_aload_n0 (n := 79) dX8_turn_78 rfl ?_
    refine j_get (n := 82) (k := 0) dX8_turn_79 rfl jcl7 (Nat.le_of_ble_eq_true rfl) fl_X8_7 (Nat.le_of_ble_eq_true rfl) (by first | assumption | rfl) (by rfl) ?_
    refine j_iload_n2 (n := 83) dX8_turn_82 rfl ?_
    refine j_iald_n (n := 84) dX8_turn_83 rfl (by first | decide | omega) (by first | assumption | rfl) (by decide) (by first | assumption | omega) ?_
    refine j_lload4 (n := 86) dX8_turn_84 rfl ?_
    refine j_cV3 (n := 89) (con_X8_set h34 h35 h36 hj1 (by omega)) dX8_turn_86 rfl cal_X8_set ml_X8_98 (Nat.le_of_ble_eq_true rfl) (by first | decide | omega) rfl rfl (Nat.le_of_ble_eq_true rfl) (by first | assumption | rfl) ?_
    rintro _ M2 ⟨rfl, rfl⟩
    refine j_iret dX8_turn_89 rfl ?_
    exact ⟨rfl, rfl⟩
  refine j_iload_n3 (n := 15) dX8_turn_14 rfl ?_
  refine j_ldc (n := 17) dX8_turn_15 rfl cn_X8_112 ?_
  refine j_icmp_eq (n := 20) 31 dX8_turn_17 rfl (by decide) (fun e => ?_) (fun e => ?_)
  · have hs : sp_turn sn sT (nI j1) (nI j2) i = (nI (cnt 32 (sp_turnT (sn j2) (sT j2) i).testBit), va_up sn j1 (sn j2), va_up sT j1 (sp_turnT (sn j2) (sT j2) i)) := by
      simp [sp_turn, k1, k2, c1, c2, e]
    rw [hs]
    refine j_iload_n3 (n := 32) dX8_turn_31 rfl ?_
    refine j_ldc (n := 34) dX8_turn_32 rfl cn_X8_112 ?_
    refine j_icmp_ne (n := 37) 56 dX8_turn_34 rfl (by decide) (fun e2 => ?_) (fun e2 => ?_)
    · exact absurd e e2
    refine j_aload_n0 (n := 38) dX8_turn_37 rfl ?_
    refine j_get (n := 41) (k := 0) dX8_turn_38 rfl jcl7 (Nat.le_of_ble_eq_true rfl) fl_X8_7 (Nat.le_of_ble_eq_true rfl) (by first | assumption | rfl) (by rfl) ?_
    refine j_iload_n2 (n := 42) dX8_turn_41 rfl ?_
    refine j_iald_n (n := 43) dX8_turn_42 rfl (by first | decide | omega) (by first | assumption | rfl) (by decide) (by first | assumption | omega) ?_
    refine j_fnS1 (n := 46) (con_X8_whole (by omega)) dX8_turn_43 rfl cal_X8_whole ml_X8_94 (Nat.le_of_ble_eq_true rfl) (Nat.le_of_ble_eq_true rfl) ?_
    refine j_aload_n0 (n := 47) dX8_turn_46 rfl ?_
    refine j_get (n := 50) (k := 1) dX8_turn_47 rfl jcl7 (Nat.le_of_ble_eq_true rfl) fl_X8_13 (Nat.le_of_ble_eq_true rfl) (by first | assumption | rfl) (by rfl) ?_
    refine j_iload_n2 (n := 51) dX8_turn_50 rfl ?_
    refine j_lald_n (n := 52) dX8_turn_51 rfl (by first | decide | omega) (by first | assumption | rfl) (by decide) (by first | assumption | omega) ?_
    refine j_lxor (n := 53) dX8_turn_52 rfl ?_
    refine j_topl (lN (sp_turnT (sn j2) (sT j2) i)) (by rw [fb_xorL]; simp [sp_turnT, e]) ?_
    refine j_goto 74 dX8_turn_53 (by decide) ?_
    exact h74
  refine j_aload_n0 (n := 21) dX8_turn_20 rfl ?_
  refine j_iload_n2 (n := 22) dX8_turn_21 rfl ?_
  refine j_iload_n3 (n := 23) dX8_turn_22 rfl ?_
  refine j_fnV2 (n := 26) (con_X8_isInput h34 h35 hj2) dX8_turn_23 rfl cal_X8_isInput ml_X8_113 (Nat.le_of_ble_eq_true rfl) (by first | decide | omega) rfl rfl (Nat.le_of_ble_eq_true rfl) (by first | assumption | rfl) ?_
  refine j_bif_ne (n := 29) 31 dX8_turn_26 rfl (by decide) (fun k3 => ?_) (fun k3 => ?_)
  rotate_left
  · refine j_iconst (n := 30) (-1) dX8_turn_29 rfl (by decide) ?_
    refine j_iret dX8_turn_30 rfl ?_
    simp [sp_turn, k1, k2, c1, c2, e, k3, hid]
  obtain ⟨ii, hii, rfl⟩ := isIn_of b2.1 b2.2.1 k3
  have ci := nI_clamp (show ii < 2 ^ 31 by omega)
  have hs : sp_turn sn sT (nI j1) (nI j2) (nI ii) = (nI (cnt 32 (sp_turnT (sn j2) (sT j2) (nI ii)).testBit), va_up sn j1 (sn j2), va_up sT j1 (sp_turnT (sn j2) (sT j2) (nI ii))) := by
    simp [sp_turn, k1, k2, c1, c2, e, k3]
  rw [hs]
  refine j_iload_n3 (n := 32) dX8_turn_31 rfl ?_
  refine j_ldc (n := 34) dX8_turn_32 rfl cn_X8_112 ?_
  refine j_icmp_ne (n := 37) 56 dX8_turn_34 rfl (by decide) (fun e2 => ?_) (fun e2 => ?_)
  rotate_left
  · exact absurd e2 e
  refine j_aload_n0 (n := 57) dX8_turn_56 rfl ?_
  refine j_get (n := 60) (k := 1) dX8_turn_57 rfl jcl7 (Nat.le_of_ble_eq_true rfl) fl_X8_13 (Nat.le_of_ble_eq_true rfl) (by first | assumption | rfl) (by rfl) ?_
  refine j_iload_n2 (n := 61) dX8_turn_60 rfl ?_
  refine j_lald_n (n := 62) dX8_turn_61 rfl (by first | decide | omega) (by first | assumption | rfl) (by decide) (by first | assumption | omega) ?_
  refine j_aload_n0 (n := 63) dX8_turn_62 rfl ?_
  refine j_get (n := 66) (k := 0) dX8_turn_63 rfl jcl7 (Nat.le_of_ble_eq_true rfl) fl_X8_7 (Nat.le_of_ble_eq_true rfl) (by first | assumption | rfl) (by rfl) ?_
  refine j_iload_n2 (n := 67) dX8_turn_66 rfl ?_
  refine j_iald_n (n := 68) dX8_turn_67 rfl (by first | decide | omega) (by first | assumption | rfl) (by decide) (by first | assumption | omega) ?_
  refine j_iconst (n := 69) (nI 1) dX8_turn_68 rfl (by decide) ?_
  refine j_iload_n3 (n := 70) dX8_turn_69 rfl ?_
  refine j_ishl (n := 71) dX8_turn_70 rfl ?_
  refine j_topi (nI (2 ^ ii)) (ai_shl1 (by omega)) ?_
  refine j_fnS3 (n := 74) (con_X8_turned (by omega) b2.2.1 (Nat.pow_lt_pow_right (by omega) hii)) dX8_turn_71 rfl cal_X8_turned ml_X8_117 (Nat.le_of_ble_eq_true rfl) (Nat.le_of_ble_eq_true rfl) ?_
  have he : sp_turnT (sn j2) (sT j2) (nI ii) = turnT (sn j2) (sT j2) (2 ^ ii) := by
    simp [sp_turnT, e, ci]
  rw [he] at h74 ⊢
  exact h74
set_option maxRecDepth 100000 in
theorem con_X8_matters {g : jG} {M : jMem} {q : jMq} {sn sT : Nat → Nat} (h34 : M 34 = .inr (7, oMod g q)) (h35 : M 35 = iA g 8 fun j => nI (sn j)) (h36 : M 36 = lA g 8 fun j => lN (sT j)) (ok : slOK sn sT) {s1 i : Int32} : Fn g jX8_matters 3 [.ref (jA g 34), .int s1, .int i] M (.int (sp_matters sn sT s1 i)) := by
  refine con_of (l := [some (.ref (jA g 34)), some (.int s1), some (.int i)]) (by decide) (Nat.le_of_ble_eq_true rfl) rfl ?_
  refine j_iload_n1 (n := 1) dX8_matters_0 rfl ?_
  refine j_fnS1 (n := 4) con_X8_isSlot dX8_matters_1 rfl cal_X8_isSlot ml_X8_88 (Nat.le_of_ble_eq_true rfl) (Nat.le_of_ble_eq_true rfl) ?_
  refine j_bif_eq (n := 7) 16 dX8_matters_4 rfl (by decide) (fun k1 => ?_) (fun k1 => ?_)
  · refine j_iconst (n := 17) (-1) dX8_matters_16 rfl (by decide) ?_
    refine j_iret dX8_matters_17 rfl ?_
    simp [sp_matters, k1]
  obtain ⟨j1, hj1, rfl⟩ := isSl_of k1
  have c1 := nI_clamp (show j1 < 2 ^ 31 by omega)
  have b2 := ok j1 hj1
  have b3 := ok.b hj1
  refine j_aload_n0 (n := 8) dX8_matters_7 rfl ?_
  refine j_iload_n1 (n := 9) dX8_matters_8 rfl ?_
  refine j_iload_n2 (n := 10) dX8_matters_9 rfl ?_
  refine j_fnV2 (n := 13) (con_X8_isInput h34 h35 hj1) dX8_matters_10 rfl cal_X8_isInput ml_X8_113 (Nat.le_of_ble_eq_true rfl) (by first | decide | omega) rfl rfl (Nat.le_of_ble_eq_true rfl) (by first | assumption | rfl) ?_
  refine j_bif_ne (n := 16) 18 dX8_matters_13 rfl (by decide) (fun k3 => ?_) (fun k3 => ?_)
  rotate_left
  · refine j_iconst (n := 17) (-1) dX8_matters_16 rfl (by decide) ?_
    refine j_iret dX8_matters_17 rfl ?_
    simp [sp_matters, k1, c1, k3]
  obtain ⟨ii, hii, rfl⟩ := isIn_of b2.1 b2.2.1 k3
  have ci := nI_clamp (show ii < 2 ^ 31 by omega)
  refine j_aload_n0 (n := 19) dX8_matters_18 rfl ?_
  refine j_get (n := 22) (k := 1) dX8_matters_19 rfl jcl7 (Nat.le_of_ble_eq_true rfl) fl_X8_13 (Nat.le_of_ble_eq_true rfl) (by first | assumption | rfl) (by rfl) ?_
  refine j_iload_n1 (n := 23) dX8_matters_22 rfl ?_
  refine j_lald_n (n := 24) dX8_matters_23 rfl (by first | decide | omega) (by first | assumption | rfl) (by decide) (by first | assumption | omega) ?_
  refine j_aload_n0 (n := 25) dX8_matters_24 rfl ?_
  refine j_get (n := 28) (k := 0) dX8_matters_25 rfl jcl7 (Nat.le_of_ble_eq_true rfl) fl_X8_7 (Nat.le_of_ble_eq_true rfl) (by first | assumption | rfl) (by rfl) ?_
  refine j_iload_n1 (n := 29) dX8_matters_28 rfl ?_
  refine j_iald_n (n := 30) dX8_matters_29 rfl (by first | decide | omega) (by first | assumption | rfl) (by decide) (by first | assumption | omega) ?_
  refine j_iconst (n := 31) (nI 1) dX8_matters_30 rfl (by decide) ?_
  refine j_iload_n2 (n := 32) dX8_matters_31 rfl ?_
  refine j_ishl (n := 33) dX8_matters_32 rfl ?_
  refine j_topi (nI (2 ^ ii)) (ai_shl1 (by omega)) ?_
  refine j_fnS3 (n := 36) (con_X8_turned (by omega) b2.2.1 (Nat.pow_lt_pow_right (by omega) hii)) dX8_matters_33 rfl cal_X8_turned ml_X8_117 (Nat.le_of_ble_eq_true rfl) (Nat.le_of_ble_eq_true rfl) ?_
  refine j_aload_n0 (n := 37) dX8_matters_36 rfl ?_
  refine j_get (n := 40) (k := 1) dX8_matters_37 rfl jcl7 (Nat.le_of_ble_eq_true rfl) fl_X8_13 (Nat.le_of_ble_eq_true rfl) (by first | assumption | rfl) (by rfl) ?_
  refine j_iload_n1 (n := 41) dX8_matters_40 rfl ?_
  refine j_lald_n (n := 42) dX8_matters_41 rfl (by first | decide | omega) (by first | assumption | rfl) (by decide) (by first | assumption | omega) ?_
  refine j_lcmp (n := 43) dX8_matters_42 rfl ?_
  have hl := Nat.lt_of_lt_of_le (turnT_lt (sn j1) (sT j1) (2 ^ ii)) (pw32 b2.2.1)
  refine j_lif_ne (n := 46) 50 dX8_matters_43 rfl (by decide) (fun e => ?_) (fun e => ?_)
  · refine j_iconst (n := 51) (nI 1) dX8_matters_50 rfl (by decide) ?_
    refine j_iret dX8_matters_51 rfl ?_
    have e2 : ¬ turnT (sn j1) (sT j1) (2 ^ ii) = sT j1 := fun z => e (by rw [z])
    simp [sp_matters, k1, c1, k3, ci, e2]
  · refine j_iconst (n := 47) (nI 0) dX8_matters_46 rfl (by decide) ?_
    refine j_goto 51 dX8_matters_47 (by decide) ?_
    refine j_iret dX8_matters_51 rfl ?_
    have e2 : turnT (sn j1) (sT j1) (2 ^ ii) = sT j1 := (pk_lEQ (by omega) (by omega)).mp e
    simp [sp_matters, k1, c1, k3, ci, e2]
