theorem cnt_32 {n t : Nat} (hn : n ≤ 5) (ht : t < 2 ^ 2 ^ n) (f : Nat → Bool) : cnt 32 (fun r => t.testBit r && f r) = cnt (2 ^ n) (fun r => t.testBit r && f r) := by
  have h5 := pw5 hn
  have e : 32 = 2 ^ n + (32 - 2 ^ n) := by omega
  rw [e]
  apply cnt_more
  intro r h1 _
  rw [tb_no ht h1]
  rfl
set_option maxRecDepth 100000 in
theorem con_X7_turn {g : jG} {M : jMem} {sn sT : Nat → Nat} (h0 : M 0 = .inr (6, oX g)) (h1 : M 1 = iA g 8 fun j => nI (sn j)) (h2 : M 2 = lA g 8 fun j => lN (sT j)) (ok : slOK sn sT) {s1 s2 i : Int32} : Con g jX7_turn 3 [.ref (jA g 0), .int s1, .int s2, .int i] M (fun v M2 => v = some (.int (sp_turn sn sT s1 s2 i).1) ∧ M2 = setM g 1 M (sp_turn sn sT s1 s2 i).2.1 (sp_turn sn sT s1 s2 i).2.2) := by
  have hid := setM_id h1 h2
  refine con_of (l := [some (.ref (jA g 0)), some (.int s1), some (.int s2), some (.int i), none, none, none]) (by decide) (Nat.le_of_ble_eq_true rfl) rfl ?_
  refine j_iload_n1 (n := 1) dX7_turn_0 rfl ?_
  refine j_fnS1 (n := 4) con_X7_isSlot dX7_turn_1 rfl cal_X7_isSlot ml_X7_58 (Nat.le_of_ble_eq_true rfl) (Nat.le_of_ble_eq_true rfl) ?_
  refine j_bif_eq (n := 7) 29 dX7_turn_4 rfl (by decide) (fun k1 => ?_) (fun k1 => ?_)
  · refine j_iconst (n := 30) (-1) dX7_turn_29 rfl (by decide) ?_
    refine j_iret dX7_turn_30 rfl ?_
    simp [sp_turn, k1, hid]
  refine j_iload_n2 (n := 8) dX7_turn_7 rfl ?_
  refine j_fnS1 (n := 11) con_X7_isSlot dX7_turn_8 rfl cal_X7_isSlot ml_X7_58 (Nat.le_of_ble_eq_true rfl) (Nat.le_of_ble_eq_true rfl) ?_
  refine j_bif_eq (n := 14) 29 dX7_turn_11 rfl (by decide) (fun k2 => ?_) (fun k2 => ?_)
  · refine j_iconst (n := 30) (-1) dX7_turn_29 rfl (by decide) ?_
    refine j_iret dX7_turn_30 rfl ?_
    simp [sp_turn, k1, k2, hid]
  obtain ⟨j1, hj1, rfl⟩ := isSl_of k1
  obtain ⟨j2, hj2, rfl⟩ := isSl_of k2
  have c1 := nI_clamp (show j1 < 2 ^ 31 by omega)
  have c2 := nI_clamp (show j2 < 2 ^ 31 by omega)
  have b2 := ok j2 hj2
  have b3 := ok.b hj2
  have hlt := sp_turnT_lt b2.2.2 i
  have hlt2 : sp_turnT (sn j2) (sT j2) i < 2 ^ 32 := Nat.lt_of_lt_of_le hlt (pw32 b2.2.1)
  have h70 : J g jX7_turn 3 (fun v M2 => v = some (.int (nI (cnt 32 (sp_turnT (sn j2) (sT j2) i).testBit))) ∧ M2 = setM g 1 M (va_up sn j1 (sn j2)) (va_up sT j1 (sp_turnT (sn j2) (sT j2) i))) 70 [some (.ref (jA g 0)), some (.int (nI j1)), some (.int (nI j2)), some (.int i), some (.int (nI (sn j2))), none, none] [.long (lN (sp_turnT (sn j2) (sT j2) i))] M := by
    refine j_lstore5 (n := 72) dX7_turn_70 rfl (Nat.le_of_ble_eq_true rfl) rfl ?_
    refine j_aload_n0 (n := 73) dX7_turn_72 rfl ?_
    refine j_iload_n1 (n := 74) dX7_turn_73 rfl ?_
    refine j_iload4 (n := 76) dX7_turn_74 rfl ?_
    refine j_lload5 (n := 78) dX7_turn_76 rfl ?_
    refine j_cV3 (n := 81) (con_X7_keep h0 h1 h2 hj1 (by omega)) dX7_turn_78 rfl cal_X7_keep ml_X7_72 (Nat.le_of_ble_eq_true rfl) (by first | decide | omega) rfl rfl (Nat.le_of_ble_eq_true rfl) (by first | assumption | rfl) ?_
    rintro _ M2 ⟨rfl, rfl⟩
    refine j_iret dX7_turn_81 rfl ?_
    exact ⟨rfl, rfl⟩
  refine j_iload_n3 (n := 15) dX7_turn_14 rfl ?_
  refine j_ldc (n := 17) dX7_turn_15 rfl cn_X7_89 ?_
  refine j_icmp_eq (n := 20) 31 dX7_turn_17 rfl (by decide) (fun e => ?_) (fun e => ?_)
  · have hs : sp_turn sn sT (nI j1) (nI j2) i = (nI (cnt 32 (sp_turnT (sn j2) (sT j2) i).testBit), va_up sn j1 (sn j2), va_up sT j1 (sp_turnT (sn j2) (sT j2) i)) := by
      simp [sp_turn, k1, k2, c1, c2, e]
    rw [hs]
    refine j_aload_n0 (n := 32) dX7_turn_31 rfl ?_
    refine j_get (n := 35) (k := 0) dX7_turn_32 rfl jcl6 (Nat.le_of_ble_eq_true rfl) fl_X7_9 (Nat.le_of_ble_eq_true rfl) (by first | assumption | rfl) (by rfl) ?_
    refine j_iload_n2 (n := 36) dX7_turn_35 rfl ?_
    refine j_iald_n (n := 37) dX7_turn_36 rfl (by first | decide | omega) (by first | assumption | rfl) (by decide) (by first | assumption | omega) ?_
    refine j_istore4 (n := 39) dX7_turn_37 rfl (Nat.le_of_ble_eq_true rfl) rfl ?_
    refine j_iload_n3 (n := 40) dX7_turn_39 rfl ?_
    refine j_ldc (n := 42) dX7_turn_40 rfl cn_X7_89 ?_
    refine j_icmp_ne (n := 45) 60 dX7_turn_42 rfl (by decide) (fun e2 => ?_) (fun e2 => ?_)
    · exact absurd e e2
    refine j_aload_n0 (n := 46) dX7_turn_45 rfl ?_
    refine j_get (n := 49) (k := 1) dX7_turn_46 rfl jcl6 (Nat.le_of_ble_eq_true rfl) fl_X7_13 (Nat.le_of_ble_eq_true rfl) (by first | assumption | rfl) (by rfl) ?_
    refine j_iload_n2 (n := 50) dX7_turn_49 rfl ?_
    refine j_lald_n (n := 51) dX7_turn_50 rfl (by first | decide | omega) (by first | assumption | rfl) (by decide) (by first | assumption | omega) ?_
    refine j_iload4 (n := 53) dX7_turn_51 rfl ?_
    refine j_fnS1 (n := 56) (con_X5_all (by omega)) dX7_turn_53 rfl cal_X5_all ml_X7_66 (Nat.le_of_ble_eq_true rfl) (Nat.le_of_ble_eq_true rfl) ?_
    refine j_lxor (n := 57) dX7_turn_56 rfl ?_
    refine j_topl (lN (sp_turnT (sn j2) (sT j2) i)) (by rw [fb_xorL, Nat.xor_comm]; simp [sp_turnT, e]) ?_
    refine j_goto 70 dX7_turn_57 (by decide) ?_
    exact h70
  refine j_aload_n0 (n := 21) dX7_turn_20 rfl ?_
  refine j_iload_n2 (n := 22) dX7_turn_21 rfl ?_
  refine j_iload_n3 (n := 23) dX7_turn_22 rfl ?_
  refine j_fnV2 (n := 26) (con_X7_isInput h0 h1) dX7_turn_23 rfl cal_X7_isInput ml_X7_90 (Nat.le_of_ble_eq_true rfl) (by first | decide | omega) rfl rfl (Nat.le_of_ble_eq_true rfl) (by first | assumption | rfl) ?_
  have e8 : (isSl (nI j2) && isIn (sn (nI j2).toNatClampNeg) i) = isIn (sn j2) i := by rw [k2, c2]; rfl
  rw [e8]
  refine j_bif_ne (n := 29) 31 dX7_turn_26 rfl (by decide) (fun k3 => ?_) (fun k3 => ?_)
  rotate_left
  · refine j_iconst (n := 30) (-1) dX7_turn_29 rfl (by decide) ?_
    refine j_iret dX7_turn_30 rfl ?_
    simp [sp_turn, k1, k2, c1, c2, e, k3, hid]
  obtain ⟨ii, hii, rfl⟩ := isIn_of b2.1 b2.2.1 k3
  have ci := nI_clamp (show ii < 2 ^ 31 by omega)
  have hs : sp_turn sn sT (nI j1) (nI j2) (nI ii) = (nI (cnt 32 (sp_turnT (sn j2) (sT j2) (nI ii)).testBit), va_up sn j1 (sn j2), va_up sT j1 (sp_turnT (sn j2) (sT j2) (nI ii))) := by
    simp [sp_turn, k1, k2, c1, c2, e, k3]
  rw [hs]
  refine j_aload_n0 (n := 32) dX7_turn_31 rfl ?_
  refine j_get (n := 35) (k := 0) dX7_turn_32 rfl jcl6 (Nat.le_of_ble_eq_true rfl) fl_X7_9 (Nat.le_of_ble_eq_true rfl) (by first | assumption | rfl) (by rfl) ?_
  refine j_iload_n2 (n := 36) dX7_turn_35 rfl ?_
  refine j_iald_n (n := 37) dX7_turn_36 rfl (by first | decide | omega) (by first | assumption | rfl) (by decide) (by first | assumption | omega) ?_
  refine j_istore4 (n := 39) dX7_turn_37 rfl (Nat.le_of_ble_eq_true rfl) rfl ?_
  refine j_iload_n3 (n := 40) dX7_turn_39 rfl ?_
  refine j_ldc (n := 42) dX7_turn_40 rfl cn_X7_89 ?_
  refine j_icmp_ne (n := 45) 60 dX7_turn_42 rfl (by decide) (fun e2 => ?_) (fun e2 => ?_)
  rotate_left
  · exact absurd e2 e
  refine j_aload_n0 (n := 61) dX7_turn_60 rfl ?_
  refine j_get (n := 64) (k := 1) dX7_turn_61 rfl jcl6 (Nat.le_of_ble_eq_true rfl) fl_X7_13 (Nat.le_of_ble_eq_true rfl) (by first | assumption | rfl) (by rfl) ?_
  refine j_iload_n2 (n := 65) dX7_turn_64 rfl ?_
  refine j_lald_n (n := 66) dX7_turn_65 rfl (by first | decide | omega) (by first | assumption | rfl) (by decide) (by first | assumption | omega) ?_
  refine j_iload_n3 (n := 67) dX7_turn_66 rfl ?_
  refine j_fnS2 (n := 70) (con_X5_inputTurned b2.2.1 b2.2.2 hii) dX7_turn_67 rfl cal_X5_inputTurned ml_X7_94 (Nat.le_of_ble_eq_true rfl) (Nat.le_of_ble_eq_true rfl) ?_
  have he : sp_turnT (sn j2) (sT j2) (nI ii) = turnT (sn j2) (sT j2) (2 ^ ii) := by
    simp [sp_turnT, e, ci]
  rw [he] at h70 ⊢
  exact h70
set_option maxRecDepth 100000 in
theorem con_X7_matters {g : jG} {M : jMem} {sn sT : Nat → Nat} (h0 : M 0 = .inr (6, oX g)) (h1 : M 1 = iA g 8 fun j => nI (sn j)) (h2 : M 2 = lA g 8 fun j => lN (sT j)) (ok : slOK sn sT) {s1 i : Int32} : Fn g jX7_matters 3 [.ref (jA g 0), .int s1, .int i] M (.int (sp_matters sn sT s1 i)) := by
  refine con_of (l := [some (.ref (jA g 0)), some (.int s1), some (.int i)]) (by decide) (Nat.le_of_ble_eq_true rfl) rfl ?_
  refine j_aload_n0 (n := 1) dX7_matters_0 rfl ?_
  refine j_iload_n1 (n := 2) dX7_matters_1 rfl ?_
  refine j_iload_n2 (n := 3) dX7_matters_2 rfl ?_
  refine j_fnV2 (n := 6) (con_X7_isInput h0 h1) dX7_matters_3 rfl cal_X7_isInput ml_X7_90 (Nat.le_of_ble_eq_true rfl) (by first | decide | omega) rfl rfl (Nat.le_of_ble_eq_true rfl) (by first | assumption | rfl) ?_
  refine j_bif_ne (n := 9) 11 dX7_matters_6 rfl (by decide) (fun k => ?_) (fun k => ?_)
  rotate_left
  · refine j_iconst (n := 10) (-1) dX7_matters_9 rfl (by decide) ?_
    refine j_iret dX7_matters_10 rfl ?_
    cases k1 : isSl s1 with
    | false => simp [sp_matters, k1]
    | true => simp [k1] at k; simp [sp_matters, k1, k]
  have k1 : isSl s1 = true := by cases h : isSl s1 with
    | true => rfl
    | false => rw [h] at k; cases k
  obtain ⟨j1, hj1, rfl⟩ := isSl_of k1
  have c1 := nI_clamp (show j1 < 2 ^ 31 by omega)
  have b2 := ok j1 hj1
  have b3 := ok.b hj1
  have k3 : isIn (sn j1) i = true := by rw [k1, c1] at k; exact k
  obtain ⟨ii, hii, rfl⟩ := isIn_of b2.1 b2.2.1 k3
  have ci := nI_clamp (show ii < 2 ^ 31 by omega)
  refine j_aload_n0 (n := 12) dX7_matters_11 rfl ?_
  refine j_get (n := 15) (k := 1) dX7_matters_12 rfl jcl6 (Nat.le_of_ble_eq_true rfl) fl_X7_13 (Nat.le_of_ble_eq_true rfl) (by first | assumption | rfl) (by rfl) ?_
  refine j_iload_n1 (n := 16) dX7_matters_15 rfl ?_
  refine j_lald_n (n := 17) dX7_matters_16 rfl (by first | decide | omega) (by first | assumption | rfl) (by decide) (by first | assumption | omega) ?_
  refine j_iload_n2 (n := 18) dX7_matters_17 rfl ?_
  refine j_fnS2 (n := 21) (con_X5_inputTurned b2.2.1 b2.2.2 hii) dX7_matters_18 rfl cal_X5_inputTurned ml_X7_94 (Nat.le_of_ble_eq_true rfl) (Nat.le_of_ble_eq_true rfl) ?_
  refine j_aload_n0 (n := 22) dX7_matters_21 rfl ?_
  refine j_get (n := 25) (k := 1) dX7_matters_22 rfl jcl6 (Nat.le_of_ble_eq_true rfl) fl_X7_13 (Nat.le_of_ble_eq_true rfl) (by first | assumption | rfl) (by rfl) ?_
  refine j_iload_n1 (n := 26) dX7_matters_25 rfl ?_
  refine j_lald_n (n := 27) dX7_matters_26 rfl (by first | decide | omega) (by first | assumption | rfl) (by decide) (by first | assumption | omega) ?_
  refine j_lcmp (n := 28) dX7_matters_27 rfl ?_
  have hl := Nat.lt_of_lt_of_le (turnT_lt (sn j1) (sT j1) (2 ^ ii)) (pw32 b2.2.1)
  refine j_lif_eq (n := 31) 35 dX7_matters_28 rfl (by decide) (fun e => ?_) (fun e => ?_)
  · refine j_iconst (n := 36) (nI 0) dX7_matters_35 rfl (by decide) ?_
    refine j_iret dX7_matters_36 rfl ?_
    have e2 : turnT (sn j1) (sT j1) (2 ^ ii) = sT j1 := (pk_lEQ (by omega) (by omega)).mp e
    simp [sp_matters, k1, c1, k3, ci, e2]
  · refine j_iconst (n := 32) (nI 1) dX7_matters_31 rfl (by decide) ?_
    refine j_goto 36 dX7_matters_32 (by decide) ?_
    refine j_iret dX7_matters_36 rfl ?_
    have e2 : ¬ turnT (sn j1) (sT j1) (2 ^ ii) = sT j1 := fun z => e (by rw [z])
    simp [sp_matters, k1, c1, k3, ci, e2]
set_option maxRecDepth 100000 in
theorem con_X7_ones {g : jG} {M : jMem} {sn sT : Nat → Nat} (h0 : M 0 = .inr (6, oX g)) (h1 : M 1 = iA g 8 fun j => nI (sn j)) (h2 : M 2 = lA g 8 fun j => lN (sT j)) (ok : slOK sn sT) {s1 i : Int32} : Fn g jX7_ones 3 [.ref (jA g 0), .int s1, .int i] M (.int (sp_ones sn sT s1 i)) := by
  refine con_of (l := [some (.ref (jA g 0)), some (.int s1), some (.int i)]) (by decide) (Nat.le_of_ble_eq_true rfl) rfl ?_
  refine j_iload_n1 (n := 1) dX7_ones_0 rfl ?_
  refine j_fnS1 (n := 4) con_X7_isSlot dX7_ones_1 rfl cal_X7_isSlot ml_X7_58 (Nat.le_of_ble_eq_true rfl) (Nat.le_of_ble_eq_true rfl) ?_
  refine j_bif_eq (n := 7) 22 dX7_ones_4 rfl (by decide) (fun k1 => ?_) (fun k1 => ?_)
  · refine j_iconst (n := 23) (-1) dX7_ones_22 rfl (by decide) ?_
    refine j_iret dX7_ones_23 rfl ?_
    simp [sp_ones, k1]
  obtain ⟨j1, hj1, rfl⟩ := isSl_of k1
  have c1 := nI_clamp (show j1 < 2 ^ 31 by omega)
  have b2 := ok j1 hj1
  have b3 := ok.b hj1
  refine j_iload_n2 (n := 8) dX7_ones_7 rfl ?_
  refine j_ldc (n := 10) dX7_ones_8 rfl cn_X7_89 ?_
  refine j_icmp_eq (n := 13) 24 dX7_ones_10 rfl (by decide) (fun e => ?_) (fun e => ?_)
  · refine j_iload_n2 (n := 25) dX7_ones_24 rfl ?_
    refine j_ldc (n := 27) dX7_ones_25 rfl cn_X7_89 ?_
    refine j_icmp_ne (n := 30) 42 dX7_ones_27 rfl (by decide) (fun e2 => ?_) (fun e2 => ?_)
    · exact absurd e e2
    refine j_aload_n0 (n := 31) dX7_ones_30 rfl ?_
    refine j_get (n := 34) (k := 1) dX7_ones_31 rfl jcl6 (Nat.le_of_ble_eq_true rfl) fl_X7_13 (Nat.le_of_ble_eq_true rfl) (by first | assumption | rfl) (by rfl) ?_
    refine j_iload_n1 (n := 35) dX7_ones_34 rfl ?_
    refine j_lald_n (n := 36) dX7_ones_35 rfl (by first | decide | omega) (by first | assumption | rfl) (by decide) (by first | assumption | omega) ?_
    refine j_fnS1 (n := 39) (con_J13_bitCount_95d88 b3) dX7_ones_36 rfl cal_J13_bitCount_95d88 ml_X7_102 (Nat.le_of_ble_eq_true rfl) (Nat.le_of_ble_eq_true rfl) ?_
    refine j_goto 52 dX7_ones_39 (by decide) ?_
    refine j_iret dX7_ones_52 rfl ?_
    have q := cnt_32 b2.2.1 b2.2.2 (fun _ => true)
    simp only [Bool.and_true] at q
    simp [sp_ones, k1, c1, e, q]
  refine j_aload_n0 (n := 14) dX7_ones_13 rfl ?_
  refine j_iload_n1 (n := 15) dX7_ones_14 rfl ?_
  refine j_iload_n2 (n := 16) dX7_ones_15 rfl ?_
  refine j_fnV2 (n := 19) (con_X7_isInput h0 h1) dX7_ones_16 rfl cal_X7_isInput ml_X7_90 (Nat.le_of_ble_eq_true rfl) (by first | decide | omega) rfl rfl (Nat.le_of_ble_eq_true rfl) (by first | assumption | rfl) ?_
  have e8 : (isSl (nI j1) && isIn (sn (nI j1).toNatClampNeg) i) = isIn (sn j1) i := by rw [k1, c1]; rfl
  rw [e8]
  refine j_bif_ne (n := 22) 24 dX7_ones_19 rfl (by decide) (fun k3 => ?_) (fun k3 => ?_)
  rotate_left
  · refine j_iconst (n := 23) (-1) dX7_ones_22 rfl (by decide) ?_
    refine j_iret dX7_ones_23 rfl ?_
    simp [sp_ones, k1, c1, e, k3]
  obtain ⟨ii, hii, rfl⟩ := isIn_of b2.1 b2.2.1 k3
  have ci := nI_clamp (show ii < 2 ^ 31 by omega)
  refine j_iload_n2 (n := 25) dX7_ones_24 rfl ?_
  refine j_ldc (n := 27) dX7_ones_25 rfl cn_X7_89 ?_
  refine j_icmp_ne (n := 30) 42 dX7_ones_27 rfl (by decide) (fun e2 => ?_) (fun e2 => ?_)
  rotate_left
  · exact absurd e2 e
  refine j_aload_n0 (n := 43) dX7_ones_42 rfl ?_
  refine j_get (n := 46) (k := 1) dX7_ones_43 rfl jcl6 (Nat.le_of_ble_eq_true rfl) fl_X7_13 (Nat.le_of_ble_eq_true rfl) (by first | assumption | rfl) (by rfl) ?_
  refine j_iload_n1 (n := 47) dX7_ones_46 rfl ?_
  refine j_lald_n (n := 48) dX7_ones_47 rfl (by first | decide | omega) (by first | assumption | rfl) (by decide) (by first | assumption | omega) ?_
  refine j_iload_n2 (n := 49) dX7_ones_48 rfl ?_
  refine j_fnS2 (n := 52) (con_X5_onesWith b3 (by omega)) dX7_ones_49 rfl cal_X5_onesWith ml_X7_108 (Nat.le_of_ble_eq_true rfl) (Nat.le_of_ble_eq_true rfl) ?_
  refine j_iret dX7_ones_52 rfl ?_
  have q := cnt_32 b2.2.1 b2.2.2 (fun r => r.testBit ii)
  simp [sp_ones, k1, c1, e, k3, ci, q]
set_option maxRecDepth 100000 in
theorem con_X7_hold {g : jG} {M : jMem} {sn sT : Nat → Nat} (h0 : M 0 = .inr (6, oX g)) (h1 : M 1 = iA g 8 fun j => nI (sn j)) (h2 : M 2 = lA g 8 fun j => lN (sT j)) (ok : slOK sn sT) {s1 s2 i : Int32} {is : Bool} : Con g jX7_hold 3 [.ref (jA g 0), .int s1, .int s2, .int i, .int (jB is)] M (fun v M2 => v = some (.int (sp_hold sn sT s1 s2 i is).1) ∧ M2 = setM g 1 M (sp_hold sn sT s1 s2 i is).2.1 (sp_hold sn sT s1 s2 i is).2.2) := by
  have hid := setM_id h1 h2
  refine con_of (l := [some (.ref (jA g 0)), some (.int s1), some (.int s2), some (.int i), some (.int (jB is)), none]) (by decide) (Nat.le_of_ble_eq_true rfl) rfl ?_
  refine j_iload_n1 (n := 1) dX7_hold_0 rfl ?_
  refine j_fnS1 (n := 4) con_X7_isSlot dX7_hold_1 rfl cal_X7_isSlot ml_X7_58 (Nat.le_of_ble_eq_true rfl) (Nat.le_of_ble_eq_true rfl) ?_
  refine j_bif_eq (n := 7) 16 dX7_hold_4 rfl (by decide) (fun k1 => ?_) (fun k1 => ?_)
  · refine j_iconst (n := 17) (-1) dX7_hold_16 rfl (by decide) ?_
    refine j_iret dX7_hold_17 rfl ?_
    simp [sp_hold, k1, hid]
  refine j_aload_n0 (n := 8) dX7_hold_7 rfl ?_
  refine j_iload_n2 (n := 9) dX7_hold_8 rfl ?_
  refine j_iload_n3 (n := 10) dX7_hold_9 rfl ?_
  refine j_fnV2 (n := 13) (con_X7_isInput h0 h1) dX7_hold_10 rfl cal_X7_isInput ml_X7_90 (Nat.le_of_ble_eq_true rfl) (by first | decide | omega) rfl rfl (Nat.le_of_ble_eq_true rfl) (by first | assumption | rfl) ?_
  refine j_bif_ne (n := 16) 18 dX7_hold_13 rfl (by decide) (fun k => ?_) (fun k => ?_)
  rotate_left
  · refine j_iconst (n := 17) (-1) dX7_hold_16 rfl (by decide) ?_
    refine j_iret dX7_hold_17 rfl ?_
    cases k2 : isSl s2 with
    | false => simp [sp_hold, k1, k2, hid]
    | true => simp [k2] at k; simp [sp_hold, k1, k2, k, hid]
  have k2 : isSl s2 = true := by cases h : isSl s2 with
    | true => rfl
    | false => rw [h] at k; cases k
  obtain ⟨j1, hj1, rfl⟩ := isSl_of k1
  obtain ⟨j2, hj2, rfl⟩ := isSl_of k2
  have c1 := nI_clamp (show j1 < 2 ^ 31 by omega)
  have c2 := nI_clamp (show j2 < 2 ^ 31 by omega)
  have b2 := ok j2 hj2
  have b3 := ok.b hj2
  have k3 : isIn (sn j2) i = true := by rw [k2, c2] at k; exact k
  obtain ⟨ii, hii, rfl⟩ := isIn_of b2.1 b2.2.1 k3
  have ci := nI_clamp (show ii < 2 ^ 31 by omega)
  refine j_aload_n0 (n := 19) dX7_hold_18 rfl ?_
  refine j_get (n := 22) (k := 0) dX7_hold_19 rfl jcl6 (Nat.le_of_ble_eq_true rfl) fl_X7_9 (Nat.le_of_ble_eq_true rfl) (by first | assumption | rfl) (by rfl) ?_
  refine j_iload_n2 (n := 23) dX7_hold_22 rfl ?_
  refine j_iald_n (n := 24) dX7_hold_23 rfl (by first | decide | omega) (by first | assumption | rfl) (by decide) (by first | assumption | omega) ?_
  refine j_iconst (n := 25) (nI 1) dX7_hold_24 rfl (by decide) ?_
  refine j_nicmp_ne (n := 28) 31 dX7_hold_25 rfl (by decide) (by omega) (by omega) (fun e => ?_) (fun e => ?_)
  rotate_left
  · refine j_bipush (n := 30) (-3) dX7_hold_28 rfl (by decide) ?_
    refine j_iret dX7_hold_30 rfl ?_
    rw [e] at k3
    simp [sp_hold, k1, k2, c1, c2, k3, e, hid]
  have hs : sp_hold sn sT (nI j1) (nI j2) (nI ii) is = (nI (sn j2 - 1), va_up sn j1 (sn j2 - 1), va_up sT j1 (holdT (sn j2) (sT j2) ii is)) := by
    simp [sp_hold, k1, k2, c1, c2, k3, e, ci]
  rw [hs]
  have h16 : 2 ^ (sn j2 - 1) ≤ 2 ^ 4 := Nat.pow_le_pow_right (by omega) (by omega)
  have hlt := holdT_lt (sn j2) (sT j2) ii is
  have hlt2 : 2 ^ 2 ^ (sn j2 - 1) ≤ 2 ^ 2 ^ 4 := Nat.pow_le_pow_right (by omega) h16
  refine j_aload_n0 (n := 32) dX7_hold_31 rfl ?_
  refine j_get (n := 35) (k := 0) dX7_hold_32 rfl jcl6 (Nat.le_of_ble_eq_true rfl) fl_X7_9 (Nat.le_of_ble_eq_true rfl) (by first | assumption | rfl) (by rfl) ?_
  refine j_iload_n2 (n := 36) dX7_hold_35 rfl ?_
  refine j_iald_n (n := 37) dX7_hold_36 rfl (by first | decide | omega) (by first | assumption | rfl) (by decide) (by first | assumption | omega) ?_
  refine j_iconst (n := 38) (nI 1) dX7_hold_37 rfl (by decide) ?_
  refine j_isub (n := 39) dX7_hold_38 rfl ?_
  refine j_topi (nI (sn j2 - 1)) (pk_sub b2.1) ?_
  refine j_istore5 (n := 41) dX7_hold_39 rfl (Nat.le_of_ble_eq_true rfl) rfl ?_
  refine j_aload_n0 (n := 42) dX7_hold_41 rfl ?_
  refine j_iload_n1 (n := 43) dX7_hold_42 rfl ?_
  refine j_iload5 (n := 45) dX7_hold_43 rfl ?_
  refine j_iload5 (n := 47) dX7_hold_45 rfl ?_
  refine j_aload_n0 (n := 48) dX7_hold_47 rfl ?_
  refine j_get (n := 51) (k := 1) dX7_hold_48 rfl jcl6 (Nat.le_of_ble_eq_true rfl) fl_X7_13 (Nat.le_of_ble_eq_true rfl) (by first | assumption | rfl) (by rfl) ?_
  refine j_iload_n2 (n := 52) dX7_hold_51 rfl ?_
  refine j_lald_n (n := 53) dX7_hold_52 rfl (by first | decide | omega) (by first | assumption | rfl) (by decide) (by first | assumption | omega) ?_
  refine j_iload_n3 (n := 54) dX7_hold_53 rfl ?_
  refine j_iload4 (n := 56) dX7_hold_54 rfl ?_
  refine j_fnS4 (n := 59) (con_X5_inputHeld b2.2.1 b2.1 b3 hii) dX7_hold_56 rfl cal_X5_inputHeld ml_X7_98 (Nat.le_of_ble_eq_true rfl) (Nat.le_of_ble_eq_true rfl) ?_
  refine j_cV3 (n := 62) (con_X7_keep h0 h1 h2 hj1 (t := holdT (sn j2) (sT j2) ii is) (by omega)) dX7_hold_59 rfl cal_X7_keep ml_X7_72 (Nat.le_of_ble_eq_true rfl) (by first | decide | omega) rfl rfl (Nat.le_of_ble_eq_true rfl) (by first | assumption | rfl) ?_
  rintro _ M2 ⟨rfl, rfl⟩
  refine j_pop (n := 63) dX7_hold_62 rfl rfl ?_
  refine j_iload5 (n := 65) dX7_hold_63 rfl ?_
  refine j_iret dX7_hold_65 rfl ?_
  exact ⟨rfl, rfl⟩
set_option maxRecDepth 100000 in
theorem con_X7_sumAt {g : jG} {M : jMem} {r m u : Nat} (hr : r < 32) (hm : m ≤ 5) (hu : u < 2 ^ 62) : Fn g jX7_sumAt 1 [.int (nI r), .int (nI m), .long (lN u)] M (.int (iI (wSum u r m))) := by
  refine con_of (l := [some (.int (nI r)), some (.int (nI m)), some (.long (lN u)), none, none, none, none, none]) (by decide) (Nat.le_of_ble_eq_true rfl) rfl ?_
  refine j_iconst (n := 1) (nI 0) dX7_sumAt_0 rfl (by decide) ?_
  refine j_istore4 (n := 3) dX7_sumAt_1 rfl (Nat.le_of_ble_eq_true rfl) rfl ?_
  refine j_lload_n2 (n := 4) dX7_sumAt_3 rfl ?_
  refine j_lstore5 (n := 6) dX7_sumAt_4 rfl (Nat.le_of_ble_eq_true rfl) rfl ?_
  refine j_iconst (n := 7) (nI 0) dX7_sumAt_6 rfl (by decide) ?_
  refine j_istore7 (n := 9) dX7_sumAt_7 rfl (Nat.le_of_ble_eq_true rfl) rfl ?_
  have inner : ∀ i, i ≤ m → J g jX7_sumAt 1 (fun v M2 => v = some (.int (iI (wSum u r m))) ∧ M2 = M) 9 [some (.int (nI r)), some (.int (nI m)), some (.long (lN u)), none, some (.int (iI (wSum u r i))), some (.long (lN (u / 100 ^ i))), none, some (.int (nI i))] [] M := by
    refine j_for ?_ ?_
    · refine j_iload7 (n := 11) dX7_sumAt_9 rfl ?_
      refine j_iload_n1 (n := 12) dX7_sumAt_11 rfl ?_
      refine j_nicmp_ge (n := 15) 53 dX7_sumAt_12 rfl (by decide) (by omega) (by omega) (fun h => ?_) (fun h => ?_)
      rotate_left
      · omega
      refine j_iload4 (n := 55) dX7_sumAt_53 rfl ?_
      refine j_iret dX7_sumAt_55 rfl ?_
      exact ⟨rfl, rfl⟩
    · intro i hi ih2
      have hdv : u / 100 ^ i ≤ u := Nat.div_le_self _ _
      have hds : u / 100 ^ i / 100 = u / 100 ^ (i + 1) := by rw [Nat.div_div_eq_div_mul, Nat.pow_succ]
      refine j_iload7 (n := 11) dX7_sumAt_9 rfl ?_
      refine j_iload_n1 (n := 12) dX7_sumAt_11 rfl ?_
      refine j_nicmp_ge (n := 15) 53 dX7_sumAt_12 rfl (by decide) (by omega) (by omega) (fun h => ?_) (fun h => ?_)
      · omega
      have h39 : J g jX7_sumAt 1 (fun v M2 => v = some (.int (iI (wSum u r m))) ∧ M2 = M) 39 [some (.int (nI r)), some (.int (nI m)), some (.long (lN u)), none, some (.int (iI (wSum u r (i + 1)))), some (.long (lN (u / 100 ^ i))), none, some (.int (nI i))] [] M := by
        refine j_lload5 (n := 41) dX7_sumAt_39 rfl ?_
        refine j_ldc2 (n := 44) dX7_sumAt_41 rfl cl_X7_201 ?_
        refine j_ldiv (n := 45) dX7_sumAt_44 rfl (by first | assumption | decide) ?_
        refine j_topl (lN (u / 100 ^ (i + 1))) (by rw [← hds]; exact pk_lDiv (b := 100) (by omega) (by omega) (by omega)) ?_
        refine j_lstore5 (n := 47) dX7_sumAt_45 rfl (Nat.le_of_ble_eq_true rfl) rfl ?_
        refine j_inc7 (n := 50) dX7_sumAt_47 rfl (Nat.le_of_ble_eq_true rfl) rfl ?_
        refine j_goto 9 dX7_sumAt_50 (by decide) ?_
        exact ih2
      refine j_iload_n0 (n := 16) dX7_sumAt_15 rfl ?_
      refine j_iload7 (n := 18) dX7_sumAt_16 rfl ?_
      refine j_fnS2 (n := 21) (con_X5_hasInput (by omega) (by omega)) dX7_sumAt_18 rfl cal_X5_hasInput ml_X7_198 (Nat.le_of_ble_eq_true rfl) (Nat.le_of_ble_eq_true rfl) ?_
      refine j_bif_eq (n := 24) 39 dX7_sumAt_21 rfl (by decide) (fun e4 => ?_) (fun e4 => ?_)
      · have q : wSum u r (i + 1) = wSum u r i := by simp [wSum, e4]
        rw [q] at h39
        exact h39
      · refine j_iload4 (n := 26) dX7_sumAt_24 rfl ?_
        refine j_lload5 (n := 28) dX7_sumAt_26 rfl ?_
        refine j_ldc2 (n := 31) dX7_sumAt_28 rfl cl_X7_201 ?_
        refine j_lrem (n := 32) dX7_sumAt_31 rfl (by first | assumption | decide) ?_
        refine j_l2i (n := 33) dX7_sumAt_32 rfl ?_
        refine j_bipush (n := 35) (nI 50) dX7_sumAt_33 rfl (by decide) ?_
        refine j_isub (n := 36) dX7_sumAt_35 rfl ?_
        refine j_topi (iI (((u / 100 ^ i % 100 : Nat) : Int) - 50)) ?_ ?_
        · have q : lN (u / 100 ^ i) - lN (u / 100 ^ i) / lN 100 * lN 100 = lN (u / 100 ^ i % 100) := pk_lRem (by omega) (by omega) (by omega)
          show (lN (u / 100 ^ i) - lN (u / 100 ^ i) / lN 100 * lN 100).toInt32 - nI 50 = _
          rw [q, lN_i, ← iI_nat, ← iI_nat, iI_sub]
          rfl
        refine j_iadd (n := 37) dX7_sumAt_36 rfl ?_
        refine j_topi (iI (wSum u r (i + 1))) (by rw [iI_add]; simp [wSum, e4]) ?_
        refine j_istore4 (n := 39) dX7_sumAt_37 rfl (Nat.le_of_ble_eq_true rfl) rfl ?_
        exact h39
  have h0 := inner 0 (Nat.zero_le _)
  rw [Nat.pow_zero, Nat.div_one] at h0
  exact h0
set_option maxRecDepth 100000 in
theorem con_X7_weigh {g : jG} {M : jMem} {sn sT : Nat → Nat} (h0 : M 0 = .inr (6, oX g)) (h1 : M 1 = iA g 8 fun j => nI (sn j)) (h2 : M 2 = lA g 8 fun j => lN (sT j)) {s n : Int32} {w : Int64} {b : Int32} : Con g jX7_weigh 3 [.ref (jA g 0), .int s, .int n, .long w, .int b] M (fun v M2 => v = some (.long (sp_weigh sn sT s n w b).1) ∧ M2 = setM g 1 M (sp_weigh sn sT s n w b).2.1 (sp_weigh sn sT s n w b).2.2) := by
  have hid := setM_id h1 h2
  refine con_of (l := [some (.ref (jA g 0)), some (.int s), some (.int n), some (.long w), none, some (.int b), none, none, none]) (by decide) (Nat.le_of_ble_eq_true rfl) rfl ?_
  refine j_iload_n1 (n := 1) dX7_weigh_0 rfl ?_
  refine j_fnS1 (n := 4) con_X7_isSlot dX7_weigh_1 rfl cal_X7_isSlot ml_X7_58 (Nat.le_of_ble_eq_true rfl) (Nat.le_of_ble_eq_true rfl) ?_
  refine j_bif_ne (n := 7) 11 dX7_weigh_4 rfl (by decide) (fun k1 => ?_) (fun k1 => ?_)
  rotate_left
  · refine j_ldc2 (n := 10) dX7_weigh_7 rfl cl_X7_76 ?_
    refine j_lret dX7_weigh_10 rfl ?_
    simp [sp_weigh, k1, hid]
  refine j_iload_n2 (n := 12) dX7_weigh_11 rfl ?_
  refine j_iconst (n := 13) (nI 1) dX7_weigh_12 rfl (by decide) ?_
  refine j_iconst (n := 14) (nI 5) dX7_weigh_13 rfl (by decide) ?_
  refine j_fnS3 (n := 17) con_X7_isWithin dX7_weigh_14 rfl cal_X7_isWithin ml_X7_62 (Nat.le_of_ble_eq_true rfl) (Nat.le_of_ble_eq_true rfl) ?_
  have e5 : decide (nI 1 ≤ n ∧ n ≤ nI 5) = isTo 5 n := rfl
  rw [e5]
  refine j_bif_eq (n := 20) 48 dX7_weigh_17 rfl (by decide) (fun k2 => ?_) (fun k2 => ?_)
  · refine j_ldc2 (n := 51) dX7_weigh_48 rfl cl_X7_80 ?_
    refine j_lret dX7_weigh_51 rfl ?_
    simp [sp_weigh, k1, k2, hid]
  refine j_lload_n3 (n := 21) dX7_weigh_20 rfl ?_
  refine j_lconst (n := 22) (lN 0) dX7_weigh_21 rfl rfl ?_
  refine j_lcmp (n := 23) dX7_weigh_22 rfl ?_
  refine j_lif_lt (n := 26) 48 dX7_weigh_23 rfl (by decide) (fun q1 => ?_) (fun q1 => ?_)
  · refine j_ldc2 (n := 51) dX7_weigh_48 rfl cl_X7_80 ?_
    refine j_lret dX7_weigh_51 rfl ?_
    have k3 : decide (0 ≤ w ∧ w ≤ 9999999999) = false := decide_eq_false (fun z => l_nn z.1 q1)
    simp [sp_weigh, k1, k2, k3, hid]
  obtain ⟨u, hu, rfl⟩ := pk_lOf (x := w) q1
  refine j_lload_n3 (n := 27) dX7_weigh_26 rfl ?_
  refine j_ldc2 (n := 30) dX7_weigh_27 rfl cl_X7_78 ?_
  refine j_lcmp (n := 31) dX7_weigh_30 rfl ?_
  refine j_lif_ge (n := 34) 48 dX7_weigh_31 rfl (by decide) (fun q2 => ?_) (fun q2 => ?_)
  · refine j_ldc2 (n := 51) dX7_weigh_48 rfl cl_X7_80 ?_
    refine j_lret dX7_weigh_51 rfl ?_
    have q3 : 10000000000 ≤ u := (pk_lLE (by omega) hu).mp q2
    have k3 : decide (0 ≤ lN u ∧ lN u ≤ 9999999999) = false := decide_eq_false (fun z => by have := (pk_lLE hu (b := 9999999999) (by omega)).mp z.2; omega)
    simp [sp_weigh, k1, k2, k3, hid]
  have hu2 : u ≤ 9999999999 := by
    rcases Nat.lt_or_ge 9999999999 u with h | h
    · exact absurd ((pk_lLE (a := 10000000000) (by omega) hu).mpr (by omega)) q2
    · exact h
  have k3 : decide (0 ≤ lN u ∧ lN u ≤ 9999999999) = true := decide_eq_true ⟨(pk_lLE (a := 0) (by omega) hu).mpr (Nat.zero_le _), (pk_lLE hu (b := 9999999999) (by omega)).mpr hu2⟩
  refine j_iload5 (n := 36) dX7_weigh_34 rfl ?_
  refine j_sipush (n := 39) (-999) dX7_weigh_36 rfl (by decide) ?_
  refine j_sipush (n := 42) (nI 999) dX7_weigh_39 rfl (by decide) ?_
  refine j_fnS3 (n := 45) con_X7_isWithin dX7_weigh_42 rfl cal_X7_isWithin ml_X7_62 (Nat.le_of_ble_eq_true rfl) (Nat.le_of_ble_eq_true rfl) ?_
  refine j_bif_ne (n := 48) 52 dX7_weigh_45 rfl (by decide) (fun k4 => ?_) (fun k4 => ?_)
  rotate_left
  · refine j_ldc2 (n := 51) dX7_weigh_48 rfl cl_X7_80 ?_
    refine j_lret dX7_weigh_51 rfl ?_
    have k5 : decide (-999 ≤ b ∧ b ≤ 999) = false := k4
    simp [sp_weigh, k1, k2, k3, k5, hid]
  have k5 : decide (-999 ≤ b ∧ b ≤ 999) = true := k4
  obtain ⟨j, hj, rfl⟩ := isSl_of k1
  obtain ⟨m, hm1, hm5, rfl⟩ := isTo_of (by decide) k2
  have k6 : -999 ≤ b ∧ b ≤ 999 := of_decide_eq_true k5
  obtain ⟨z, hz, rfl⟩ := iI_of b
  have hz2 : -999 ≤ z ∧ z ≤ 999 := ⟨(iI_le (by omega) hz).mp k6.1, (iI_le hz (by omega)).mp k6.2⟩
  have c1 := nI_clamp (show j < 2 ^ 31 by omega)
  have c2 := nI_clamp (show m < 2 ^ 31 by omega)
  have hs : sp_weigh sn sT (nI j) (nI m) (lN u) (iI z) = (lN (wT m u z), va_up sn j m, va_up sT j (wT m u z)) := by
    simp [sp_weigh, k1, k2, k3, k5, c1, c2, pk_lT hu, iI_toInt hz]
  rw [hs]
  have h5 := pw5 hm5
  have hT := Nat.lt_of_lt_of_le (wT_lt m u z) (pw32 hm5)
  refine j_lconst (n := 53) (lN 0) dX7_weigh_52 rfl rfl ?_
  refine j_lstore6 (n := 55) dX7_weigh_53 rfl (Nat.le_of_ble_eq_true rfl) rfl ?_
  refine j_iconst (n := 56) (nI 0) dX7_weigh_55 rfl (by decide) ?_
  refine j_istore8 (n := 58) dX7_weigh_56 rfl (Nat.le_of_ble_eq_true rfl) rfl ?_
  have key : ∀ r, r ≤ 2 ^ m → J g jX7_weigh 3 (fun v M2 => v = some (.long (lN (wT m u z))) ∧ M2 = setM g 1 M (va_up sn j m) (va_up sT j (wT m u z))) 58 [some (.ref (jA g 0)), some (.int (nI j)), some (.int (nI m)), some (.long (lN u)), none, some (.int (iI z)), some (.long (lN (mkT r (fun r => decide (z ≤ wSum u r m))))), none, some (.int (nI r))] [] M := by
    refine j_for ?_ ?_
    · refine j_iload8 (n := 60) dX7_weigh_58 rfl ?_
      refine j_iload_n2 (n := 61) dX7_weigh_60 rfl ?_
      refine j_fnS1 (n := 64) (con_X5_number (by omega)) dX7_weigh_61 rfl cal_X5_number ml_X7_82 (Nat.le_of_ble_eq_true rfl) (Nat.le_of_ble_eq_true rfl) ?_
      refine j_nicmp_ge (n := 67) 94 dX7_weigh_64 rfl (by decide) (by omega) (by omega) (fun h => ?_) (fun h => ?_)
      · refine j_aload_n0 (n := 95) dX7_weigh_94 rfl ?_
        refine j_iload_n1 (n := 96) dX7_weigh_95 rfl ?_
        refine j_iload_n2 (n := 97) dX7_weigh_96 rfl ?_
        refine j_lload6 (n := 99) dX7_weigh_97 rfl ?_
        refine j_cV3 (n := 102) (con_X7_keep h0 h1 h2 hj (t := wT m u z) (by omega)) dX7_weigh_99 rfl cal_X7_keep ml_X7_72 (Nat.le_of_ble_eq_true rfl) (by first | decide | omega) rfl rfl (Nat.le_of_ble_eq_true rfl) (by first | assumption | rfl) ?_
        rintro _ M2 ⟨rfl, rfl⟩
        refine j_pop (n := 103) dX7_weigh_102 rfl rfl ?_
        refine j_lload6 (n := 105) dX7_weigh_103 rfl ?_
        refine j_lret dX7_weigh_105 rfl ?_
        exact ⟨rfl, rfl⟩
      · omega
    · intro r hr ih
      have hbd := wSum_bd u r m
      refine j_iload8 (n := 60) dX7_weigh_58 rfl ?_
      refine j_iload_n2 (n := 61) dX7_weigh_60 rfl ?_
      refine j_fnS1 (n := 64) (con_X5_number (by omega)) dX7_weigh_61 rfl cal_X5_number ml_X7_82 (Nat.le_of_ble_eq_true rfl) (Nat.le_of_ble_eq_true rfl) ?_
      refine j_nicmp_ge (n := 67) 94 dX7_weigh_64 rfl (by decide) (by omega) (by omega) (fun h => ?_) (fun h => ?_)
      · omega
      refine j_iload8 (n := 69) dX7_weigh_67 rfl ?_
      refine j_iload_n2 (n := 70) dX7_weigh_69 rfl ?_
      refine j_lload_n3 (n := 71) dX7_weigh_70 rfl ?_
      refine j_fnS3 (n := 74) (con_X7_sumAt (by omega) hm5 (by omega)) dX7_weigh_71 rfl cal_X7_sumAt ml_X7_86 (Nat.le_of_ble_eq_true rfl) (Nat.le_of_ble_eq_true rfl) ?_
      refine j_iload5 (n := 76) dX7_weigh_74 rfl ?_
      refine j_zicmp_lt (n := 79) 88 dX7_weigh_76 rfl (by decide) (by omega) (by omega) (fun e => ?_) (fun e => ?_)
      · refine j_inc8 (n := 91) dX7_weigh_88 rfl (Nat.le_of_ble_eq_true rfl) rfl ?_
        refine j_goto 58 dX7_weigh_91 (by decide) ?_
        have e2 : mkT (r + 1) (fun r => decide (z ≤ wSum u r m)) = mkT r (fun r => decide (z ≤ wSum u r m)) := by simp [mkT, Int.not_le.mpr e]
        rw [e2] at ih
        exact ih
      · refine j_lload6 (n := 81) dX7_weigh_79 rfl ?_
        refine j_lconst (n := 82) (lN 1) dX7_weigh_81 rfl rfl ?_
        refine j_iload8 (n := 84) dX7_weigh_82 rfl ?_
        refine j_lshl (n := 85) dX7_weigh_84 rfl ?_
        refine j_topl (lN (2 ^ r)) (al_shl1 (by omega)) ?_
        refine j_lor (n := 86) dX7_weigh_85 rfl ?_
        refine j_topl (lN (mkT (r + 1) (fun r => decide (z ≤ wSum u r m)))) (by rw [fb_orL]; simp [mkT, e]) ?_
        refine j_lstore6 (n := 88) dX7_weigh_86 rfl (Nat.le_of_ble_eq_true rfl) rfl ?_
        refine j_inc8 (n := 91) dX7_weigh_88 rfl (Nat.le_of_ble_eq_true rfl) rfl ?_
        refine j_goto 58 dX7_weigh_91 (by decide) ?_
        exact ih
  exact key 0 (Nat.zero_le _)
