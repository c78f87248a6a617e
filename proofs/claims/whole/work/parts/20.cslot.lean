set_option maxRecDepth 100000 in
theorem con_X7_keep {g : jG} {M : jMem} {sn sT : Nat → Nat} (h0 : M 0 = .inr (6, oX g)) (h1 : M 1 = iA g 8 fun j => nI (sn j)) (h2 : M 2 = lA g 8 fun j => lN (sT j)) {k n t : Nat} (hk : k < 8) (ht : t < 4294967296) : Con g jX7_keep 1 [.ref (jA g 0), .int (nI k), .int (nI n), .long (lN t)] M (fun v M2 => v = some (.int (nI (cnt 32 t.testBit))) ∧ M2 = setM g 1 M (va_up sn k n) (va_up sT k t)) := by
  refine con_of (l := [some (.ref (jA g 0)), some (.int (nI k)), some (.int (nI n)), some (.long (lN t)), none]) (by decide) (Nat.le_of_ble_eq_true rfl) rfl ?_
  refine j_aload_n0 (n := 1) dX7_keep_0 rfl ?_
  refine j_get (n := 4) (k := 0) dX7_keep_1 rfl jcl6 (Nat.le_of_ble_eq_true rfl) fl_X7_9 (Nat.le_of_ble_eq_true rfl) (by first | assumption | rfl) (by rfl) ?_
  refine j_iload_n1 (n := 5) dX7_keep_4 rfl ?_
  refine j_iload_n2 (n := 6) dX7_keep_5 rfl ?_
  refine j_iast_n (n := 7) dX7_keep_6 rfl (by first | decide | omega) (by first | assumption | rfl) (by decide) (by first | assumption | omega) ?_
  refine j_aload_n0 (n := 8) dX7_keep_7 rfl ?_
  refine j_get (n := 11) (k := 1) dX7_keep_8 rfl jcl6 (Nat.le_of_ble_eq_true rfl) fl_X7_13 (Nat.le_of_ble_eq_true rfl) (by first | assumption | rfl) (by rfl) ?_
  refine j_iload_n1 (n := 12) dX7_keep_11 rfl ?_
  refine j_lload_n3 (n := 13) dX7_keep_12 rfl ?_
  refine j_last_n (n := 14) dX7_keep_13 rfl (by first | decide | omega) (by first | assumption | rfl) (by decide) (by first | assumption | omega) ?_
  refine j_lload_n3 (n := 15) dX7_keep_14 rfl ?_
  refine j_fnS1 (n := 18) (con_J13_bitCount_95d88 ht) dX7_keep_15 rfl cal_J13_bitCount_95d88 ml_X7_102 (Nat.le_of_ble_eq_true rfl) (Nat.le_of_ble_eq_true rfl) ?_
  refine j_iret dX7_keep_18 rfl ?_
  refine ⟨rfl, ?_⟩
  rw [updI, updL]
  rfl
set_option maxRecDepth 100000 in
theorem con_X7_bits {g : jG} {M : jMem} {sT : Nat → Nat} (h0 : M 0 = .inr (6, oX g)) (h2 : M 2 = lA g 8 fun j => lN (sT j)) {s : Int32} : Fn g jX7_bits 2 [.ref (jA g 0), .int s] M (.long (sp_bits sT s)) := by
  refine con_of (l := [some (.ref (jA g 0)), some (.int s)]) (by decide) (Nat.le_of_ble_eq_true rfl) rfl ?_
  refine j_iload_n1 (n := 1) dX7_bits_0 rfl ?_
  refine j_fnS1 (n := 4) con_X7_isSlot dX7_bits_1 rfl cal_X7_isSlot ml_X7_58 (Nat.le_of_ble_eq_true rfl) (Nat.le_of_ble_eq_true rfl) ?_
  refine j_bif_eq (n := 7) 16 dX7_bits_4 rfl (by decide) (fun hs => ?_) (fun hs => ?_)
  · refine j_ldc2 (n := 19) dX7_bits_16 rfl cl_X7_76 ?_
    refine j_lret dX7_bits_19 rfl ?_
    exact ⟨by simp [sp_bits, hs], rfl⟩
  · obtain ⟨j, hj, rfl⟩ := isSl_of hs
    refine j_aload_n0 (n := 8) dX7_bits_7 rfl ?_
    refine j_get (n := 11) (k := 1) dX7_bits_8 rfl jcl6 (Nat.le_of_ble_eq_true rfl) fl_X7_13 (Nat.le_of_ble_eq_true rfl) (by first | assumption | rfl) (by rfl) ?_
    refine j_iload_n1 (n := 12) dX7_bits_11 rfl ?_
    refine j_lald_n (n := 13) dX7_bits_12 rfl (by first | decide | omega) (by first | assumption | rfl) (by decide) (by first | assumption | omega) ?_
    refine j_goto 19 dX7_bits_13 (by decide) ?_
    refine j_lret dX7_bits_19 rfl ?_
    exact ⟨by simp [sp_bits, hs, nI_clamp (show j < 2 ^ 31 by omega)], rfl⟩
set_option maxRecDepth 100000 in
theorem con_X7_inputs {g : jG} {M : jMem} {sn : Nat → Nat} (h0 : M 0 = .inr (6, oX g)) (h1 : M 1 = iA g 8 fun j => nI (sn j)) {s : Int32} : Fn g jX7_inputs 2 [.ref (jA g 0), .int s] M (.int (sp_inputs sn s)) := by
  refine con_of (l := [some (.ref (jA g 0)), some (.int s)]) (by decide) (Nat.le_of_ble_eq_true rfl) rfl ?_
  refine j_iload_n1 (n := 1) dX7_inputs_0 rfl ?_
  refine j_fnS1 (n := 4) con_X7_isSlot dX7_inputs_1 rfl cal_X7_isSlot ml_X7_58 (Nat.le_of_ble_eq_true rfl) (Nat.le_of_ble_eq_true rfl) ?_
  refine j_bif_eq (n := 7) 16 dX7_inputs_4 rfl (by decide) (fun hs => ?_) (fun hs => ?_)
  · refine j_iconst (n := 17) (-1) dX7_inputs_16 rfl (by decide) ?_
    refine j_iret dX7_inputs_17 rfl ?_
    exact ⟨by simp [sp_inputs, hs], rfl⟩
  · obtain ⟨j, hj, rfl⟩ := isSl_of hs
    refine j_aload_n0 (n := 8) dX7_inputs_7 rfl ?_
    refine j_get (n := 11) (k := 0) dX7_inputs_8 rfl jcl6 (Nat.le_of_ble_eq_true rfl) fl_X7_9 (Nat.le_of_ble_eq_true rfl) (by first | assumption | rfl) (by rfl) ?_
    refine j_iload_n1 (n := 12) dX7_inputs_11 rfl ?_
    refine j_iald_n (n := 13) dX7_inputs_12 rfl (by first | decide | omega) (by first | assumption | rfl) (by decide) (by first | assumption | omega) ?_
    refine j_goto 17 dX7_inputs_13 (by decide) ?_
    refine j_iret dX7_inputs_17 rfl ?_
    exact ⟨by simp [sp_inputs, hs, nI_clamp (show j < 2 ^ 31 by omega)], rfl⟩
set_option maxRecDepth 100000 in
/-- isInput of the class looks at the slot too -/
theorem con_X7_isInput {g : jG} {M : jMem} {sn : Nat → Nat} (h0 : M 0 = .inr (6, oX g)) (h1 : M 1 = iA g 8 fun j => nI (sn j)) {s i : Int32} : Fn g jX7_isInput 2 [.ref (jA g 0), .int s, .int i] M (.int (jB (isSl s && isIn (sn s.toNatClampNeg) i))) := by
  refine con_of (l := [some (.ref (jA g 0)), some (.int s), some (.int i)]) (by decide) (Nat.le_of_ble_eq_true rfl) rfl ?_
  refine j_iload_n1 (n := 1) dX7_isInput_0 rfl ?_
  refine j_fnS1 (n := 4) con_X7_isSlot dX7_isInput_1 rfl cal_X7_isSlot ml_X7_58 (Nat.le_of_ble_eq_true rfl) (Nat.le_of_ble_eq_true rfl) ?_
  refine j_bif_eq (n := 7) 27 dX7_isInput_4 rfl (by decide) (fun hs => ?_) (fun hs => ?_)
  · refine j_iconst (n := 28) (nI 0) dX7_isInput_27 rfl (by decide) ?_
    exact j_ret0 (by simp [hs]) dX7_isInput_28 rfl ⟨rfl, rfl⟩
  · obtain ⟨j, hj, rfl⟩ := isSl_of hs
    refine j_iload_n2 (n := 8) dX7_isInput_7 rfl ?_
    refine j_iconst (n := 9) (nI 0) dX7_isInput_8 rfl (by decide) ?_
    refine j_aload_n0 (n := 10) dX7_isInput_9 rfl ?_
    refine j_get (n := 13) (k := 0) dX7_isInput_10 rfl jcl6 (Nat.le_of_ble_eq_true rfl) fl_X7_9 (Nat.le_of_ble_eq_true rfl) (by first | assumption | rfl) (by rfl) ?_
    refine j_iload_n1 (n := 14) dX7_isInput_13 rfl ?_
    refine j_iald_n (n := 15) dX7_isInput_14 rfl (by first | decide | omega) (by first | assumption | rfl) (by decide) (by first | assumption | omega) ?_
    refine j_iconst (n := 16) (nI 1) dX7_isInput_15 rfl (by decide) ?_
    refine j_isub (n := 17) dX7_isInput_16 rfl ?_
    refine j_fnS3 (n := 20) con_X7_isWithin dX7_isInput_17 rfl cal_X7_isWithin ml_X7_62 (Nat.le_of_ble_eq_true rfl) (Nat.le_of_ble_eq_true rfl) ?_
    have e : isIn (sn j) i = decide (nI 0 ≤ i ∧ i ≤ nI (sn j) - nI 1) := rfl
    refine j_bif_eq (n := 23) 27 dX7_isInput_20 rfl (by decide) (fun h => ?_) (fun h => ?_)
    · refine j_iconst (n := 28) (nI 0) dX7_isInput_27 rfl (by decide) ?_
      exact j_ret0 (by rw [nI_clamp (show j < 2 ^ 31 by omega), e, h]; simp) dX7_isInput_28 rfl ⟨rfl, rfl⟩
    · refine j_iconst (n := 24) (nI 1) dX7_isInput_23 rfl (by decide) ?_
      refine j_goto 28 dX7_isInput_24 (by decide) ?_
      exact j_ret1 (by rw [nI_clamp (show j < 2 ^ 31 by omega), e, h, hs]; rfl) dX7_isInput_28 rfl ⟨rfl, rfl⟩
set_option maxRecDepth 100000 in
theorem con_X7_table {g : jG} {M : jMem} {sn sT : Nat → Nat} (h0 : M 0 = .inr (6, oX g)) (h1 : M 1 = iA g 8 fun j => nI (sn j)) (h2 : M 2 = lA g 8 fun j => lN (sT j)) {s n : Int32} {b : Int64} : Con g jX7_table 3 [.ref (jA g 0), .int s, .int n, .long b] M (fun v M2 => v = some (.int (sp_table sn sT s n b).1) ∧ M2 = setM g 1 M (sp_table sn sT s n b).2.1 (sp_table sn sT s n b).2.2) := by
  have hid := setM_id h1 h2
  refine con_of (l := [some (.ref (jA g 0)), some (.int s), some (.int n), some (.long b), none]) (by decide) (Nat.le_of_ble_eq_true rfl) rfl ?_
  refine j_iload_n1 (n := 1) dX7_table_0 rfl ?_
  refine j_fnS1 (n := 4) con_X7_isSlot dX7_table_1 rfl cal_X7_isSlot ml_X7_58 (Nat.le_of_ble_eq_true rfl) (Nat.le_of_ble_eq_true rfl) ?_
  refine j_bif_ne (n := 7) 9 dX7_table_4 rfl (by decide) (fun hs => ?_) (fun hs => ?_)
  rotate_left
  · refine j_iconst (n := 8) (-1) dX7_table_7 rfl (by decide) ?_
    refine j_iret dX7_table_8 rfl ?_
    simp [sp_table, hs, hid]
  refine j_iload_n2 (n := 10) dX7_table_9 rfl ?_
  refine j_iconst (n := 11) (nI 1) dX7_table_10 rfl (by decide) ?_
  refine j_iconst (n := 12) (nI 5) dX7_table_11 rfl (by decide) ?_
  refine j_fnS3 (n := 15) con_X7_isWithin dX7_table_12 rfl cal_X7_isWithin ml_X7_62 (Nat.le_of_ble_eq_true rfl) (Nat.le_of_ble_eq_true rfl) ?_
  have e5 : decide (nI 1 ≤ n ∧ n ≤ nI 5) = isTo 5 n := rfl
  rw [e5]
  refine j_bif_eq (n := 18) 33 dX7_table_15 rfl (by decide) (fun hn => ?_) (fun hn => ?_)
  · refine j_bipush (n := 35) (-2) dX7_table_33 rfl (by decide) ?_
    refine j_iret dX7_table_35 rfl ?_
    simp [sp_table, hs, hn, hid]
  obtain ⟨m, hm1, hm5, rfl⟩ := isTo_of (by decide) hn
  have hw : 2 ^ 2 ^ m ≤ 2 ^ 32 := pw32 hm5
  have cm := nI_clamp (show m < 2 ^ 31 by omega)
  refine j_lload_n3 (n := 19) dX7_table_18 rfl ?_
  refine j_lconst (n := 20) (lN 0) dX7_table_19 rfl rfl ?_
  refine j_lcmp (n := 21) dX7_table_20 rfl ?_
  refine j_lif_lt (n := 24) 33 dX7_table_21 rfl (by decide) (fun hb => ?_) (fun hb => ?_)
  · refine j_bipush (n := 35) (-2) dX7_table_33 rfl (by decide) ?_
    refine j_iret dX7_table_35 rfl ?_
    have hb3 : decide (0 ≤ b ∧ b ≤ lN (2 ^ 2 ^ m - 1)) = false := by
      apply decide_eq_false
      rintro ⟨q1, -⟩
      exact l_nn q1 hb
    simp [sp_table, hs, hn, hb3, hid, cm]
  obtain ⟨t, ht, rfl⟩ := pk_lOf (x := b) hb
  refine j_lload_n3 (n := 25) dX7_table_24 rfl ?_
  refine j_iload_n2 (n := 26) dX7_table_25 rfl ?_
  refine j_fnS1 (n := 29) (con_X5_all (by omega)) dX7_table_26 rfl cal_X5_all ml_X7_66 (Nat.le_of_ble_eq_true rfl) (Nat.le_of_ble_eq_true rfl) ?_
  refine j_lcmp (n := 30) dX7_table_29 rfl ?_
  refine j_lif_le (n := 33) 36 dX7_table_30 rfl (by decide) (fun hb2 => ?_) (fun hb2 => ?_)
  rotate_left
  · refine j_bipush (n := 35) (-2) dX7_table_33 rfl (by decide) ?_
    refine j_iret dX7_table_35 rfl ?_
    have hb3 : decide (0 ≤ lN t ∧ lN t ≤ lN (2 ^ 2 ^ m - 1)) = false := decide_eq_false (fun z => hb2 z.2)
    simp [sp_table, hs, hn, hb3, hid, cm]
  have ht2 : t ≤ 2 ^ 2 ^ m - 1 := (pk_lLE ht (by omega)).mp hb2
  obtain ⟨j, hj, rfl⟩ := isSl_of hs
  refine j_aload_n0 (n := 37) dX7_table_36 rfl ?_
  refine j_iload_n1 (n := 38) dX7_table_37 rfl ?_
  refine j_iload_n2 (n := 39) dX7_table_38 rfl ?_
  refine j_lload_n3 (n := 40) dX7_table_39 rfl ?_
  refine j_cV3 (n := 43) (con_X7_keep h0 h1 h2 hj (by omega)) dX7_table_40 rfl cal_X7_keep ml_X7_72 (Nat.le_of_ble_eq_true rfl) (by first | decide | omega) rfl rfl (Nat.le_of_ble_eq_true rfl) (by first | assumption | rfl) ?_
  rintro _ M2 ⟨rfl, rfl⟩
  refine j_iret dX7_table_43 rfl ?_
  have hb3 : decide (0 ≤ lN t ∧ lN t ≤ lN (2 ^ 2 ^ m - 1)) = true := decide_eq_true ⟨(pk_lLE (a := 0) (by omega) ht).mpr (Nat.zero_le _), hb2⟩
  simp [sp_table, hs, hn, hb3, nI_clamp (show j < 2 ^ 31 by omega), cm, pk_lT ht]
theorem majT_eq (a b c : Nat) : (a &&& b) ||| ((a ||| b) &&& c) = majT a b c := by
  apply Nat.eq_of_testBit_eq
  intro r
  unfold majT
  simp only [Nat.testBit_or, Nat.testBit_and]
  cases a.testBit r <;> cases b.testBit r <;> cases c.testBit r <;> rfl
set_option maxRecDepth 100000 in
theorem con_X7_most {g : jG} {M : jMem} {sn sT : Nat → Nat} (h0 : M 0 = .inr (6, oX g)) (h1 : M 1 = iA g 8 fun j => nI (sn j)) (h2 : M 2 = lA g 8 fun j => lN (sT j)) (ok : slOK sn sT) {s1 s2 s3 s4 : Int32} : Con g jX7_most 3 [.ref (jA g 0), .int s1, .int s2, .int s3, .int s4] M (fun v M2 => v = some (.int (sp_most sn sT s1 s2 s3 s4).1) ∧ M2 = setM g 1 M (sp_most sn sT s1 s2 s3 s4).2.1 (sp_most sn sT s1 s2 s3 s4).2.2) := by
  have hid := setM_id h1 h2
  refine con_of (l := [some (.ref (jA g 0)), some (.int s1), some (.int s2), some (.int s3), some (.int s4), none, none, none, none]) (by decide) (Nat.le_of_ble_eq_true rfl) rfl ?_
  refine j_iload_n1 (n := 1) dX7_most_0 rfl ?_
  refine j_fnS1 (n := 4) con_X7_isSlot dX7_most_1 rfl cal_X7_isSlot ml_X7_58 (Nat.le_of_ble_eq_true rfl) (Nat.le_of_ble_eq_true rfl) ?_
  refine j_bif_eq (n := 7) 29 dX7_most_4 rfl (by decide) (fun k1 => ?_) (fun k1 => ?_)
  · refine j_iconst (n := 30) (-1) dX7_most_29 rfl (by decide) ?_
    refine j_iret dX7_most_30 rfl ?_
    simp [sp_most, k1, hid]
  refine j_iload_n2 (n := 8) dX7_most_7 rfl ?_
  refine j_fnS1 (n := 11) con_X7_isSlot dX7_most_8 rfl cal_X7_isSlot ml_X7_58 (Nat.le_of_ble_eq_true rfl) (Nat.le_of_ble_eq_true rfl) ?_
  refine j_bif_eq (n := 14) 29 dX7_most_11 rfl (by decide) (fun k2 => ?_) (fun k2 => ?_)
  · refine j_iconst (n := 30) (-1) dX7_most_29 rfl (by decide) ?_
    refine j_iret dX7_most_30 rfl ?_
    simp [sp_most, k1, k2, hid]
  refine j_iload_n3 (n := 15) dX7_most_14 rfl ?_
  refine j_fnS1 (n := 18) con_X7_isSlot dX7_most_15 rfl cal_X7_isSlot ml_X7_58 (Nat.le_of_ble_eq_true rfl) (Nat.le_of_ble_eq_true rfl) ?_
  refine j_bif_eq (n := 21) 29 dX7_most_18 rfl (by decide) (fun k3 => ?_) (fun k3 => ?_)
  · refine j_iconst (n := 30) (-1) dX7_most_29 rfl (by decide) ?_
    refine j_iret dX7_most_30 rfl ?_
    simp [sp_most, k1, k2, k3, hid]
  refine j_iload4 (n := 23) dX7_most_21 rfl ?_
  refine j_fnS1 (n := 26) con_X7_isSlot dX7_most_23 rfl cal_X7_isSlot ml_X7_58 (Nat.le_of_ble_eq_true rfl) (Nat.le_of_ble_eq_true rfl) ?_
  refine j_bif_ne (n := 29) 31 dX7_most_26 rfl (by decide) (fun k4 => ?_) (fun k4 => ?_)
  rotate_left
  · refine j_iconst (n := 30) (-1) dX7_most_29 rfl (by decide) ?_
    refine j_iret dX7_most_30 rfl ?_
    simp [sp_most, k1, k2, k3, k4, hid]
  obtain ⟨j1, hj1, rfl⟩ := isSl_of k1
  obtain ⟨j2, hj2, rfl⟩ := isSl_of k2
  obtain ⟨j3, hj3, rfl⟩ := isSl_of k3
  obtain ⟨j4, hj4, rfl⟩ := isSl_of k4
  have c1 := nI_clamp (show j1 < 2 ^ 31 by omega)
  have c2 := nI_clamp (show j2 < 2 ^ 31 by omega)
  have c3 := nI_clamp (show j3 < 2 ^ 31 by omega)
  have c4 := nI_clamp (show j4 < 2 ^ 31 by omega)
  have b2 := ok j2 hj2
  have b3 := ok j3 hj3
  have b4 := ok j4 hj4
  refine j_aload_n0 (n := 32) dX7_most_31 rfl ?_
  refine j_get (n := 35) (k := 0) dX7_most_32 rfl jcl6 (Nat.le_of_ble_eq_true rfl) fl_X7_9 (Nat.le_of_ble_eq_true rfl) (by first | assumption | rfl) (by rfl) ?_
  refine j_iload_n2 (n := 36) dX7_most_35 rfl ?_
  refine j_iald_n (n := 37) dX7_most_36 rfl (by first | decide | omega) (by first | assumption | rfl) (by decide) (by first | assumption | omega) ?_
  refine j_aload_n0 (n := 38) dX7_most_37 rfl ?_
  refine j_get (n := 41) (k := 0) dX7_most_38 rfl jcl6 (Nat.le_of_ble_eq_true rfl) fl_X7_9 (Nat.le_of_ble_eq_true rfl) (by first | assumption | rfl) (by rfl) ?_
  refine j_iload_n3 (n := 42) dX7_most_41 rfl ?_
  refine j_iald_n (n := 43) dX7_most_42 rfl (by first | decide | omega) (by first | assumption | rfl) (by decide) (by first | assumption | omega) ?_
  refine j_nicmp_ne (n := 46) 62 dX7_most_43 rfl (by decide) (by omega) (by omega) (fun e => ?_) (fun e => ?_)
  · refine j_bipush (n := 64) (-3) dX7_most_62 rfl (by decide) ?_
    refine j_iret dX7_most_64 rfl ?_
    simp [sp_most, k1, k2, k3, k4, c1, c2, c3, c4, e, hid]
  refine j_aload_n0 (n := 47) dX7_most_46 rfl ?_
  refine j_get (n := 50) (k := 0) dX7_most_47 rfl jcl6 (Nat.le_of_ble_eq_true rfl) fl_X7_9 (Nat.le_of_ble_eq_true rfl) (by first | assumption | rfl) (by rfl) ?_
  refine j_iload_n2 (n := 51) dX7_most_50 rfl ?_
  refine j_iald_n (n := 52) dX7_most_51 rfl (by first | decide | omega) (by first | assumption | rfl) (by decide) (by first | assumption | omega) ?_
  refine j_aload_n0 (n := 53) dX7_most_52 rfl ?_
  refine j_get (n := 56) (k := 0) dX7_most_53 rfl jcl6 (Nat.le_of_ble_eq_true rfl) fl_X7_9 (Nat.le_of_ble_eq_true rfl) (by first | assumption | rfl) (by rfl) ?_
  refine j_iload4 (n := 58) dX7_most_56 rfl ?_
  refine j_iald_n (n := 59) dX7_most_58 rfl (by first | decide | omega) (by first | assumption | rfl) (by decide) (by first | assumption | omega) ?_
  refine j_nicmp_eq (n := 62) 65 dX7_most_59 rfl (by decide) (by omega) (by omega) (fun e2 => ?_) (fun e2 => ?_)
  rotate_left
  · refine j_bipush (n := 64) (-3) dX7_most_62 rfl (by decide) ?_
    refine j_iret dX7_most_64 rfl ?_
    simp [sp_most, k1, k2, k3, k4, c1, c2, c3, c4, e, hid]
    rw [e] at e2
    simp [e2, hid]
  refine j_aload_n0 (n := 66) dX7_most_65 rfl ?_
  refine j_get (n := 69) (k := 1) dX7_most_66 rfl jcl6 (Nat.le_of_ble_eq_true rfl) fl_X7_13 (Nat.le_of_ble_eq_true rfl) (by first | assumption | rfl) (by rfl) ?_
  refine j_iload_n2 (n := 70) dX7_most_69 rfl ?_
  refine j_lald_n (n := 71) dX7_most_70 rfl (by first | decide | omega) (by first | assumption | rfl) (by decide) (by first | assumption | omega) ?_
  refine j_aload_n0 (n := 72) dX7_most_71 rfl ?_
  refine j_get (n := 75) (k := 1) dX7_most_72 rfl jcl6 (Nat.le_of_ble_eq_true rfl) fl_X7_13 (Nat.le_of_ble_eq_true rfl) (by first | assumption | rfl) (by rfl) ?_
  refine j_iload_n3 (n := 76) dX7_most_75 rfl ?_
  refine j_lald_n (n := 77) dX7_most_76 rfl (by first | decide | omega) (by first | assumption | rfl) (by decide) (by first | assumption | omega) ?_
  refine j_land (n := 78) dX7_most_77 rfl ?_
  refine j_lstore5 (n := 80) dX7_most_78 rfl (Nat.le_of_ble_eq_true rfl) rfl ?_
  refine j_aload_n0 (n := 81) dX7_most_80 rfl ?_
  refine j_get (n := 84) (k := 1) dX7_most_81 rfl jcl6 (Nat.le_of_ble_eq_true rfl) fl_X7_13 (Nat.le_of_ble_eq_true rfl) (by first | assumption | rfl) (by rfl) ?_
  refine j_iload_n2 (n := 85) dX7_most_84 rfl ?_
  refine j_lald_n (n := 86) dX7_most_85 rfl (by first | decide | omega) (by first | assumption | rfl) (by decide) (by first | assumption | omega) ?_
  refine j_aload_n0 (n := 87) dX7_most_86 rfl ?_
  refine j_get (n := 90) (k := 1) dX7_most_87 rfl jcl6 (Nat.le_of_ble_eq_true rfl) fl_X7_13 (Nat.le_of_ble_eq_true rfl) (by first | assumption | rfl) (by rfl) ?_
  refine j_iload_n3 (n := 91) dX7_most_90 rfl ?_
  refine j_lald_n (n := 92) dX7_most_91 rfl (by first | decide | omega) (by first | assumption | rfl) (by decide) (by first | assumption | omega) ?_
  refine j_lor (n := 93) dX7_most_92 rfl ?_
  refine j_lstore7 (n := 95) dX7_most_93 rfl (Nat.le_of_ble_eq_true rfl) rfl ?_
  refine j_aload_n0 (n := 96) dX7_most_95 rfl ?_
  refine j_iload_n1 (n := 97) dX7_most_96 rfl ?_
  refine j_aload_n0 (n := 98) dX7_most_97 rfl ?_
  refine j_get (n := 101) (k := 0) dX7_most_98 rfl jcl6 (Nat.le_of_ble_eq_true rfl) fl_X7_9 (Nat.le_of_ble_eq_true rfl) (by first | assumption | rfl) (by rfl) ?_
  refine j_iload_n2 (n := 102) dX7_most_101 rfl ?_
  refine j_iald_n (n := 103) dX7_most_102 rfl (by first | decide | omega) (by first | assumption | rfl) (by decide) (by first | assumption | omega) ?_
  refine j_lload5 (n := 105) dX7_most_103 rfl ?_
  refine j_lload7 (n := 107) dX7_most_105 rfl ?_
  refine j_aload_n0 (n := 108) dX7_most_107 rfl ?_
  refine j_get (n := 111) (k := 1) dX7_most_108 rfl jcl6 (Nat.le_of_ble_eq_true rfl) fl_X7_13 (Nat.le_of_ble_eq_true rfl) (by first | assumption | rfl) (by rfl) ?_
  refine j_iload4 (n := 113) dX7_most_111 rfl ?_
  refine j_lald_n (n := 114) dX7_most_113 rfl (by first | decide | omega) (by first | assumption | rfl) (by decide) (by first | assumption | omega) ?_
  refine j_land (n := 115) dX7_most_114 rfl ?_
  refine j_lor (n := 116) dX7_most_115 rfl ?_
  refine j_topl (lN (majT (sT j2) (sT j3) (sT j4))) (by rw [fb_andL, fb_orL, fb_andL, fb_orL, majT_eq]) ?_
  have hlt : majT (sT j2) (sT j3) (sT j4) < 2 ^ 32 := maj_lt (ok.b hj2) (ok.b hj3)
  refine j_cV3 (n := 119) (con_X7_keep h0 h1 h2 hj1 (by omega)) dX7_most_116 rfl cal_X7_keep ml_X7_72 (Nat.le_of_ble_eq_true rfl) (by first | decide | omega) rfl rfl (Nat.le_of_ble_eq_true rfl) (by first | assumption | rfl) ?_
  rintro _ M2 ⟨rfl, rfl⟩
  refine j_iret dX7_most_119 rfl ?_
  rw [e] at e2
  simp [sp_most, k1, k2, k3, k4, c1, c2, c3, c4, e, e2]
