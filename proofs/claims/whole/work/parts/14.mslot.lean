set_option maxRecDepth 100000 in
theorem con_X8_set {g : jG} {M : jMem} {q : jMq} {sn sT : Nat → Nat} (h34 : M 34 = .inr (7, oMod g q)) (h35 : M 35 = iA g 8 fun j => nI (sn j)) (h36 : M 36 = lA g 8 fun j => lN (sT j)) {k n t : Nat} (hk : k < 8) (ht : t < 2 ^ 62) : Con g jX8_set 2 [.ref (jA g 34), .int (nI k), .int (nI n), .long (lN t)] M (fun v M2 => v = some (.int (nI (cnt 32 t.testBit))) ∧ M2 = setM g 35 M (va_up sn k n) (va_up sT k t)) := by
  refine con_of (l := [some (.ref (jA g 34)), some (.int (nI k)), some (.int (nI n)), some (.long (lN t)), none]) (by decide) (Nat.le_of_ble_eq_true rfl) rfl ?_
  refine j_aload_n0 (n := 1) dX8_set_0 rfl ?_
  refine j_get (n := 4) (k := 0) dX8_set_1 rfl jcl7 (Nat.le_of_ble_eq_true rfl) fl_X8_7 (Nat.le_of_ble_eq_true rfl) (by first | assumption | rfl) (by rfl) ?_
  refine j_iload_n1 (n := 5) dX8_set_4 rfl ?_
  refine j_iload_n2 (n := 6) dX8_set_5 rfl ?_
  refine j_iast_n (n := 7) dX8_set_6 rfl (by first | decide | omega) (by first | assumption | rfl) (by decide) (by first | assumption | omega) ?_
  refine j_aload_n0 (n := 8) dX8_set_7 rfl ?_
  refine j_get (n := 11) (k := 1) dX8_set_8 rfl jcl7 (Nat.le_of_ble_eq_true rfl) fl_X8_13 (Nat.le_of_ble_eq_true rfl) (by first | assumption | rfl) (by rfl) ?_
  refine j_iload_n1 (n := 12) dX8_set_11 rfl ?_
  refine j_lload_n3 (n := 13) dX8_set_12 rfl ?_
  refine j_last_n (n := 14) dX8_set_13 rfl (by first | decide | omega) (by first | assumption | rfl) (by decide) (by first | assumption | omega) ?_
  refine j_lload_n3 (n := 15) dX8_set_14 rfl ?_
  refine j_fnS1 (n := 18) (con_X8_ones ht) dX8_set_15 rfl cal_X8_ones ml_X8_84 (Nat.le_of_ble_eq_true rfl) (Nat.le_of_ble_eq_true rfl) ?_
  refine j_iret dX8_set_18 rfl ?_
  refine ⟨rfl, ?_⟩
  rw [updI, updL]
  rfl
set_option maxRecDepth 100000 in
theorem con_X8_bits {g : jG} {M : jMem} {q : jMq} {sT : Nat → Nat} (h34 : M 34 = .inr (7, oMod g q)) (h36 : M 36 = lA g 8 fun j => lN (sT j)) {s : Int32} : Fn g jX8_bits 2 [.ref (jA g 34), .int s] M (.long (sp_bits sT s)) := by
  refine con_of (l := [some (.ref (jA g 34)), some (.int s)]) (by decide) (Nat.le_of_ble_eq_true rfl) rfl ?_
  refine j_iload_n1 (n := 1) dX8_bits_0 rfl ?_
  refine j_fnS1 (n := 4) con_X8_isSlot dX8_bits_1 rfl cal_X8_isSlot ml_X8_88 (Nat.le_of_ble_eq_true rfl) (Nat.le_of_ble_eq_true rfl) ?_
  refine j_bif_eq (n := 7) 16 dX8_bits_4 rfl (by decide) (fun hs => ?_) (fun hs => ?_)
  · refine j_ldc2 (n := 19) dX8_bits_16 rfl cl_X8_27 ?_
    refine j_lret dX8_bits_19 rfl ?_
    exact ⟨by simp [sp_bits, hs], rfl⟩
  · obtain ⟨j, hj, rfl⟩ := isSl_of hs
    refine j_aload_n0 (n := 8) dX8_bits_7 rfl ?_
    refine j_get (n := 11) (k := 1) dX8_bits_8 rfl jcl7 (Nat.le_of_ble_eq_true rfl) fl_X8_13 (Nat.le_of_ble_eq_true rfl) (by first | assumption | rfl) (by rfl) ?_
    refine j_iload_n1 (n := 12) dX8_bits_11 rfl ?_
    refine j_lald_n (n := 13) dX8_bits_12 rfl (by first | decide | omega) (by first | assumption | rfl) (by decide) (by first | assumption | omega) ?_
    refine j_goto 19 dX8_bits_13 (by decide) ?_
    refine j_lret dX8_bits_19 rfl ?_
    exact ⟨by simp [sp_bits, hs, nI_clamp (show j < 2 ^ 31 by omega)], rfl⟩
set_option maxRecDepth 100000 in
theorem con_X8_inputs {g : jG} {M : jMem} {q : jMq} {sn : Nat → Nat} (h34 : M 34 = .inr (7, oMod g q)) (h35 : M 35 = iA g 8 fun j => nI (sn j)) {s : Int32} : Fn g jX8_inputs 2 [.ref (jA g 34), .int s] M (.int (sp_inputs sn s)) := by
  refine con_of (l := [some (.ref (jA g 34)), some (.int s)]) (by decide) (Nat.le_of_ble_eq_true rfl) rfl ?_
  refine j_iload_n1 (n := 1) dX8_inputs_0 rfl ?_
  refine j_fnS1 (n := 4) con_X8_isSlot dX8_inputs_1 rfl cal_X8_isSlot ml_X8_88 (Nat.le_of_ble_eq_true rfl) (Nat.le_of_ble_eq_true rfl) ?_
  refine j_bif_eq (n := 7) 16 dX8_inputs_4 rfl (by decide) (fun hs => ?_) (fun hs => ?_)
  · refine j_iconst (n := 17) (-1) dX8_inputs_16 rfl (by decide) ?_
    refine j_iret dX8_inputs_17 rfl ?_
    exact ⟨by simp [sp_inputs, hs], rfl⟩
  · obtain ⟨j, hj, rfl⟩ := isSl_of hs
    refine j_aload_n0 (n := 8) dX8_inputs_7 rfl ?_
    refine j_get (n := 11) (k := 0) dX8_inputs_8 rfl jcl7 (Nat.le_of_ble_eq_true rfl) fl_X8_7 (Nat.le_of_ble_eq_true rfl) (by first | assumption | rfl) (by rfl) ?_
    refine j_iload_n1 (n := 12) dX8_inputs_11 rfl ?_
    refine j_iald_n (n := 13) dX8_inputs_12 rfl (by first | decide | omega) (by first | assumption | rfl) (by decide) (by first | assumption | omega) ?_
    refine j_goto 17 dX8_inputs_13 (by decide) ?_
    refine j_iret dX8_inputs_17 rfl ?_
    exact ⟨by simp [sp_inputs, hs, nI_clamp (show j < 2 ^ 31 by omega)], rfl⟩
set_option maxRecDepth 100000 in
theorem con_X8_isInput {g : jG} {M : jMem} {q : jMq} {sn : Nat → Nat} (h34 : M 34 = .inr (7, oMod g q)) (h35 : M 35 = iA g 8 fun j => nI (sn j)) {j : Nat} (hj : j < 8) {i : Int32} : Fn g jX8_isInput 1 [.ref (jA g 34), .int (nI j), .int i] M (.int (jB (isIn (sn j) i))) := by
  refine con_of (l := [some (.ref (jA g 34)), some (.int (nI j)), some (.int i)]) (by decide) (Nat.le_of_ble_eq_true rfl) rfl ?_
  refine j_iload_n2 (n := 1) dX8_isInput_0 rfl ?_
  refine j_i2l (n := 2) dX8_isInput_1 rfl ?_
  refine j_lconst (n := 3) (lN 0) dX8_isInput_2 rfl rfl ?_
  refine j_aload_n0 (n := 4) dX8_isInput_3 rfl ?_
  refine j_get (n := 7) (k := 0) dX8_isInput_4 rfl jcl7 (Nat.le_of_ble_eq_true rfl) fl_X8_7 (Nat.le_of_ble_eq_true rfl) (by first | assumption | rfl) (by rfl) ?_
  refine j_iload_n1 (n := 8) dX8_isInput_7 rfl ?_
  refine j_iald_n (n := 9) dX8_isInput_8 rfl (by first | decide | omega) (by first | assumption | rfl) (by decide) (by first | assumption | omega) ?_
  refine j_iconst (n := 10) (nI 1) dX8_isInput_9 rfl (by decide) ?_
  refine j_isub (n := 11) dX8_isInput_10 rfl ?_
  refine j_i2l (n := 12) dX8_isInput_11 rfl ?_
  refine j_fnS3 (n := 15) con_X8_in dX8_isInput_12 rfl cal_X8_in ml_X8_76 (Nat.le_of_ble_eq_true rfl) (Nat.le_of_ble_eq_true rfl) ?_
  have e : isIn (sn j) i = decide (lN 0 ≤ i.toInt64 ∧ i.toInt64 ≤ (nI (sn j) - nI 1).toInt64) := by
    unfold isIn
    apply decide_eq_decide.mpr
    rw [wide0, fa_wide_le, fa_wide_le]
    rfl
  refine j_bret dX8_isInput_15 rfl ⟨by rw [e], rfl⟩
theorem l_nn {b : Int64} (h : lN 0 ≤ b) : ¬ b < 0 := by
  intro z
  rw [fa_le64] at h
  rw [fa_lt64] at z
  have e0 : (lN 0).toInt = 0 := by decide
  have e1 : (0 : Int64).toInt = 0 := by decide
  omega
theorem wide1 : (lN 1 : Int64) = (1 : Int32).toInt64 := by decide
theorem wide5 : (5 : Int64) = (nI 5).toInt64 := by decide
set_option maxRecDepth 100000 in
theorem con_X8_table {g : jG} {M : jMem} {q : jMq} {sn sT : Nat → Nat} (h34 : M 34 = .inr (7, oMod g q)) (h35 : M 35 = iA g 8 fun j => nI (sn j)) (h36 : M 36 = lA g 8 fun j => lN (sT j)) {s n : Int32} {b : Int64} : Con g jX8_table 3 [.ref (jA g 34), .int s, .int n, .long b] M (fun v M2 => v = some (.int (sp_table sn sT s n b).1) ∧ M2 = setM g 35 M (sp_table sn sT s n b).2.1 (sp_table sn sT s n b).2.2) := by
  have hid := setM_id h35 h36
  refine con_of (l := [some (.ref (jA g 34)), some (.int s), some (.int n), some (.long b), none]) (by decide) (Nat.le_of_ble_eq_true rfl) rfl ?_
  refine j_iload_n1 (n := 1) dX8_table_0 rfl ?_
  refine j_fnS1 (n := 4) con_X8_isSlot dX8_table_1 rfl cal_X8_isSlot ml_X8_88 (Nat.le_of_ble_eq_true rfl) (Nat.le_of_ble_eq_true rfl) ?_
  refine j_bif_ne (n := 7) 9 dX8_table_4 rfl (by decide) (fun hs => ?_) (fun hs => ?_)
  · refine j_iload_n2 (n := 10) dX8_table_9 rfl ?_
    refine j_i2l (n := 11) dX8_table_10 rfl ?_
    refine j_lconst (n := 12) (lN 1) dX8_table_11 rfl rfl ?_
    refine j_ldc2 (n := 15) dX8_table_12 rfl cl_X8_92 ?_
    refine j_fnS3 (n := 18) con_X8_in dX8_table_15 rfl cal_X8_in ml_X8_76 (Nat.le_of_ble_eq_true rfl) (Nat.le_of_ble_eq_true rfl) ?_
    have e5 : decide (lN 1 ≤ n.toInt64 ∧ n.toInt64 ≤ 5) = isTo 5 n := by
      unfold isTo
      apply decide_eq_decide.mpr
      rw [wide1, wide5, fa_wide_le, fa_wide_le]
    rw [e5]
    refine j_bif_eq (n := 21) 33 dX8_table_18 rfl (by decide) (fun hn => ?_) (fun hn => ?_)
    · refine j_bipush (n := 35) (-2) dX8_table_33 rfl (by decide) ?_
      refine j_iret dX8_table_35 rfl ?_
      simp [sp_table, hs, hn, hid]
    · obtain ⟨m, hm1, hm5, rfl⟩ := isTo_of (by decide) hn
      refine j_lload_n3 (n := 22) dX8_table_21 rfl ?_
      refine j_lconst (n := 23) (lN 0) dX8_table_22 rfl rfl ?_
      refine j_iload_n2 (n := 24) dX8_table_23 rfl ?_
      refine j_fnS1 (n := 27) (con_X8_whole (by omega)) dX8_table_24 rfl cal_X8_whole ml_X8_94 (Nat.le_of_ble_eq_true rfl) (Nat.le_of_ble_eq_true rfl) ?_
      refine j_fnS3 (n := 30) con_X8_in dX8_table_27 rfl cal_X8_in ml_X8_76 (Nat.le_of_ble_eq_true rfl) (Nat.le_of_ble_eq_true rfl) ?_
      refine j_bif_ne (n := 33) 36 dX8_table_30 rfl (by decide) (fun hb => ?_) (fun hb => ?_)
      · obtain ⟨j, hj, rfl⟩ := isSl_of hs
        have hb2 : lN 0 ≤ b ∧ b ≤ lN (2 ^ 2 ^ m - 1) := of_decide_eq_true hb
        have hw : 2 ^ 2 ^ m ≤ 2 ^ 32 := pw32 hm5
        obtain ⟨t, ht, rfl⟩ := pk_lOf (x := b) (l_nn hb2.1)
        have ht2 : t ≤ 2 ^ 2 ^ m - 1 := (pk_lLE ht (by omega)).mp hb2.2
        refine j_aload_n0 (n := 37) dX8_table_36 rfl ?_
        refine j_iload_n1 (n := 38) dX8_table_37 rfl ?_
        refine j_iload_n2 (n := 39) dX8_table_38 rfl ?_
        refine j_lload_n3 (n := 40) dX8_table_39 rfl ?_
        refine j_cV3 (n := 43) (con_X8_set h34 h35 h36 hj (by omega)) dX8_table_40 rfl cal_X8_set ml_X8_98 (Nat.le_of_ble_eq_true rfl) (by first | decide | omega) rfl rfl (Nat.le_of_ble_eq_true rfl) (by first | assumption | rfl) ?_
        rintro _ M2 ⟨rfl, rfl⟩
        refine j_iret dX8_table_43 rfl ?_
        have hb3 : decide (0 ≤ lN t ∧ lN t ≤ lN (2 ^ 2 ^ m - 1)) = true := hb
        simp [sp_table, hs, hn, hb3, nI_clamp (show j < 2 ^ 31 by omega), nI_clamp (show m < 2 ^ 31 by omega), pk_lT ht]
      · refine j_bipush (n := 35) (-2) dX8_table_33 rfl (by decide) ?_
        refine j_iret dX8_table_35 rfl ?_
        have hb3 : decide (0 ≤ b ∧ b ≤ lN (2 ^ 2 ^ m - 1)) = false := hb
        simp [sp_table, hs, hn, hb3, hid, nI_clamp (show m < 2 ^ 31 by omega)]
  · refine j_iconst (n := 8) (-1) dX8_table_7 rfl (by decide) ?_
    refine j_iret dX8_table_8 rfl ?_
    simp [sp_table, hs, hid]
