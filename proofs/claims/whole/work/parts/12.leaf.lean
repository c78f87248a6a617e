set_option maxRecDepth 100000 in
theorem con_X8_in {g : jG} {M : jMem} {v lo hi : Int64} : Fn g jX8_in 0 [.long v, .long lo, .long hi] M (.int (jB (decide (lo ≤ v ∧ v ≤ hi)))) := by
  refine con_of (l := [some (.long v), none, some (.long lo), none, some (.long hi), none]) (by decide) (Nat.le_of_ble_eq_true rfl) rfl ?_
  refine j_lload_n0 (n := 1) dX8_in_0 rfl ?_
  refine j_lload_n2 (n := 2) dX8_in_1 rfl ?_
  refine j_lcmp (n := 3) dX8_in_2 rfl ?_
  refine j_lif_lt (n := 6) 17 dX8_in_3 rfl (by decide) (fun h => ?_) (fun h => ?_)
  · refine j_iconst (n := 18) (nI 0) dX8_in_17 rfl (by decide) ?_
    refine j_ret0 (decide_eq_false ?_) dX8_in_18 rfl ⟨rfl, rfl⟩
    rintro ⟨h1, -⟩
    rw [fa_le64] at h1
    rw [fa_lt64] at h
    omega
  · refine j_lload_n0 (n := 7) dX8_in_6 rfl ?_
    refine j_lload4 (n := 9) dX8_in_7 rfl ?_
    refine j_lcmp (n := 10) dX8_in_9 rfl ?_
    refine j_lif_gt (n := 13) 17 dX8_in_10 rfl (by decide) (fun h2 => ?_) (fun h2 => ?_)
    · refine j_iconst (n := 18) (nI 0) dX8_in_17 rfl (by decide) ?_
      refine j_ret0 (decide_eq_false ?_) dX8_in_18 rfl ⟨rfl, rfl⟩
      rintro ⟨-, h1⟩
      rw [fa_le64] at h1
      rw [fa_lt64] at h2
      omega
    · refine j_iconst (n := 14) (nI 1) dX8_in_13 rfl (by decide) ?_
      refine j_goto 18 dX8_in_14 (by decide) ?_
      refine j_ret1 (decide_eq_true ?_) dX8_in_18 rfl ⟨rfl, rfl⟩
      rw [fa_le64, fa_le64]
      rw [fa_lt64] at h h2
      omega
theorem wide0 : (lN 0 : Int64) = (0 : Int32).toInt64 := by decide
theorem wide7 : (7 : Int64) = (7 : Int32).toInt64 := by decide
set_option maxRecDepth 100000 in
theorem con_X8_isSlot {g : jG} {M : jMem} {s : Int32} : Fn g jX8_isSlot 1 [.int s] M (.int (jB (isSl s))) := by
  refine con_of (l := [some (.int s)]) (by decide) (Nat.le_of_ble_eq_true rfl) rfl ?_
  refine j_iload_n0 (n := 1) dX8_isSlot_0 rfl ?_
  refine j_i2l (n := 2) dX8_isSlot_1 rfl ?_
  refine j_lconst (n := 3) (lN 0) dX8_isSlot_2 rfl rfl ?_
  refine j_ldc2 (n := 6) dX8_isSlot_3 rfl cl_X8_74 ?_
  refine j_fnS3 (n := 9) con_X8_in dX8_isSlot_6 rfl cal_X8_in ml_X8_76 (Nat.le_of_ble_eq_true rfl) (Nat.le_of_ble_eq_true rfl) ?_
  have e : isSl s = decide (lN 0 ≤ s.toInt64 ∧ s.toInt64 ≤ 7) := by
    unfold isSl
    apply decide_eq_decide.mpr
    rw [wide0, wide7, fa_wide_le, fa_wide_le]
  refine j_bret dX8_isSlot_9 rfl ⟨by rw [e], rfl⟩
set_option maxRecDepth 100000 in
theorem con_X8_whole {g : jG} {M : jMem} {n : Nat} (hn : n < 6) : Fn g jX8_whole 0 [.int (nI n)] M (.long (lN (2 ^ 2 ^ n - 1))) := by
  refine con_of (l := [some (.int (nI n))]) (by decide) (Nat.le_of_ble_eq_true rfl) rfl ?_
  refine j_lconst (n := 1) (lN 1) dX8_whole_0 rfl rfl ?_
  refine j_iconst (n := 2) (nI 1) dX8_whole_1 rfl (by decide) ?_
  refine j_iload_n0 (n := 3) dX8_whole_2 rfl ?_
  refine j_ishl (n := 4) dX8_whole_3 rfl ?_
  refine j_topi (nI (2 ^ n)) (ai_shl1 (by omega)) ?_
  refine j_lshl (n := 5) dX8_whole_4 rfl ?_
  refine j_lconst (n := 6) (lN 1) dX8_whole_5 rfl rfl ?_
  refine j_lsub (n := 7) dX8_whole_6 rfl ?_
  refine j_topl (lN (2 ^ 2 ^ n - 1)) ?_ ?_
  · have h : 2 ^ n < 64 := Nat.lt_of_lt_of_le (Nat.pow_lt_pow_right (by omega) hn) (by decide)
    rw [al_shl1 h, lN_sub (Nat.pos_of_ne_zero (by simp))]
  refine j_lret dX8_whole_7 rfl ?_
  exact ⟨rfl, rfl⟩
set_option maxRecDepth 100000 in
theorem con_X8_is {g : jG} {M : jMem} {t r : Nat} (ht : t < 2 ^ 62) (hr : r < 64) : Fn g jX8_is 0 [.long (lN t), .int (nI r)] M (.int (jB (t.testBit r))) := by
  refine con_of (l := [some (.long (lN t)), none, some (.int (nI r))]) (by decide) (Nat.le_of_ble_eq_true rfl) rfl ?_
  refine j_lload_n0 (n := 1) dX8_is_0 rfl ?_
  refine j_iload_n2 (n := 2) dX8_is_1 rfl ?_
  refine j_lshr (n := 3) dX8_is_2 rfl ?_
  refine j_lconst (n := 4) (lN 1) dX8_is_3 rfl rfl ?_
  refine j_land (n := 5) dX8_is_4 rfl ?_
  refine j_topl _ (al_bit ht hr) ?_
  refine j_lconst (n := 6) (lN 1) dX8_is_5 rfl rfl ?_
  refine j_lcmp (n := 7) dX8_is_6 rfl ?_
  refine j_lif_ne (n := 10) 14 dX8_is_7 rfl (by decide) (fun h => ?_) (fun h => ?_)
  · refine j_iconst (n := 15) (nI 0) dX8_is_14 rfl (by decide) ?_
    refine j_ret0 ?_ dX8_is_15 rfl ⟨rfl, rfl⟩
    cases e : t.testBit r with
    | false => rfl
    | true => rw [e] at h; exact absurd rfl h
  · refine j_iconst (n := 11) (nI 1) dX8_is_10 rfl (by decide) ?_
    refine j_goto 15 dX8_is_11 (by decide) ?_
    refine j_ret1 ?_ dX8_is_15 rfl ⟨rfl, rfl⟩
    cases e : t.testBit r with
    | true => rfl
    | false => rw [e] at h; exact absurd h (by decide)
set_option maxRecDepth 100000 in
theorem con_X8_ones {g : jG} {M : jMem} {t : Nat} (ht : t < 2 ^ 62) : Fn g jX8_ones 1 [.long (lN t)] M (.int (nI (cnt 32 t.testBit))) := by
  refine con_of (l := [some (.long (lN t)), none, none, none]) (by decide) (Nat.le_of_ble_eq_true rfl) rfl ?_
  refine j_iconst (n := 1) (nI 0) dX8_ones_0 rfl (by decide) ?_
  refine j_istore_n2 (n := 2) dX8_ones_1 rfl (Nat.le_of_ble_eq_true rfl) rfl ?_
  refine j_iconst (n := 3) (nI 0) dX8_ones_2 rfl (by decide) ?_
  refine j_istore_n3 (n := 4) dX8_ones_3 rfl (Nat.le_of_ble_eq_true rfl) rfl ?_
  have key : ∀ i, i ≤ 32 → J g jX8_ones 1 (fun v M2 => v = some (.int (nI (cnt 32 t.testBit))) ∧ M2 = M) 4 [some (.long (lN t)), none, some (.int (nI (cnt i t.testBit))), some (.int (nI i))] [] M := by
    refine j_for ?_ ?_
    · refine j_iload_n3 (n := 5) dX8_ones_4 rfl ?_
      refine j_bipush (n := 7) (nI 32) dX8_ones_5 rfl (by decide) ?_
      refine j_nicmp_ge (n := 10) 32 dX8_ones_7 rfl (by decide) (by omega) (by omega) (fun h => ?_) (fun h => ?_)
      · refine j_iload_n2 (n := 33) dX8_ones_32 rfl ?_
        refine j_iret dX8_ones_33 rfl ?_
        exact ⟨rfl, rfl⟩
      · omega
    · intro i hi ih
      refine j_iload_n3 (n := 5) dX8_ones_4 rfl ?_
      refine j_bipush (n := 7) (nI 32) dX8_ones_5 rfl (by decide) ?_
      refine j_nicmp_ge (n := 10) 32 dX8_ones_7 rfl (by decide) (by omega) (by omega) (fun h => ?_) (fun h => ?_)
      · omega
      · refine j_iload_n2 (n := 11) dX8_ones_10 rfl ?_
        refine j_lload_n0 (n := 12) dX8_ones_11 rfl ?_
        refine j_iload_n3 (n := 13) dX8_ones_12 rfl ?_
        refine j_fnS2 (n := 16) (con_X8_is ht (by omega)) dX8_ones_13 rfl cal_X8_is ml_X8_80 (Nat.le_of_ble_eq_true rfl) (Nat.le_of_ble_eq_true rfl) ?_
        refine j_bif_eq (n := 19) 23 dX8_ones_16 rfl (by decide) (fun e => ?_) (fun e => ?_)
        · refine j_iconst (n := 24) (nI 0) dX8_ones_23 rfl (by decide) ?_
          refine j_iadd (n := 25) dX8_ones_24 rfl ?_
          refine j_topi (nI (cnt (i + 1) t.testBit)) (by rw [nI_add]; simp [cnt, e]) ?_
          refine j_istore_n2 (n := 26) dX8_ones_25 rfl (Nat.le_of_ble_eq_true rfl) rfl ?_
          refine j_inc3 (n := 29) dX8_ones_26 rfl (Nat.le_of_ble_eq_true rfl) rfl ?_
          refine j_goto 4 dX8_ones_29 (by decide) ?_
          exact ih
        · refine j_iconst (n := 20) (nI 1) dX8_ones_19 rfl (by decide) ?_
          refine j_goto 24 dX8_ones_20 (by decide) ?_
          refine j_iadd (n := 25) dX8_ones_24 rfl ?_
          refine j_topi (nI (cnt (i + 1) t.testBit)) (by rw [nI_add]; simp [cnt, e]) ?_
          refine j_istore_n2 (n := 26) dX8_ones_25 rfl (Nat.le_of_ble_eq_true rfl) rfl ?_
          refine j_inc3 (n := 29) dX8_ones_26 rfl (Nat.le_of_ble_eq_true rfl) rfl ?_
          refine j_goto 4 dX8_ones_29 (by decide) ?_
          exact ih
  exact key 0 (by omega)
set_option maxRecDepth 100000 in
theorem con_X7_isWithin {g : jG} {M : jMem} {v lo hi : Int32} : Fn g jX7_isWithin 0 [.int v, .int lo, .int hi] M (.int (jB (decide (lo ≤ v ∧ v ≤ hi)))) := by
  refine con_of (l := [some (.int v), some (.int lo), some (.int hi)]) (by decide) (Nat.le_of_ble_eq_true rfl) rfl ?_
  refine j_iload_n0 (n := 1) dX7_isWithin_0 rfl ?_
  refine j_iload_n1 (n := 2) dX7_isWithin_1 rfl ?_
  refine j_icmp_lt (n := 5) 14 dX7_isWithin_2 rfl (by decide) (fun h => ?_) (fun h => ?_)
  · refine j_iconst (n := 15) (nI 0) dX7_isWithin_14 rfl (by decide) ?_
    refine j_ret0 (decide_eq_false ?_) dX7_isWithin_15 rfl ⟨rfl, rfl⟩
    rintro ⟨h1, -⟩
    rw [fa_le] at h1
    rw [fa_lt] at h
    omega
  · refine j_iload_n0 (n := 6) dX7_isWithin_5 rfl ?_
    refine j_iload_n2 (n := 7) dX7_isWithin_6 rfl ?_
    refine j_icmp_gt (n := 10) 14 dX7_isWithin_7 rfl (by decide) (fun h2 => ?_) (fun h2 => ?_)
    · refine j_iconst (n := 15) (nI 0) dX7_isWithin_14 rfl (by decide) ?_
      refine j_ret0 (decide_eq_false ?_) dX7_isWithin_15 rfl ⟨rfl, rfl⟩
      rintro ⟨-, h1⟩
      rw [fa_le] at h1
      rw [fa_lt] at h2
      omega
    · refine j_iconst (n := 11) (nI 1) dX7_isWithin_10 rfl (by decide) ?_
      refine j_goto 15 dX7_isWithin_11 (by decide) ?_
      refine j_ret1 (decide_eq_true ?_) dX7_isWithin_15 rfl ⟨rfl, rfl⟩
      rw [fa_le, fa_le]
      rw [fa_lt] at h h2
      omega
set_option maxRecDepth 100000 in
theorem con_X7_isSlot {g : jG} {M : jMem} {s : Int32} : Fn g jX7_isSlot 1 [.int s] M (.int (jB (isSl s))) := by
  refine con_of (l := [some (.int s)]) (by decide) (Nat.le_of_ble_eq_true rfl) rfl ?_
  refine j_iload_n0 (n := 1) dX7_isSlot_0 rfl ?_
  refine j_iconst (n := 2) (nI 0) dX7_isSlot_1 rfl (by decide) ?_
  refine j_bipush (n := 4) (nI 7) dX7_isSlot_2 rfl (by decide) ?_
  refine j_fnS3 (n := 7) con_X7_isWithin dX7_isSlot_4 rfl cal_X7_isWithin ml_X7_62 (Nat.le_of_ble_eq_true rfl) (Nat.le_of_ble_eq_true rfl) ?_
  refine j_bret dX7_isSlot_7 rfl ⟨rfl, rfl⟩
set_option maxRecDepth 100000 in
theorem con_X5_number {g : jG} {M : jMem} {n : Nat} (hn : n < 31) : Fn g jX5_number 0 [.int (nI n)] M (.int (nI (2 ^ n))) := by
  refine con_of (l := [some (.int (nI n))]) (by decide) (Nat.le_of_ble_eq_true rfl) rfl ?_
  refine j_iconst (n := 1) (nI 1) dX5_number_0 rfl (by decide) ?_
  refine j_iload_n0 (n := 2) dX5_number_1 rfl ?_
  refine j_ishl (n := 3) dX5_number_2 rfl ?_
  refine j_topi (nI (2 ^ n)) (ai_shl1 hn) ?_
  refine j_iret dX5_number_3 rfl ?_
  exact ⟨rfl, rfl⟩
set_option maxRecDepth 100000 in
theorem con_X5_all {g : jG} {M : jMem} {n : Nat} (hn : n < 6) : Fn g jX5_all 1 [.int (nI n)] M (.long (lN (2 ^ 2 ^ n - 1))) := by
  refine con_of (l := [some (.int (nI n))]) (by decide) (Nat.le_of_ble_eq_true rfl) rfl ?_
  refine j_lconst (n := 1) (lN 1) dX5_all_0 rfl rfl ?_
  refine j_iload_n0 (n := 2) dX5_all_1 rfl ?_
  refine j_fnS1 (n := 5) (con_X5_number (by omega)) dX5_all_2 rfl cal_X5_number ml_X5_7 (Nat.le_of_ble_eq_true rfl) (Nat.le_of_ble_eq_true rfl) ?_
  refine j_lshl (n := 6) dX5_all_5 rfl ?_
  refine j_lconst (n := 7) (lN 1) dX5_all_6 rfl rfl ?_
  refine j_lsub (n := 8) dX5_all_7 rfl ?_
  refine j_topl (lN (2 ^ 2 ^ n - 1)) ?_ ?_
  · have h : 2 ^ n < 64 := Nat.lt_of_lt_of_le (Nat.pow_lt_pow_right (by omega) hn) (by decide)
    rw [al_shl1 h, lN_sub (Nat.pos_of_ne_zero (by simp))]
  refine j_lret dX5_all_8 rfl ?_
  exact ⟨rfl, rfl⟩
set_option maxRecDepth 100000 in
theorem con_X5_isOne {g : jG} {M : jMem} {t r : Nat} (ht : t < 2 ^ 62) (hr : r < 64) : Fn g jX5_isOne 0 [.long (lN t), .int (nI r)] M (.int (jB (t.testBit r))) := by
  refine con_of (l := [some (.long (lN t)), none, some (.int (nI r))]) (by decide) (Nat.le_of_ble_eq_true rfl) rfl ?_
  refine j_lload_n0 (n := 1) dX5_isOne_0 rfl ?_
  refine j_iload_n2 (n := 2) dX5_isOne_1 rfl ?_
  refine j_lushr (n := 3) dX5_isOne_2 rfl ?_
  refine j_lconst (n := 4) (lN 1) dX5_isOne_3 rfl rfl ?_
  refine j_land (n := 5) dX5_isOne_4 rfl ?_
  refine j_topl _ (al_ubit (by omega) hr) ?_
  refine j_lconst (n := 6) (lN 0) dX5_isOne_5 rfl rfl ?_
  refine j_lcmp (n := 7) dX5_isOne_6 rfl ?_
  refine j_lif_eq (n := 10) 14 dX5_isOne_7 rfl (by decide) (fun h => ?_) (fun h => ?_)
  · refine j_iconst (n := 15) (nI 0) dX5_isOne_14 rfl (by decide) ?_
    refine j_ret0 ?_ dX5_isOne_15 rfl ⟨rfl, rfl⟩
    cases e : t.testBit r with
    | false => rfl
    | true => rw [e] at h; exact absurd h (by decide)
  · refine j_iconst (n := 11) (nI 1) dX5_isOne_10 rfl (by decide) ?_
    refine j_goto 15 dX5_isOne_11 (by decide) ?_
    refine j_ret1 ?_ dX5_isOne_15 rfl ⟨rfl, rfl⟩
    cases e : t.testBit r with
    | true => rfl
    | false => rw [e] at h; exact absurd rfl h
set_option maxRecDepth 100000 in
theorem con_X5_hasInput {g : jG} {M : jMem} {r i : Nat} (hr : r < 2 ^ 31) (hi : i < 32) : Fn g jX5_hasInput 0 [.int (nI r), .int (nI i)] M (.int (jB (r.testBit i))) := by
  refine con_of (l := [some (.int (nI r)), some (.int (nI i))]) (by decide) (Nat.le_of_ble_eq_true rfl) rfl ?_
  refine j_iload_n0 (n := 1) dX5_hasInput_0 rfl ?_
  refine j_iload_n1 (n := 2) dX5_hasInput_1 rfl ?_
  refine j_ishr (n := 3) dX5_hasInput_2 rfl ?_
  refine j_iconst (n := 4) (nI 1) dX5_hasInput_3 rfl (by decide) ?_
  refine j_iand (n := 5) dX5_hasInput_4 rfl ?_
  refine j_topi _ (ai_bit hr hi) ?_
  refine j_bif_eq (n := 8) 12 dX5_hasInput_5 rfl (by decide) (fun h => ?_) (fun h => ?_)
  · refine j_iconst (n := 13) (nI 0) dX5_hasInput_12 rfl (by decide) ?_
    exact j_ret0 h dX5_hasInput_13 rfl ⟨rfl, rfl⟩
  · refine j_iconst (n := 9) (nI 1) dX5_hasInput_8 rfl (by decide) ?_
    refine j_goto 13 dX5_hasInput_9 (by decide) ?_
    exact j_ret1 h dX5_hasInput_13 rfl ⟨rfl, rfl⟩
