/-- the rows with the one input and without the other -/
def OL (i j : Nat) : Nat := WIT i &&& (WIT j ^^^ 4294967295)
def CCm (i j : Nat) : Nat := 18446744073709551615 ^^^ (OL i j ||| OL j i)
theorem OL_v : ∀ i, i < 4 → ∀ j, j < 4 → lN (WIT i) &&& (lN (WIT j) ^^^ (-1)) = lN (OL i j) := by decide +kernel
theorem CC_v : ∀ i, i < 4 → ∀ j, j < 4 → (lN (OL i j) ||| lN (OL j i)) ^^^ (-1) = lN (CCm i j) := by decide +kernel
theorem sw_r1_0 : ∀ i, i < 4 → ∀ j, j < 4 → ∀ r, r < 32 → i ≤ j → r.testBit i = r.testBit j → swp i j r = r := by decide +kernel
theorem sw_r1_1 : ∀ i, i < 4 → ∀ j, j < 4 → ∀ r, r < 32 → i ≤ j → r.testBit i = r.testBit j → (CCm i j).testBit r = true := by decide +kernel
theorem sw_r1_2 : ∀ i, i < 4 → ∀ j, j < 4 → ∀ r, r < 32 → i ≤ j → r.testBit i = r.testBit j → ((OL i j).testBit (r - (2 ^ j - 2 ^ i)) && decide (2 ^ j - 2 ^ i ≤ r)) = false := by decide +kernel
theorem sw_r1_3 : ∀ i, i < 4 → ∀ j, j < 4 → ∀ r, r < 32 → i ≤ j → r.testBit i = r.testBit j → (OL j i).testBit (r + (2 ^ j - 2 ^ i)) = false := by decide +kernel
theorem sw_r1 : ∀ i, i < 4 → ∀ j, j < 4 → ∀ r, r < 32 → i ≤ j → r.testBit i = r.testBit j → swp i j r = r ∧ (CCm i j).testBit r = true ∧ ((OL i j).testBit (r - (2 ^ j - 2 ^ i)) && decide (2 ^ j - 2 ^ i ≤ r)) = false ∧ (OL j i).testBit (r + (2 ^ j - 2 ^ i)) = false := fun i hi j hj r hr hij h0 => ⟨sw_r1_0 i hi j hj r hr hij h0, sw_r1_1 i hi j hj r hr hij h0, sw_r1_2 i hi j hj r hr hij h0, sw_r1_3 i hi j hj r hr hij h0⟩
theorem sw_r2_0 : ∀ i, i < 4 → ∀ j, j < 4 → ∀ r, r < 32 → (i ≤ j ∧ ¬ r.testBit i = r.testBit j ∧ r.testBit j = true) → 2 ^ j - 2 ^ i ≤ r := by decide +kernel
theorem sw_r2_1 : ∀ i, i < 4 → ∀ j, j < 4 → ∀ r, r < 32 → (i ≤ j ∧ ¬ r.testBit i = r.testBit j ∧ r.testBit j = true) → swp i j r = r - (2 ^ j - 2 ^ i) := by decide +kernel
theorem sw_r2_2 : ∀ i, i < 4 → ∀ j, j < 4 → ∀ r, r < 32 → (i ≤ j ∧ ¬ r.testBit i = r.testBit j ∧ r.testBit j = true) → (CCm i j).testBit r = false := by decide +kernel
theorem sw_r2_3 : ∀ i, i < 4 → ∀ j, j < 4 → ∀ r, r < 32 → (i ≤ j ∧ ¬ r.testBit i = r.testBit j ∧ r.testBit j = true) → (OL i j).testBit (r - (2 ^ j - 2 ^ i)) = true := by decide +kernel
theorem sw_r2_4 : ∀ i, i < 4 → ∀ j, j < 4 → ∀ r, r < 32 → (i ≤ j ∧ ¬ r.testBit i = r.testBit j ∧ r.testBit j = true) → (OL j i).testBit (r + (2 ^ j - 2 ^ i)) = false := by decide +kernel
theorem sw_r2 : ∀ i, i < 4 → ∀ j, j < 4 → ∀ r, r < 32 → i ≤ j → ¬ r.testBit i = r.testBit j → r.testBit j = true → 2 ^ j - 2 ^ i ≤ r ∧ swp i j r = r - (2 ^ j - 2 ^ i) ∧ (CCm i j).testBit r = false ∧ (OL i j).testBit (r - (2 ^ j - 2 ^ i)) = true ∧ (OL j i).testBit (r + (2 ^ j - 2 ^ i)) = false := fun i hi j hj r hr hij h0 h1 => ⟨sw_r2_0 i hi j hj r hr ⟨hij, h0, h1⟩, sw_r2_1 i hi j hj r hr ⟨hij, h0, h1⟩, sw_r2_2 i hi j hj r hr ⟨hij, h0, h1⟩, sw_r2_3 i hi j hj r hr ⟨hij, h0, h1⟩, sw_r2_4 i hi j hj r hr ⟨hij, h0, h1⟩⟩
theorem sw_r3_0 : ∀ i, i < 4 → ∀ j, j < 4 → ∀ r, r < 32 → (i ≤ j ∧ ¬ r.testBit i = r.testBit j ∧ ¬ r.testBit j = true) → swp i j r = r + (2 ^ j - 2 ^ i) := by decide +kernel
theorem sw_r3_1 : ∀ i, i < 4 → ∀ j, j < 4 → ∀ r, r < 32 → (i ≤ j ∧ ¬ r.testBit i = r.testBit j ∧ ¬ r.testBit j = true) → (CCm i j).testBit r = false := by decide +kernel
theorem sw_r3_2 : ∀ i, i < 4 → ∀ j, j < 4 → ∀ r, r < 32 → (i ≤ j ∧ ¬ r.testBit i = r.testBit j ∧ ¬ r.testBit j = true) → ((OL i j).testBit (r - (2 ^ j - 2 ^ i)) && decide (2 ^ j - 2 ^ i ≤ r)) = false := by decide +kernel
theorem sw_r3_3 : ∀ i, i < 4 → ∀ j, j < 4 → ∀ r, r < 32 → (i ≤ j ∧ ¬ r.testBit i = r.testBit j ∧ ¬ r.testBit j = true) → (OL j i).testBit (r + (2 ^ j - 2 ^ i)) = true := by decide +kernel
theorem sw_r3 : ∀ i, i < 4 → ∀ j, j < 4 → ∀ r, r < 32 → i ≤ j → ¬ r.testBit i = r.testBit j → ¬ r.testBit j = true → swp i j r = r + (2 ^ j - 2 ^ i) ∧ (CCm i j).testBit r = false ∧ ((OL i j).testBit (r - (2 ^ j - 2 ^ i)) && decide (2 ^ j - 2 ^ i ≤ r)) = false ∧ (OL j i).testBit (r + (2 ^ j - 2 ^ i)) = true := fun i hi j hj r hr hij h0 h1 => ⟨sw_r3_0 i hi j hj r hr ⟨hij, h0, h1⟩, sw_r3_1 i hi j hj r hr ⟨hij, h0, h1⟩, sw_r3_2 i hi j hj r hr ⟨hij, h0, h1⟩, sw_r3_3 i hi j hj r hr ⟨hij, h0, h1⟩⟩
theorem swp_ge : ∀ n, n < 5 → ∀ i, i < n → ∀ j, j < n → ∀ r, r < 32 → 2 ^ n ≤ r → 2 ^ n ≤ swp i j r := by decide +kernel
theorem pw7 : ∀ i, i < 4 → ∀ j, j < 4 → 2 ^ j - 2 ^ i ≤ 7 := by decide
theorem sw_eq {n t i j : Nat} (hn : n ≤ 4) (ht : t < 2 ^ 2 ^ n) (hi : i ≤ j) (hj : j < n) : ((t &&& CCm i j) ||| ((t &&& OL i j) * 2 ^ (2 ^ j - 2 ^ i))) ||| ((t &&& OL j i) / 2 ^ (2 ^ j - 2 ^ i)) = swT n t i j := by
  have h16 := pw16 hn
  have h7 := pw7 i (by omega) j (by omega)
  apply Nat.eq_of_testBit_eq
  intro r
  unfold swT
  rw [mkT_bit, Nat.testBit_or, Nat.testBit_or, Nat.testBit_div_two_pow, Nat.testBit_and, Nat.testBit_and, ← Nat.shiftLeft_eq, Nat.testBit_shiftLeft, Nat.testBit_and]
  by_cases hr : r < 32
  · have e : (t.testBit r && (CCm i j).testBit r || decide (r ≥ 2 ^ j - 2 ^ i) && (t.testBit (r - (2 ^ j - 2 ^ i)) && (OL i j).testBit (r - (2 ^ j - 2 ^ i))) || t.testBit (r + (2 ^ j - 2 ^ i)) && (OL j i).testBit (r + (2 ^ j - 2 ^ i))) = t.testBit (swp i j r) := by
      by_cases y1 : r.testBit i = r.testBit j
      · obtain ⟨a, b, c, d⟩ := sw_r1 i (by omega) j (by omega) r hr hi y1
        rw [a, b, d]
        cases hz : decide (2 ^ j - 2 ^ i ≤ r)
        · simp [hz]
        · rw [hz, Bool.and_true] at c
          simp [c]
      · by_cases y2 : r.testBit j = true
        · obtain ⟨z, a, b, c, d⟩ := sw_r2 i (by omega) j (by omega) r hr hi y1 y2
          rw [a, b, c, d]
          simp [z]
        · obtain ⟨a, b, c, d⟩ := sw_r3 i (by omega) j (by omega) r hr hi y1 y2
          rw [a, b, d]
          cases hz : decide (2 ^ j - 2 ^ i ≤ r)
          · simp [hz]
          · rw [hz, Bool.and_true] at c
            simp [c]
    rw [e]
    by_cases h2 : r < 2 ^ n
    · simp [h2]
    · rw [tb_no ht (swp_ge n (by omega) i (by omega) j hj r hr (by omega))]
      simp [h2]
  · rw [tb_no ht (show 2 ^ n ≤ r by omega), tb_no ht (show 2 ^ n ≤ r + (2 ^ j - 2 ^ i) by omega), tb_no ht (show 2 ^ n ≤ r - (2 ^ j - 2 ^ i) by omega)]
    have : ¬ r < 2 ^ n := by omega
    simp [this]
set_option maxRecDepth 100000 in
theorem con_X5_inputsSwapped {g : jG} {M : jMem} {n t i j : Nat} (hn : n ≤ 4) (ht : t < 2 ^ 2 ^ n) (hi : i ≤ j) (hj : j < n) : Fn g jX5_inputsSwapped 0 [.long (lN t), .int (nI i), .int (nI j)] M (.long (lN (swT n t i j))) := by
  have ht32 : t < 2 ^ 32 := Nat.lt_of_lt_of_le ht (pw32 (by omega))
  have h7 := pw7 i (by omega) j (by omega)
  have hp : 2 ^ i ≤ 2 ^ j := Nat.pow_le_pow_right (by omega) hi
  refine con_of (l := [some (.long (lN t)), none, some (.int (nI i)), some (.int (nI j)), none, none, none, none, none]) (by decide) (Nat.le_of_ble_eq_true rfl) rfl ?_
  refine j_gets (n := 3) (kz := 3) dX5_inputsSwapped_0 rfl (Nat.le_of_ble_eq_true rfl) fl_X5_13 ?_
  refine j_iload_n2 (n := 4) dX5_inputsSwapped_3 rfl ?_
  refine j_tlld_n (n := 5) (v := lN (WIT i)) dX5_inputsSwapped_4 rfl (Nat.le_of_ble_eq_true rfl) rfl (by decide) (show i < 5 by omega) (WIT_v i (by omega)) ?_
  refine j_gets (n := 8) (kz := 3) dX5_inputsSwapped_5 rfl (Nat.le_of_ble_eq_true rfl) fl_X5_13 ?_
  refine j_iload_n3 (n := 9) dX5_inputsSwapped_8 rfl ?_
  refine j_tlld_n (n := 10) (v := lN (WIT j)) dX5_inputsSwapped_9 rfl (Nat.le_of_ble_eq_true rfl) rfl (by decide) (show j < 5 by omega) (WIT_v j (by omega)) ?_
  refine j_ldc2 (n := 13) dX5_inputsSwapped_10 rfl cl_X5_23 ?_
  refine j_lxor (n := 14) dX5_inputsSwapped_13 rfl ?_
  refine j_land (n := 15) dX5_inputsSwapped_14 rfl ?_
  refine j_topl (lN (OL i j)) (OL_v i (by omega) j (by omega)) ?_
  refine j_lstore4 (n := 17) dX5_inputsSwapped_15 rfl (Nat.le_of_ble_eq_true rfl) rfl ?_
  refine j_gets (n := 20) (kz := 3) dX5_inputsSwapped_17 rfl (Nat.le_of_ble_eq_true rfl) fl_X5_13 ?_
  refine j_iload_n3 (n := 21) dX5_inputsSwapped_20 rfl ?_
  refine j_tlld_n (n := 22) (v := lN (WIT j)) dX5_inputsSwapped_21 rfl (Nat.le_of_ble_eq_true rfl) rfl (by decide) (show j < 5 by omega) (WIT_v j (by omega)) ?_
  refine j_gets (n := 25) (kz := 3) dX5_inputsSwapped_22 rfl (Nat.le_of_ble_eq_true rfl) fl_X5_13 ?_
  refine j_iload_n2 (n := 26) dX5_inputsSwapped_25 rfl ?_
  refine j_tlld_n (n := 27) (v := lN (WIT i)) dX5_inputsSwapped_26 rfl (Nat.le_of_ble_eq_true rfl) rfl (by decide) (show i < 5 by omega) (WIT_v i (by omega)) ?_
  refine j_ldc2 (n := 30) dX5_inputsSwapped_27 rfl cl_X5_23 ?_
  refine j_lxor (n := 31) dX5_inputsSwapped_30 rfl ?_
  refine j_land (n := 32) dX5_inputsSwapped_31 rfl ?_
  refine j_topl (lN (OL j i)) (OL_v j (by omega) i (by omega)) ?_
  refine j_lstore6 (n := 34) dX5_inputsSwapped_32 rfl (Nat.le_of_ble_eq_true rfl) rfl ?_
  refine j_iconst (n := 35) (nI 1) dX5_inputsSwapped_34 rfl (by decide) ?_
  refine j_iload_n3 (n := 36) dX5_inputsSwapped_35 rfl ?_
  refine j_ishl (n := 37) dX5_inputsSwapped_36 rfl ?_
  refine j_topi (nI (2 ^ j)) (ai_shl1 (by omega)) ?_
  refine j_iconst (n := 38) (nI 1) dX5_inputsSwapped_37 rfl (by decide) ?_
  refine j_iload_n2 (n := 39) dX5_inputsSwapped_38 rfl ?_
  refine j_ishl (n := 40) dX5_inputsSwapped_39 rfl ?_
  refine j_topi (nI (2 ^ i)) (ai_shl1 (by omega)) ?_
  refine j_isub (n := 41) dX5_inputsSwapped_40 rfl ?_
  refine j_topi (nI (2 ^ j - 2 ^ i)) (pk_sub hp) ?_
  refine j_istore8 (n := 43) dX5_inputsSwapped_41 rfl (Nat.le_of_ble_eq_true rfl) rfl ?_
  refine j_lload_n0 (n := 44) dX5_inputsSwapped_43 rfl ?_
  refine j_lload4 (n := 46) dX5_inputsSwapped_44 rfl ?_
  refine j_lload6 (n := 48) dX5_inputsSwapped_46 rfl ?_
  refine j_lor (n := 49) dX5_inputsSwapped_48 rfl ?_
  refine j_ldc2 (n := 52) dX5_inputsSwapped_49 rfl cl_X5_23 ?_
  refine j_lxor (n := 53) dX5_inputsSwapped_52 rfl ?_
  refine j_land (n := 54) dX5_inputsSwapped_53 rfl ?_
  refine j_lload_n0 (n := 55) dX5_inputsSwapped_54 rfl ?_
  refine j_lload4 (n := 57) dX5_inputsSwapped_55 rfl ?_
  refine j_land (n := 58) dX5_inputsSwapped_57 rfl ?_
  refine j_iload8 (n := 60) dX5_inputsSwapped_58 rfl ?_
  refine j_lshl (n := 61) dX5_inputsSwapped_60 rfl ?_
  refine j_lor (n := 62) dX5_inputsSwapped_61 rfl ?_
  refine j_lload_n0 (n := 63) dX5_inputsSwapped_62 rfl ?_
  refine j_lload6 (n := 65) dX5_inputsSwapped_63 rfl ?_
  refine j_land (n := 66) dX5_inputsSwapped_65 rfl ?_
  refine j_iload8 (n := 68) dX5_inputsSwapped_66 rfl ?_
  refine j_lushr (n := 69) dX5_inputsSwapped_68 rfl ?_
  refine j_lor (n := 70) dX5_inputsSwapped_69 rfl ?_
  refine j_topl (lN (swT n t i j)) ?_ ?_
  · have hw : (t &&& OL j i) < 2 ^ 64 := Nat.lt_of_le_of_lt Nat.and_le_left (by omega)
    rw [CC_v i (by omega) j (by omega), fb_andL, fb_andL, fb_andL, al_ushr hw (by omega), al_shl _ (by omega), fb_orL, fb_orL, sw_eq hn ht hi hj]
  refine j_lret dX5_inputsSwapped_70 rfl ?_
  exact ⟨rfl, rfl⟩
/-- the class's kind after it met the tables of a list -/
def KQ (g : jG) (M : jMem) (n b0 : Nat) (L : List Nat) : jMem := va_up M 11 (.inr (1, oKind (lN (mn b0 L)) (nI n) (nI L.length) (nI (L.count (mn b0 L)))))
theorem KQ_11 {g : jG} {M : jMem} {n b0 : Nat} {L : List Nat} : KQ g M n b0 L 11 = .inr (1, oKind (lN (mn b0 L)) (nI n) (nI L.length) (nI (L.count (mn b0 L)))) := rfl
set_option maxRecDepth 100000 in
theorem con_X1_compare {g : jG} {M : jMem} {n b0 x : Nat} {L : List Nat} (hb : b0 < 2 ^ 32) (hx : x < 2 ^ 32) : Con g jX1_compare 0 [.ref (jA g 11), .long (lN x)] (KQ g M n b0 L) (fun v M2 => v = none ∧ M2 = KQ g M n b0 (L ++ [x])) := by
  obtain ⟨s1, s2, s3⟩ := mn_spec L b0
  have m11 := @KQ_11 g M n b0 L
  refine con_of (l := [some (.ref (jA g 11)), some (.long (lN x)), none]) (by decide) (Nat.le_of_ble_eq_true rfl) rfl ?_
  refine j_aload_n0 (n := 1) dX1_compare_0 rfl ?_
  refine j_dup (n := 2) dX1_compare_1 rfl rfl ?_
  refine j_get (n := 5) (k := 2) dX1_compare_2 rfl jcl1 (Nat.le_of_ble_eq_true rfl) fl_X1_17 (by first | decide | omega) (by first | assumption | rfl) (by rfl) ?_
  refine j_iconst (n := 6) (nI 1) dX1_compare_5 rfl (by decide) ?_
  refine j_iadd (n := 7) dX1_compare_6 rfl ?_
  refine j_topi (nI (L.length + 1)) (nI_add _ _) ?_
  refine j_put (n := 10) (k := 2) (fs2 := oKind (lN (mn b0 L)) (nI n) (nI (L.length + 1)) (nI (L.count (mn b0 L)))) dX1_compare_7 rfl jcl1 tyX1_ok nmX1 (Nat.le_of_ble_eq_true rfl) rfl (tyX1_ok 2 (Nat.le_of_ble_eq_true rfl)) fl_X1_17 (by rfl) (by rfl) (by first | decide | omega) (by first | assumption | rfl) (Nat.le_of_ble_eq_true rfl) (by rfl) ?_
  unfold KQ
  rw [va_uu]
  have m11 : va_up M 11 (.inr (1, oKind (lN (mn b0 L)) (nI n) (nI (L.length + 1)) (nI (L.count (mn b0 L))))) 11 = .inr (1, oKind (lN (mn b0 L)) (nI n) (nI (L.length + 1)) (nI (L.count (mn b0 L)))) := va_at_eq
  obtain ⟨s4, s5, s6⟩ := mn_spec (L ++ [x]) b0
  have h29 : J g jX1_compare 0 (fun v M2 => v = none ∧ M2 = KQ g M n b0 (L ++ [x])) 29 [some (.ref (jA g 11)), some (.long (lN x)), none] [] (va_up M 11 (.inr (1, oKind (lN (mn b0 (L ++ [x]))) (nI n) (nI (L.length + 1)) (nI (L.count (mn b0 (L ++ [x]))))))) := by
    have m11 : va_up M 11 (.inr (1, oKind (lN (mn b0 (L ++ [x]))) (nI n) (nI (L.length + 1)) (nI (L.count (mn b0 (L ++ [x])))))) 11 = .inr (1, oKind (lN (mn b0 (L ++ [x]))) (nI n) (nI (L.length + 1)) (nI (L.count (mn b0 (L ++ [x]))))) := va_at_eq
    refine j_lload_n1 (n := 30) dX1_compare_29 rfl ?_
    refine j_aload_n0 (n := 31) dX1_compare_30 rfl ?_
    refine j_get (n := 34) (k := 0) dX1_compare_31 rfl jcl1 (Nat.le_of_ble_eq_true rfl) fl_X1_13 (by first | decide | omega) (by first | assumption | rfl) (by rfl) ?_
    refine j_lcmp (n := 35) dX1_compare_34 rfl ?_
    refine j_lif_ne (n := 38) 48 dX1_compare_35 rfl (by decide) (fun e => ?_) (fun e => ?_)
    · have e2 : ¬ x = mn b0 (L ++ [x]) := fun z => e (congrArg lN z)
      refine j_vret dX1_compare_48 rfl ?_
      refine ⟨rfl, ?_⟩
      unfold KQ
      rw [List.length_append, List.count_append, List.count_singleton, if_neg (by simpa using e2)]
      rfl
    · have e2 : x = mn b0 (L ++ [x]) := (pk_lEQ (by omega) (by omega)).mp e
      refine j_aload_n0 (n := 39) dX1_compare_38 rfl ?_
      refine j_dup (n := 40) dX1_compare_39 rfl rfl ?_
      refine j_get (n := 43) (k := 3) dX1_compare_40 rfl jcl1 (Nat.le_of_ble_eq_true rfl) fl_X1_20 (by first | decide | omega) (by first | assumption | rfl) (by rfl) ?_
      refine j_iconst (n := 44) (nI 1) dX1_compare_43 rfl (by decide) ?_
      refine j_iadd (n := 45) dX1_compare_44 rfl ?_
      refine j_topi (nI (L.count (mn b0 (L ++ [x])) + 1)) (nI_add _ _) ?_
      refine j_put (n := 48) (k := 3) (fs2 := oKind (lN (mn b0 (L ++ [x]))) (nI n) (nI (L.length + 1)) (nI (L.count (mn b0 (L ++ [x])) + 1))) dX1_compare_45 rfl jcl1 tyX1_ok nmX1 (Nat.le_of_ble_eq_true rfl) rfl (tyX1_ok 3 (Nat.le_of_ble_eq_true rfl)) fl_X1_20 (by rfl) (by rfl) (by first | decide | omega) (by first | assumption | rfl) (Nat.le_of_ble_eq_true rfl) (by rfl) ?_
      rw [va_uu]
      refine j_vret dX1_compare_48 rfl ?_
      refine ⟨rfl, ?_⟩
      unfold KQ
      rw [List.length_append, List.count_append, List.count_singleton, if_pos (by simpa using e2)]
      rfl
  refine j_lload_n1 (n := 11) dX1_compare_10 rfl ?_
  refine j_aload_n0 (n := 12) dX1_compare_11 rfl ?_
  refine j_get (n := 15) (k := 0) dX1_compare_12 rfl jcl1 (Nat.le_of_ble_eq_true rfl) fl_X1_13 (by first | decide | omega) (by first | assumption | rfl) (by rfl) ?_
  refine j_lcmp (n := 16) dX1_compare_15 rfl ?_
  refine j_lif_ge (n := 19) 29 dX1_compare_16 rfl (by decide) (fun e => ?_) (fun e => ?_)
  · have e2 : mn b0 L ≤ x := (pk_lLE (by omega) (by omega)).mp e
    rw [mn_app, if_neg (by omega)] at h29
    exact h29
  · have e2 : ¬ mn b0 L ≤ x := fun z => e ((pk_lLE (by omega) (by omega)).mpr z)
    have hc : L.count x = 0 := List.count_eq_zero.mpr (fun z => by have := s2 x z; omega)
    refine j_aload_n0 (n := 20) dX1_compare_19 rfl ?_
    refine j_lload_n1 (n := 21) dX1_compare_20 rfl ?_
    refine j_put (n := 24) (k := 0) (fs2 := oKind (lN x) (nI n) (nI (L.length + 1)) (nI (L.count (mn b0 L)))) dX1_compare_21 rfl jcl1 tyX1_ok nmX1 (Nat.le_of_ble_eq_true rfl) rfl (tyX1_ok 0 (Nat.le_of_ble_eq_true rfl)) fl_X1_13 (by rfl) (by rfl) (by first | decide | omega) (by first | assumption | rfl) (Nat.le_of_ble_eq_true rfl) (by rfl) ?_
    rw [va_uu]
    have m11 : va_up M 11 (.inr (1, oKind (lN x) (nI n) (nI (L.length + 1)) (nI (L.count (mn b0 L))))) 11 = .inr (1, oKind (lN x) (nI n) (nI (L.length + 1)) (nI (L.count (mn b0 L)))) := va_at_eq
    refine j_aload_n0 (n := 25) dX1_compare_24 rfl ?_
    refine j_iconst (n := 26) (nI 0) dX1_compare_25 rfl (by decide) ?_
    refine j_put (n := 29) (k := 3) (fs2 := oKind (lN x) (nI n) (nI (L.length + 1)) (nI 0)) dX1_compare_26 rfl jcl1 tyX1_ok nmX1 (Nat.le_of_ble_eq_true rfl) rfl (tyX1_ok 3 (Nat.le_of_ble_eq_true rfl)) fl_X1_20 (by rfl) (by rfl) (by first | decide | omega) (by first | assumption | rfl) (Nat.le_of_ble_eq_true rfl) (by rfl) ?_
    rw [va_uu]
    rw [mn_app, if_pos (by omega), hc] at h29
    exact h29
set_option maxRecDepth 100000 in
theorem con_X1_meet {g : jG} {M : jMem} {n b0 x : Nat} {L : List Nat} (hn : n ≤ 4) (hb : b0 < 2 ^ 32) (hx : x < 2 ^ 2 ^ n) : Con g jX1_meet 2 [.ref (jA g 11), .long (lN x)] (KQ g M n b0 L) (fun v M2 => v = none ∧ M2 = KQ g M n b0 (L ++ [x, (2 ^ 2 ^ n - 1) ^^^ x])) := by
  have h65 := pw65 hn
  have hpos : 0 < 2 ^ 2 ^ n := Nat.two_pow_pos _
  have hxt : (2 ^ 2 ^ n - 1) ^^^ x < 2 ^ 2 ^ n := xor_lt (by omega) hx
  have m11 := @KQ_11 g M n b0 L
  refine con_of (l := [some (.ref (jA g 11)), some (.long (lN x)), none]) (by decide) (Nat.le_of_ble_eq_true rfl) rfl ?_
  refine j_aload_n0 (n := 1) dX1_meet_0 rfl ?_
  refine j_lload_n1 (n := 2) dX1_meet_1 rfl ?_
  refine j_cV1 (n := 5) (con_X1_compare hb (by omega)) dX1_meet_2 rfl cal_X1_compare ml_X1_50 (Nat.le_of_ble_eq_true rfl) (by first | decide | omega) rfl rfl (Nat.le_of_ble_eq_true rfl) (by first | assumption | rfl) ?_
  rintro _ M2 ⟨rfl, rfl⟩
  have m11 := @KQ_11 g M n b0 (L ++ [x])
  refine j_aload_n0 (n := 6) dX1_meet_5 rfl ?_
  refine j_lload_n1 (n := 7) dX1_meet_6 rfl ?_
  refine j_aload_n0 (n := 8) dX1_meet_7 rfl ?_
  refine j_get (n := 11) (k := 1) dX1_meet_8 rfl jcl1 (Nat.le_of_ble_eq_true rfl) fl_X1_7 (by first | decide | omega) (by first | assumption | rfl) (by rfl) ?_
  refine j_fnS1 (n := 14) (con_X5_all (by omega)) dX1_meet_11 rfl cal_X5_all ml_X1_53 (Nat.le_of_ble_eq_true rfl) (Nat.le_of_ble_eq_true rfl) ?_
  refine j_lxor (n := 15) dX1_meet_14 rfl ?_
  refine j_topl (lN ((2 ^ 2 ^ n - 1) ^^^ x)) (by rw [fb_xorL, Nat.xor_comm]) ?_
  refine j_cV1 (n := 18) (con_X1_compare hb (by omega)) dX1_meet_15 rfl cal_X1_compare ml_X1_50 (Nat.le_of_ble_eq_true rfl) (by first | decide | omega) rfl rfl (Nat.le_of_ble_eq_true rfl) (by first | assumption | rfl) ?_
  rintro _ M2 ⟨rfl, rfl⟩
  refine j_vret dX1_meet_18 rfl ?_
  refine ⟨rfl, ?_⟩
  rw [List.append_assoc]
  rfl
def cz (s : Nat) : Nat := if s % 2 = 1 then 0 else if s % 4 = 2 then 1 else if s % 8 = 4 then 2 else 3
theorem cz_ok : ∀ n, n < 5 → ∀ s, s < 2 ^ n → 1 ≤ s → s = 2 ^ cz s * (2 * (s / 2 ^ (cz s + 1)) + 1) ∧ cz s < n ∧ gray s = gray (s - 1) ^^^ 2 ^ cz s := by decide +kernel
theorem turnT_x {n u a b : Nat} (hb : b < 2 ^ n) : turnT n (turnT n u a) b = turnT n u (a ^^^ b) := by
  unfold turnT
  apply mkT_ext
  intro r hr
  rw [mkT_bit]
  have : r ^^^ b < 2 ^ n := xor_lt hr hb
  simp only [this, decide_true, Bool.true_and]
  rw [Nat.xor_assoc, Nat.xor_comm b a]
theorem turnT_0 {n u : Nat} (hu : u < 2 ^ 2 ^ n) : turnT n u 0 = u := by
  unfold turnT
  simp only [Nat.xor_zero]
  exact mkT_self hu
def TC (n u m : Nat) : List Nat := (List.range m).flatMap fun s => [turnT n u (gray s), (2 ^ 2 ^ n - 1) ^^^ turnT n u (gray s)]
theorem TC_s (n u m : Nat) : TC n u (m + 1) = TC n u m ++ [turnT n u (gray m), (2 ^ 2 ^ n - 1) ^^^ turnT n u (gray m)] := by
  unfold TC
  rw [List.range_succ, List.flatMap_append]
  simp
set_option maxRecDepth 100000 in
theorem con_X1_turnInputs {g : jG} {M : jMem} {n b0 x : Nat} {L : List Nat} (hn : n ≤ 4) (hb : b0 < 2 ^ 32) (hx : x < 2 ^ 2 ^ n) : Con g jX1_turnInputs 3 [.ref (jA g 11), .long (lN x)] (KQ g M n b0 L) (fun v M2 => v = none ∧ M2 = KQ g M n b0 (L ++ tlC n x)) := by
  have h16 := pw16 hn
  have hpn : 0 < 2 ^ n := Nat.two_pow_pos _
  have m11 := @KQ_11 g M n b0 L
  refine con_of (l := [some (.ref (jA g 11)), some (.long (lN x)), none, none, none, none]) (by decide) (Nat.le_of_ble_eq_true rfl) rfl ?_
  refine j_lload_n1 (n := 1) dX1_turnInputs_0 rfl ?_
  refine j_lstore_n3 (n := 2) dX1_turnInputs_1 rfl (Nat.le_of_ble_eq_true rfl) rfl ?_
  refine j_aload_n0 (n := 3) dX1_turnInputs_2 rfl ?_
  refine j_lload_n3 (n := 4) dX1_turnInputs_3 rfl ?_
  refine j_cV1 (n := 7) (con_X1_meet hn hb hx) dX1_turnInputs_4 rfl cal_X1_meet ml_X1_37 (Nat.le_of_ble_eq_true rfl) (by first | decide | omega) rfl rfl (Nat.le_of_ble_eq_true rfl) (by first | assumption | rfl) ?_
  rintro _ M2 ⟨rfl, rfl⟩
  refine j_iconst (n := 8) (nI 1) dX1_turnInputs_7 rfl (by decide) ?_
  refine j_istore5 (n := 10) dX1_turnInputs_8 rfl (Nat.le_of_ble_eq_true rfl) rfl ?_
  have key : ∀ k, k ≤ 2 ^ n - 1 → J g jX1_turnInputs 3 (fun v M2 => v = none ∧ M2 = KQ g M n b0 (L ++ tlC n x)) 10 [some (.ref (jA g 11)), some (.long (lN x)), none, some (.long (lN (turnT n x (gray k)))), none, some (.int (nI (k + 1)))] [] (KQ g M n b0 (L ++ TC n x (k + 1))) := by
    refine j_for ?_ ?_
    · have m11 := @KQ_11 g M n b0 (L ++ TC n x (2 ^ n - 1 + 1))
      refine j_iload5 (n := 12) dX1_turnInputs_10 rfl ?_
      refine j_iconst (n := 13) (nI 1) dX1_turnInputs_12 rfl (by decide) ?_
      refine j_aload_n0 (n := 14) dX1_turnInputs_13 rfl ?_
      refine j_get (n := 17) (k := 1) dX1_turnInputs_14 rfl jcl1 (Nat.le_of_ble_eq_true rfl) fl_X1_7 (by first | decide | omega) (by first | assumption | rfl) (by rfl) ?_
      refine j_ishl (n := 18) dX1_turnInputs_17 rfl ?_
      refine j_topi (nI (2 ^ n)) (ai_shl1 (by omega)) ?_
      refine j_nicmp_ge (n := 21) 42 dX1_turnInputs_18 rfl (by decide) (by omega) (by omega) (fun h => ?_) (fun h => ?_)
      rotate_left
      · omega
      refine j_vret dX1_turnInputs_42 rfl ?_
      refine ⟨rfl, ?_⟩
      rw [show 2 ^ n - 1 + 1 = 2 ^ n by omega]
      rfl
    · intro k hk ih
      have m11 := @KQ_11 g M n b0 (L ++ TC n x (k + 1))
      obtain ⟨c1, c2, c3⟩ := cz_ok n (by omega) (k + 1) (by omega) (by omega)
      have hcz : 2 ^ cz (k + 1) < 2 ^ n := Nat.pow_lt_pow_right (by omega) c2
      refine j_iload5 (n := 12) dX1_turnInputs_10 rfl ?_
      refine j_iconst (n := 13) (nI 1) dX1_turnInputs_12 rfl (by decide) ?_
      refine j_aload_n0 (n := 14) dX1_turnInputs_13 rfl ?_
      refine j_get (n := 17) (k := 1) dX1_turnInputs_14 rfl jcl1 (Nat.le_of_ble_eq_true rfl) fl_X1_7 (by first | decide | omega) (by first | assumption | rfl) (by rfl) ?_
      refine j_ishl (n := 18) dX1_turnInputs_17 rfl ?_
      refine j_topi (nI (2 ^ n)) (ai_shl1 (by omega)) ?_
      refine j_nicmp_ge (n := 21) 42 dX1_turnInputs_18 rfl (by decide) (by omega) (by omega) (fun h => ?_) (fun h => ?_)
      · omega
      refine j_lload_n3 (n := 22) dX1_turnInputs_21 rfl ?_
      refine j_iload5 (n := 24) dX1_turnInputs_22 rfl ?_
      refine j_fnS1 (n := 27) (con_J6_numberOfTrailingZeros_0f7a4 c1 (by omega)) dX1_turnInputs_24 rfl cal_J6_numberOfTrailingZeros_0f7a4 ml_X1_40 (Nat.le_of_ble_eq_true rfl) (Nat.le_of_ble_eq_true rfl) ?_
      refine j_fnS2 (n := 30) (con_X5_inputTurned (by omega) (turnT_lt _ _ _) c2) dX1_turnInputs_27 rfl cal_X5_inputTurned ml_X1_46 (Nat.le_of_ble_eq_true rfl) (Nat.le_of_ble_eq_true rfl) ?_
      rw [turnT_x hcz, show gray k ^^^ 2 ^ cz (k + 1) = gray (k + 1) from c3.symm]
      refine j_lstore_n3 (n := 31) dX1_turnInputs_30 rfl (Nat.le_of_ble_eq_true rfl) rfl ?_
      refine j_aload_n0 (n := 32) dX1_turnInputs_31 rfl ?_
      refine j_lload_n3 (n := 33) dX1_turnInputs_32 rfl ?_
      refine j_cV1 (n := 36) (con_X1_meet hn hb (turnT_lt _ _ _)) dX1_turnInputs_33 rfl cal_X1_meet ml_X1_37 (Nat.le_of_ble_eq_true rfl) (by first | decide | omega) rfl rfl (Nat.le_of_ble_eq_true rfl) (by first | assumption | rfl) ?_
      rintro _ M2 ⟨rfl, rfl⟩
      refine j_inc5 (n := 39) dX1_turnInputs_36 rfl (Nat.le_of_ble_eq_true rfl) rfl ?_
      refine j_goto 10 dX1_turnInputs_39 (by decide) ?_
      rw [TC_s, ← List.append_assoc] at ih
      exact ih
  have l0 := key 0 (Nat.zero_le _)
  have e0 : TC n x (0 + 1) = [x, (2 ^ 2 ^ n - 1) ^^^ x] := by
    rw [TC_s]
    show [turnT n x 0, (2 ^ 2 ^ n - 1) ^^^ turnT n x 0] = _
    rw [turnT_0 hx]
  rw [e0, show turnT n x (gray 0) = x from turnT_0 hx] at l0
  exact l0
def CP (n k p t j : Nat) : List Nat := (List.range j).flatMap (fun j => cplT n k (p + 1) (swT n t p (p + j)))
theorem CP_s (n k p t j : Nat) : CP n k p t (j + 1) = CP n k p t j ++ cplT n k (p + 1) (swT n t p (p + j)) := by
  unfold CP
  rw [List.range_succ, List.flatMap_append]
  simp
set_option maxRecDepth 100000 in
theorem con_X1_changePlaces {g : jG} {M : jMem} {n b0 : Nat} (hn : n ≤ 4) (hb : b0 < 2 ^ 32) : ∀ (k p t : Nat) (L : List Nat), p + k = n → t < 2 ^ 2 ^ n → Con g jX1_changePlaces (k + 4) [.ref (jA g 11), .int (nI p), .long (lN t)] (KQ g M n b0 L) (fun v M2 => v = none ∧ M2 = KQ g M n b0 (L ++ cplT n k p t)) := by
  intro k
  induction k with
  | zero =>
    intro p t L hp ht
    have m11 := @KQ_11 g M n b0 L
    refine con_of (l := [some (.ref (jA g 11)), some (.int (nI p)), some (.long (lN t)), none, none]) (by decide) (Nat.le_of_ble_eq_true rfl) rfl ?_
    refine j_iload_n1 (n := 1) dX1_changePlaces_0 rfl ?_
    refine j_aload_n0 (n := 2) dX1_changePlaces_1 rfl ?_
    refine j_get (n := 5) (k := 1) dX1_changePlaces_2 rfl jcl1 (Nat.le_of_ble_eq_true rfl) fl_X1_7 (by first | decide | omega) (by first | assumption | rfl) (by rfl) ?_
    refine j_nicmp_lt (n := 8) 14 dX1_changePlaces_5 rfl (by decide) (by omega) (by omega) (fun h => ?_) (fun h => ?_)
    · omega
    refine j_aload_n0 (n := 9) dX1_changePlaces_8 rfl ?_
    refine j_lload_n2 (n := 10) dX1_changePlaces_9 rfl ?_
    refine j_cV1 (n := 13) (con_X1_turnInputs hn hb ht) dX1_changePlaces_10 rfl cal_X1_turnInputs ml_X1_27 (Nat.le_of_ble_eq_true rfl) (by first | decide | omega) rfl rfl (Nat.le_of_ble_eq_true rfl) (by first | assumption | rfl) ?_
    rintro _ M2 ⟨rfl, rfl⟩
    refine j_vret dX1_changePlaces_13 rfl ?_
    exact ⟨rfl, rfl⟩
  | succ k ihk =>
    intro p t L hp ht
    have m11 := @KQ_11 g M n b0 L
    refine con_of (l := [some (.ref (jA g 11)), some (.int (nI p)), some (.long (lN t)), none, none]) (by decide) (Nat.le_of_ble_eq_true rfl) rfl ?_
    refine j_iload_n1 (n := 1) dX1_changePlaces_0 rfl ?_
    refine j_aload_n0 (n := 2) dX1_changePlaces_1 rfl ?_
    refine j_get (n := 5) (k := 1) dX1_changePlaces_2 rfl jcl1 (Nat.le_of_ble_eq_true rfl) fl_X1_7 (by first | decide | omega) (by first | assumption | rfl) (by rfl) ?_
    refine j_nicmp_lt (n := 8) 14 dX1_changePlaces_5 rfl (by decide) (by omega) (by omega) (fun h => ?_) (fun h => ?_)
    rotate_left
    · omega
    refine j_iload_n1 (n := 15) dX1_changePlaces_14 rfl ?_
    refine j_istore4 (n := 17) dX1_changePlaces_15 rfl (Nat.le_of_ble_eq_true rfl) rfl ?_
    have key : ∀ j, j ≤ k + 1 → J g jX1_changePlaces (k + 1 + 4) (fun v M2 => v = none ∧ M2 = KQ g M n b0 (L ++ cplT n (k + 1) p t)) 17 [some (.ref (jA g 11)), some (.int (nI p)), some (.long (lN t)), none, some (.int (nI (p + j)))] [] (KQ g M n b0 (L ++ CP n k p t j)) := by
      refine j_for ?_ ?_
      · have m11 := @KQ_11 g M n b0 (L ++ CP n k p t (k + 1))
        refine j_iload4 (n := 19) dX1_changePlaces_17 rfl ?_
        refine j_aload_n0 (n := 20) dX1_changePlaces_19 rfl ?_
        refine j_get (n := 23) (k := 1) dX1_changePlaces_20 rfl jcl1 (Nat.le_of_ble_eq_true rfl) fl_X1_7 (by first | decide | omega) (by first | assumption | rfl) (by rfl) ?_
        refine j_nicmp_ge (n := 26) 46 dX1_changePlaces_23 rfl (by decide) (by omega) (by omega) (fun h2 => ?_) (fun h2 => ?_)
        rotate_left
        · omega
        refine j_vret dX1_changePlaces_46 rfl ?_
        exact ⟨rfl, rfl⟩
      · intro j hj ih
        have m11 := @KQ_11 g M n b0 (L ++ CP n k p t j)
        refine j_iload4 (n := 19) dX1_changePlaces_17 rfl ?_
        refine j_aload_n0 (n := 20) dX1_changePlaces_19 rfl ?_
        refine j_get (n := 23) (k := 1) dX1_changePlaces_20 rfl jcl1 (Nat.le_of_ble_eq_true rfl) fl_X1_7 (by first | decide | omega) (by first | assumption | rfl) (by rfl) ?_
        refine j_nicmp_ge (n := 26) 46 dX1_changePlaces_23 rfl (by decide) (by omega) (by omega) (fun h2 => ?_) (fun h2 => ?_)
        · omega
        refine j_aload_n0 (n := 27) dX1_changePlaces_26 rfl ?_
        refine j_iload_n1 (n := 28) dX1_changePlaces_27 rfl ?_
        refine j_iconst (n := 29) (nI 1) dX1_changePlaces_28 rfl (by decide) ?_
        refine j_iadd (n := 30) dX1_changePlaces_29 rfl ?_
        refine j_topi (nI (p + 1)) (nI_add _ _) ?_
        refine j_lload_n2 (n := 31) dX1_changePlaces_30 rfl ?_
        refine j_iload_n1 (n := 32) dX1_changePlaces_31 rfl ?_
        refine j_iload4 (n := 34) dX1_changePlaces_32 rfl ?_
        refine j_fnS3 (n := 37) (con_X5_inputsSwapped hn ht (Nat.le_add_right p j) (by omega)) dX1_changePlaces_34 rfl cal_X5_inputsSwapped ml_X1_31 (by omega) (Nat.le_of_ble_eq_true rfl) ?_
        refine j_cV2 (n := 40) (ihk (p + 1) (swT n t p (p + j)) (L ++ CP n k p t j) (by omega) (swT_lt _ _ _ _)) dX1_changePlaces_37 rfl cal_X1_changePlaces ml_X1_23 (by omega) (by decide) rfl rfl (Nat.le_of_ble_eq_true rfl) m11 ?_
        rintro _ M2 ⟨rfl, rfl⟩
        refine j_inc4 (n := 43) dX1_changePlaces_40 rfl (Nat.le_of_ble_eq_true rfl) rfl ?_
        refine j_goto 17 dX1_changePlaces_43 (by decide) ?_
        rw [CP_s, ← List.append_assoc] at ih
        exact ih
    have l0 := key 0 (Nat.zero_le _)
    rw [show CP n k p t 0 = [] from rfl, List.append_nil] at l0
    exact l0
set_option maxRecDepth 100000 in
theorem con_X1_find {g : jG} {M : jMem} {n t : Nat} {a : Int64} {b c d : Int32} (h11 : M 11 = .inr (1, oKind a b c d)) (hn : n ≤ 4) (ht : t < 2 ^ 2 ^ n) : Con g jX1_find 9 [.ref (jA g 11), .int (nI n), .long (lN t)] M (fun v M2 => v = none ∧ M2 = KQ g M n t (LC n t)) := by
  have h65 := pw65 hn
  refine con_of (l := [some (.ref (jA g 11)), some (.int (nI n)), some (.long (lN t)), none]) (by decide) (Nat.le_of_ble_eq_true rfl) rfl ?_
  refine j_aload_n0 (n := 1) dX1_find_0 rfl ?_
  refine j_iload_n1 (n := 2) dX1_find_1 rfl ?_
  refine j_put (n := 5) (k := 1) (fs2 := oKind a (nI n) c d) dX1_find_2 rfl jcl1 tyX1_ok nmX1 (Nat.le_of_ble_eq_true rfl) rfl (tyX1_ok 1 (Nat.le_of_ble_eq_true rfl)) fl_X1_7 (by rfl) (by rfl) (by first | decide | omega) (by first | assumption | rfl) (Nat.le_of_ble_eq_true rfl) (by rfl) ?_
  have m11 : va_up M 11 (.inr (1, oKind a (nI n) c d)) 11 = .inr (1, oKind a (nI n) c d) := va_at_eq
  refine j_aload_n0 (n := 6) dX1_find_5 rfl ?_
  refine j_lload_n2 (n := 7) dX1_find_6 rfl ?_
  refine j_put (n := 10) (k := 0) (fs2 := oKind (lN t) (nI n) c d) dX1_find_7 rfl jcl1 tyX1_ok nmX1 (Nat.le_of_ble_eq_true rfl) rfl (tyX1_ok 0 (Nat.le_of_ble_eq_true rfl)) fl_X1_13 (by rfl) (by rfl) (by first | decide | omega) (by first | assumption | rfl) (Nat.le_of_ble_eq_true rfl) (by rfl) ?_
  rw [va_uu]
  have m11 : va_up M 11 (.inr (1, oKind (lN t) (nI n) c d)) 11 = .inr (1, oKind (lN t) (nI n) c d) := va_at_eq
  refine j_aload_n0 (n := 11) dX1_find_10 rfl ?_
  refine j_iconst (n := 12) (nI 0) dX1_find_11 rfl (by decide) ?_
  refine j_put (n := 15) (k := 2) (fs2 := oKind (lN t) (nI n) (nI 0) d) dX1_find_12 rfl jcl1 tyX1_ok nmX1 (Nat.le_of_ble_eq_true rfl) rfl (tyX1_ok 2 (Nat.le_of_ble_eq_true rfl)) fl_X1_17 (by rfl) (by rfl) (by first | decide | omega) (by first | assumption | rfl) (Nat.le_of_ble_eq_true rfl) (by rfl) ?_
  rw [va_uu]
  have m11 : va_up M 11 (.inr (1, oKind (lN t) (nI n) (nI 0) d)) 11 = .inr (1, oKind (lN t) (nI n) (nI 0) d) := va_at_eq
  refine j_aload_n0 (n := 16) dX1_find_15 rfl ?_
  refine j_iconst (n := 17) (nI 0) dX1_find_16 rfl (by decide) ?_
  refine j_put (n := 20) (k := 3) (fs2 := oKind (lN t) (nI n) (nI 0) (nI 0)) dX1_find_17 rfl jcl1 tyX1_ok nmX1 (Nat.le_of_ble_eq_true rfl) rfl (tyX1_ok 3 (Nat.le_of_ble_eq_true rfl)) fl_X1_20 (by rfl) (by rfl) (by first | decide | omega) (by first | assumption | rfl) (Nat.le_of_ble_eq_true rfl) (by rfl) ?_
  rw [va_uu]
  refine j_aload_n0 (n := 21) dX1_find_20 rfl ?_
  refine j_iconst (n := 22) (nI 0) dX1_find_21 rfl (by decide) ?_
  refine j_lload_n2 (n := 23) dX1_find_22 rfl ?_
  have m11 := @KQ_11 g M n t []
  refine j_cV2 (n := 26) (con_X1_changePlaces (M := M) hn (show t < 2 ^ 32 by omega) n 0 t [] (by omega) ht) dX1_find_23 rfl cal_X1_changePlaces ml_X1_23 (by omega) (by decide) rfl rfl (Nat.le_of_ble_eq_true rfl) m11 ?_
  rintro _ M2 ⟨rfl, rfl⟩
  refine j_vret dX1_find_26 rfl ?_
  exact ⟨rfl, rfl⟩
