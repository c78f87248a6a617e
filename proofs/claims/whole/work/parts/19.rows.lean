def WIT (i : Nat) : Nat := [2863311530, 3435973836, 4042322160, 4278255360, 4294901760].getD i 0
theorem WIT_lt : ∀ i, i < 5 → WIT i < 4294967296 := by decide
theorem WIT_bit : ∀ i, i < 5 → ∀ r, r < 32 → (WIT i).testBit r = r.testBit i := by decide +kernel
theorem WIT_up : ∀ i, i < 5 → ∀ r, r < 32 → (WIT i).testBit (r + 2 ^ i) = !r.testBit i := by decide +kernel
theorem WIT_v : ∀ i, i < 5 → (jSt 3).2.2.2.2.2 i = .long (lN (WIT i)) := by
  intro i hi
  match i, hi with
  | 0, _ => rfl
  | 1, _ => rfl
  | 2, _ => rfl
  | 3, _ => rfl
  | 4, _ => rfl
theorem xor_on : ∀ i, i < 5 → ∀ r, r < 32 → r.testBit i = true → 2 ^ i ≤ r ∧ r ^^^ 2 ^ i = r - 2 ^ i := by decide +kernel
theorem xor_off : ∀ i, i < 5 → ∀ r, r < 32 → r.testBit i = false → r ^^^ 2 ^ i = r + 2 ^ i := by decide +kernel
theorem xor_ge : ∀ n, n < 6 → ∀ i, i < n → ∀ r, r < 32 → 2 ^ n ≤ r → 2 ^ n ≤ r ^^^ 2 ^ i := by decide +kernel
theorem tb_no {t R r : Nat} (h : t < 2 ^ R) (hr : R ≤ r) : t.testBit r = false := Nat.testBit_lt_two_pow (Nat.lt_of_lt_of_le h (Nat.pow_le_pow_right (by omega) hr))
/-- the shift of the marked rows turns an input -/
theorem turn_eq {n t i : Nat} (hn : n ≤ 5) (ht : t < 2 ^ 2 ^ n) (hi : i < n) : ((t &&& WIT i) / 2 ^ 2 ^ i ||| (t * 2 ^ 2 ^ i &&& WIT i)) = turnT n t (2 ^ i) := by
  have h5 := pw5 hn
  have hi5 : i < 5 := by omega
  have ht32 : t < 2 ^ 32 := Nat.lt_of_lt_of_le ht (pw32 hn)
  have hW : WIT i < 2 ^ 32 := WIT_lt i hi5
  apply Nat.eq_of_testBit_eq
  intro r
  unfold turnT
  rw [mkT_bit, Nat.testBit_or, Nat.testBit_div_two_pow, Nat.testBit_and, Nat.testBit_and, ← Nat.shiftLeft_eq, Nat.testBit_shiftLeft]
  by_cases hr : r < 32
  · rw [WIT_up i hi5 r hr, WIT_bit i hi5 r hr]
    cases hb : r.testBit i with
    | true =>
      obtain ⟨q1, q2⟩ := xor_on i hi5 r hr hb
      rw [q2]
      by_cases h : r < 2 ^ n
      · simp [h, q1]
      · have q3 := xor_ge n (by omega) i hi r hr (by omega)
        rw [q2] at q3
        rw [tb_no ht q3]
        simp
    | false =>
      have q2 := xor_off i hi5 r hr hb
      rw [q2]
      by_cases h : r < 2 ^ n
      · simp [h]
      · rw [tb_no ht (Nat.le_trans (Nat.not_lt.mp h) (Nat.le_add_right r (2 ^ i)))]
        simp
  · rw [tb_no hW (show 32 ≤ r by omega), tb_no hW (Nat.le_trans (Nat.not_lt.mp hr) (Nat.le_add_right r (2 ^ i)))]
    have : ¬ r < 2 ^ n := by omega
    simp [this]
set_option maxRecDepth 100000 in
theorem con_X5_inputTurned {g : jG} {M : jMem} {n t i : Nat} (hn : n ≤ 5) (ht : t < 2 ^ 2 ^ n) (hi : i < n) : Fn g jX5_inputTurned 0 [.long (lN t), .int (nI i)] M (.long (lN (turnT n t (2 ^ i)))) := by
  have hi5 : i < 5 := by omega
  have ht32 : t < 2 ^ 32 := Nat.lt_of_lt_of_le ht (pw32 hn)
  have hp : 2 ^ i < 2 ^ 5 := Nat.pow_lt_pow_right (by omega) hi5
  refine con_of (l := [some (.long (lN t)), none, some (.int (nI i)), none, none, none]) (by decide) (Nat.le_of_ble_eq_true rfl) rfl ?_
  refine j_gets (n := 3) (kz := 3) dX5_inputTurned_0 rfl (Nat.le_of_ble_eq_true rfl) fl_X5_13 ?_
  refine j_iload_n2 (n := 4) dX5_inputTurned_3 rfl ?_
  refine j_tlld_n (n := 5) (v := lN (WIT i)) dX5_inputTurned_4 rfl (Nat.le_of_ble_eq_true rfl) rfl (by decide) hi5 (WIT_v i hi5) ?_
  refine j_lstore_n3 (n := 6) dX5_inputTurned_5 rfl (Nat.le_of_ble_eq_true rfl) rfl ?_
  refine j_iconst (n := 7) (nI 1) dX5_inputTurned_6 rfl (by decide) ?_
  refine j_iload_n2 (n := 8) dX5_inputTurned_7 rfl ?_
  refine j_ishl (n := 9) dX5_inputTurned_8 rfl ?_
  refine j_topi (nI (2 ^ i)) (ai_shl1 (by omega)) ?_
  refine j_istore5 (n := 11) dX5_inputTurned_9 rfl (Nat.le_of_ble_eq_true rfl) rfl ?_
  refine j_lload_n0 (n := 12) dX5_inputTurned_11 rfl ?_
  refine j_lload_n3 (n := 13) dX5_inputTurned_12 rfl ?_
  refine j_land (n := 14) dX5_inputTurned_13 rfl ?_
  refine j_iload5 (n := 16) dX5_inputTurned_14 rfl ?_
  refine j_lushr (n := 17) dX5_inputTurned_16 rfl ?_
  refine j_lload_n0 (n := 18) dX5_inputTurned_17 rfl ?_
  refine j_iload5 (n := 20) dX5_inputTurned_18 rfl ?_
  refine j_lshl (n := 21) dX5_inputTurned_20 rfl ?_
  refine j_lload_n3 (n := 22) dX5_inputTurned_21 rfl ?_
  refine j_land (n := 23) dX5_inputTurned_22 rfl ?_
  refine j_lor (n := 24) dX5_inputTurned_23 rfl ?_
  refine j_topl (lN (turnT n t (2 ^ i))) ?_ ?_
  · have hw : (t &&& WIT i) < 2 ^ 64 := Nat.lt_of_le_of_lt Nat.and_le_left (by omega)
    rw [fb_andL, al_ushr hw (by omega), al_shl t (by omega), fb_andL, fb_orL, turn_eq hn ht hi]
  refine j_lret dX5_inputTurned_24 rfl ?_
  exact ⟨rfl, rfl⟩
theorem cnt_and (t i : Nat) (hi : i < 5) : ∀ R, R ≤ 32 → cnt R (t &&& WIT i).testBit = cnt R (fun r => t.testBit r && r.testBit i) := by
  intro R hR
  apply cnt_ext
  intro r hr
  rw [Nat.testBit_and, WIT_bit i hi r (by omega)]
set_option maxRecDepth 100000 in
theorem con_X5_onesWith {g : jG} {M : jMem} {t i : Nat} (ht : t < 2 ^ 32) (hi : i < 5) : Fn g jX5_onesWith 1 [.long (lN t), .int (nI i)] M (.int (nI (cnt 32 (fun r => t.testBit r && r.testBit i)))) := by
  have hw : (t &&& WIT i) < 4294967296 := Nat.lt_of_le_of_lt Nat.and_le_left ht
  refine con_of (l := [some (.long (lN t)), none, some (.int (nI i))]) (by decide) (Nat.le_of_ble_eq_true rfl) rfl ?_
  refine j_lload_n0 (n := 1) dX5_onesWith_0 rfl ?_
  refine j_gets (n := 4) (kz := 3) dX5_onesWith_1 rfl (Nat.le_of_ble_eq_true rfl) fl_X5_13 ?_
  refine j_iload_n2 (n := 5) dX5_onesWith_4 rfl ?_
  refine j_tlld_n (n := 6) (v := lN (WIT i)) dX5_onesWith_5 rfl (Nat.le_of_ble_eq_true rfl) rfl (by decide) hi (WIT_v i hi) ?_
  refine j_land (n := 7) dX5_onesWith_6 rfl ?_
  refine j_topl (lN (t &&& WIT i)) (fb_andL _ _) ?_
  refine j_fnS1 (n := 10) (con_J13_bitCount_95d88 hw) dX5_onesWith_7 rfl cal_J13_bitCount_95d88 ml_X5_17 (Nat.le_of_ble_eq_true rfl) (Nat.le_of_ble_eq_true rfl) ?_
  rw [cnt_and t i hi 32 (by omega)]
  refine j_iret dX5_onesWith_10 rfl ?_
  exact ⟨rfl, rfl⟩
theorem held_k : ∀ i, i < 5 → ∀ r, r < 16 → ((nI r &&& (nI (2 ^ i - 1) ^^^ (-1))) <<< (nI 1 &&& 31) ||| nI (2 ^ i)) ||| (nI r &&& nI (2 ^ i - 1)) = nI (heldR i true r) ∧ ((nI r &&& (nI (2 ^ i - 1) ^^^ (-1))) <<< (nI 1 &&& 31) ||| nI 0) ||| (nI r &&& nI (2 ^ i - 1)) = nI (heldR i false r) := by decide +kernel
set_option maxRecDepth 100000 in
theorem con_X5_inputHeld {g : jG} {M : jMem} {n t i : Nat} {is : Bool} (hn : n ≤ 5) (h1 : 1 ≤ n) (ht : t < 2 ^ 32) (hi : i < n) : Fn g jX5_inputHeld 1 [.int (nI (n - 1)), .long (lN t), .int (nI i), .int (jB is)] M (.long (lN (holdT n t i is))) := by
  have h16 : 2 ^ (n - 1) ≤ 2 ^ 4 := Nat.pow_le_pow_right (by omega) (by omega)
  have hpos : 0 < 2 ^ i := Nat.pos_of_ne_zero (by simp)
  refine con_of (l := [some (.int (nI (n - 1))), some (.long (lN t)), none, some (.int (nI i)), some (.int (jB is)), none, none, none, none, none, none]) (by decide) (Nat.le_of_ble_eq_true rfl) rfl ?_
  have h12 : J g jX5_inputHeld 1 (fun v M2 => v = some (.long (lN (holdT n t i is))) ∧ M2 = M) 12 [some (.int (nI (n - 1))), some (.long (lN t)), none, some (.int (nI i)), some (.int (jB is)), none, none, none, none, none, none] [.int (nI (if is then 2 ^ i else 0))] M := by
    refine j_istore5 (n := 14) dX5_inputHeld_12 rfl (Nat.le_of_ble_eq_true rfl) rfl ?_
    refine j_iconst (n := 15) (nI 1) dX5_inputHeld_14 rfl (by decide) ?_
    refine j_iload_n3 (n := 16) dX5_inputHeld_15 rfl ?_
    refine j_ishl (n := 17) dX5_inputHeld_16 rfl ?_
    refine j_iconst (n := 18) (nI 1) dX5_inputHeld_17 rfl (by decide) ?_
    refine j_isub (n := 19) dX5_inputHeld_18 rfl ?_
    refine j_topi (nI (2 ^ i - 1)) (by rw [ai_shl1 (by omega), pk_sub hpos]) ?_
    refine j_istore6 (n := 21) dX5_inputHeld_19 rfl (Nat.le_of_ble_eq_true rfl) rfl ?_
    refine j_lconst (n := 22) (lN 0) dX5_inputHeld_21 rfl rfl ?_
    refine j_lstore7 (n := 24) dX5_inputHeld_22 rfl (Nat.le_of_ble_eq_true rfl) rfl ?_
    refine j_iconst (n := 25) (nI 0) dX5_inputHeld_24 rfl (by decide) ?_
    refine j_istore9 (n := 27) dX5_inputHeld_25 rfl (Nat.le_of_ble_eq_true rfl) rfl ?_
    have key : ∀ r, r ≤ 2 ^ (n - 1) → ∀ x10 : Option Value, J g jX5_inputHeld 1 (fun v M2 => v = some (.long (lN (holdT n t i is))) ∧ M2 = M) 27 [some (.int (nI (n - 1))), some (.long (lN t)), none, some (.int (nI i)), some (.int (jB is)), some (.int (nI (if is then 2 ^ i else 0))), some (.int (nI (2 ^ i - 1))), some (.long (lN (mkT r (fun r => t.testBit (heldR i is r))))), none, some (.int (nI r)), x10] [] M := by
      refine j_for ?_ ?_
      · intro x10
        refine j_iload9 (n := 29) dX5_inputHeld_27 rfl ?_
        refine j_iload_n0 (n := 30) dX5_inputHeld_29 rfl ?_
        refine j_fnS1 (n := 33) (con_X5_number (by omega)) dX5_inputHeld_30 rfl cal_X5_number ml_X5_7 (Nat.le_of_ble_eq_true rfl) (Nat.le_of_ble_eq_true rfl) ?_
        refine j_nicmp_ge (n := 36) 80 dX5_inputHeld_33 rfl (by decide) (by omega) (by omega) (fun h => ?_) (fun h => ?_)
        · refine j_lload7 (n := 82) dX5_inputHeld_80 rfl ?_
          refine j_lret dX5_inputHeld_82 rfl ?_
          exact ⟨rfl, rfl⟩
        · omega
      · intro r hr ih x10
        refine j_iload9 (n := 29) dX5_inputHeld_27 rfl ?_
        refine j_iload_n0 (n := 30) dX5_inputHeld_29 rfl ?_
        refine j_fnS1 (n := 33) (con_X5_number (by omega)) dX5_inputHeld_30 rfl cal_X5_number ml_X5_7 (Nat.le_of_ble_eq_true rfl) (Nat.le_of_ble_eq_true rfl) ?_
        refine j_nicmp_ge (n := 36) 80 dX5_inputHeld_33 rfl (by decide) (by omega) (by omega) (fun h => ?_) (fun h => ?_)
        · omega
        have hh := heldR_lt (is := is) hn hi hr
        refine j_iload9 (n := 38) dX5_inputHeld_36 rfl ?_
        refine j_iload6 (n := 40) dX5_inputHeld_38 rfl ?_
        refine j_iconst (n := 41) (-1) dX5_inputHeld_40 rfl (by decide) ?_
        refine j_ixor (n := 42) dX5_inputHeld_41 rfl ?_
        refine j_iand (n := 43) dX5_inputHeld_42 rfl ?_
        refine j_iconst (n := 44) (nI 1) dX5_inputHeld_43 rfl (by decide) ?_
        refine j_ishl (n := 45) dX5_inputHeld_44 rfl ?_
        refine j_iload5 (n := 47) dX5_inputHeld_45 rfl ?_
        refine j_ior (n := 48) dX5_inputHeld_47 rfl ?_
        refine j_iload9 (n := 50) dX5_inputHeld_48 rfl ?_
        refine j_iload6 (n := 52) dX5_inputHeld_50 rfl ?_
        refine j_iand (n := 53) dX5_inputHeld_52 rfl ?_
        refine j_ior (n := 54) dX5_inputHeld_53 rfl ?_
        refine j_topi (nI (heldR i is r)) ?_ ?_
        · have hk := held_k i (by omega) r (by omega)
          cases is with
          | true => exact hk.1
          | false => exact hk.2
        refine j_istore10 (n := 56) dX5_inputHeld_54 rfl (Nat.le_of_ble_eq_true rfl) rfl ?_
        refine j_lload_n1 (n := 57) dX5_inputHeld_56 rfl ?_
        refine j_iload10 (n := 59) dX5_inputHeld_57 rfl ?_
        refine j_fnS2 (n := 62) (con_X5_isOne (by omega) (by omega)) dX5_inputHeld_59 rfl cal_X5_isOne ml_X5_25 (Nat.le_of_ble_eq_true rfl) (Nat.le_of_ble_eq_true rfl) ?_
        refine j_bif_eq (n := 65) 74 dX5_inputHeld_62 rfl (by decide) (fun e => ?_) (fun e => ?_)
        · refine j_inc9 (n := 77) dX5_inputHeld_74 rfl (Nat.le_of_ble_eq_true rfl) rfl ?_
          refine j_goto 27 dX5_inputHeld_77 (by decide) ?_
          have h2 := ih (some (.int (nI (heldR i is r))))
          have e2 : mkT (r + 1) (fun r => t.testBit (heldR i is r)) = mkT r (fun r => t.testBit (heldR i is r)) := by simp [mkT, e]
          rw [e2] at h2
          exact h2
        · refine j_lload7 (n := 67) dX5_inputHeld_65 rfl ?_
          refine j_lconst (n := 68) (lN 1) dX5_inputHeld_67 rfl rfl ?_
          refine j_iload9 (n := 70) dX5_inputHeld_68 rfl ?_
          refine j_lshl (n := 71) dX5_inputHeld_70 rfl ?_
          refine j_topl (lN (2 ^ r)) (al_shl1 (by omega)) ?_
          refine j_lor (n := 72) dX5_inputHeld_71 rfl ?_
          refine j_topl (lN (mkT (r + 1) (fun r => t.testBit (heldR i is r)))) (by rw [fb_orL]; simp [mkT, e]) ?_
          refine j_lstore7 (n := 74) dX5_inputHeld_72 rfl (Nat.le_of_ble_eq_true rfl) rfl ?_
          refine j_inc9 (n := 77) dX5_inputHeld_74 rfl (Nat.le_of_ble_eq_true rfl) rfl ?_
          refine j_goto 27 dX5_inputHeld_77 (by decide) ?_
          exact ih _
    exact key 0 (Nat.zero_le _) _
  refine j_iload4 (n := 2) dX5_inputHeld_0 rfl ?_
  refine j_bif_eq (n := 5) 11 dX5_inputHeld_2 rfl (by decide) (fun e => ?_) (fun e => ?_)
  · refine j_iconst (n := 12) (nI 0) dX5_inputHeld_11 rfl (by decide) ?_
    subst e
    exact h12
  · refine j_iconst (n := 6) (nI 1) dX5_inputHeld_5 rfl (by decide) ?_
    refine j_iload_n3 (n := 7) dX5_inputHeld_6 rfl ?_
    refine j_ishl (n := 8) dX5_inputHeld_7 rfl ?_
    refine j_topi (nI (2 ^ i)) (ai_shl1 (by omega)) ?_
    refine j_goto 12 dX5_inputHeld_8 (by decide) ?_
    subst e
    exact h12
