theorem wSum_bd (w r : Nat) : ∀ i : Nat, -50 * (i : Int) ≤ wSum w r i ∧ wSum w r i ≤ 50 * (i : Int)
  | 0 => by simp [wSum]
  | i + 1 => by
    have h := wSum_bd w r i
    unfold wSum
    have h2 : w / 100 ^ i % 100 < 100 := Nat.mod_lt _ (by omega)
    split
    · constructor <;> push_cast <;> omega
    · constructor <;> push_cast <;> omega
theorem wT_lt (n w : Nat) (b : Int) : wT n w b < 2 ^ 2 ^ n := mkT_lt _ _
theorem in_tri {a b x : Int64} : decide (a ≤ x ∧ x ≤ b) = false → ¬ (a ≤ x ∧ x ≤ b) := of_decide_eq_false
set_option maxRecDepth 100000 in
theorem con_X8_weigh {g : jG} {M : jMem} {q : jMq} {sn sT : Nat → Nat} (h34 : M 34 = .inr (7, oMod g q)) (h35 : M 35 = iA g 8 fun j => nI (sn j)) (h36 : M 36 = lA g 8 fun j => lN (sT j)) {s n : Int32} {w : Int64} {b : Int32} : Con g jX8_weigh 3 [.ref (jA g 34), .int s, .int n, .long w, .int b] M (fun v M2 => v = some (.long (sp_weigh sn sT s n w b).1) ∧ M2 = setM g 35 M (sp_weigh sn sT s n w b).2.1 (sp_weigh sn sT s n w b).2.2) := by
  have hid := setM_id h35 h36
  refine con_of (l := [some (.ref (jA g 34)), some (.int s), some (.int n), some (.long w), none, some (.int b), none, none, none, none, none, none, none]) (by decide) (Nat.le_of_ble_eq_true rfl) rfl ?_
  refine j_iload_n1 (n := 1) dX8_weigh_0 rfl ?_
  refine j_fnS1 (n := 4) con_X8_isSlot dX8_weigh_1 rfl cal_X8_isSlot ml_X8_88 (Nat.le_of_ble_eq_true rfl) (Nat.le_of_ble_eq_true rfl) ?_
  refine j_bif_ne (n := 7) 11 dX8_weigh_4 rfl (by decide) (fun k1 => ?_) (fun k1 => ?_)
  rotate_left
  · refine j_ldc2 (n := 10) dX8_weigh_7 rfl cl_X8_27 ?_
    refine j_lret dX8_weigh_10 rfl ?_
    simp [sp_weigh, k1, hid]
  refine j_iload_n2 (n := 12) dX8_weigh_11 rfl ?_
  refine j_i2l (n := 13) dX8_weigh_12 rfl ?_
  refine j_lconst (n := 14) (lN 1) dX8_weigh_13 rfl rfl ?_
  refine j_ldc2 (n := 17) dX8_weigh_14 rfl cl_X8_92 ?_
  refine j_fnS3 (n := 20) con_X8_in dX8_weigh_17 rfl cal_X8_in ml_X8_76 (Nat.le_of_ble_eq_true rfl) (Nat.le_of_ble_eq_true rfl) ?_
  have e5 : decide (lN 1 ≤ n.toInt64 ∧ n.toInt64 ≤ 5) = isTo 5 n := by
    unfold isTo
    apply decide_eq_decide.mpr
    rw [wide1, wide5, fa_wide_le, fa_wide_le]
  rw [e5]
  refine j_bif_eq (n := 23) 49 dX8_weigh_20 rfl (by decide) (fun k2 => ?_) (fun k2 => ?_)
  · refine j_ldc2 (n := 52) dX8_weigh_49 rfl cl_X8_108 ?_
    refine j_lret dX8_weigh_52 rfl ?_
    simp [sp_weigh, k1, k2, hid]
  refine j_lload_n3 (n := 24) dX8_weigh_23 rfl ?_
  refine j_lconst (n := 25) (lN 0) dX8_weigh_24 rfl rfl ?_
  refine j_ldc2 (n := 28) dX8_weigh_25 rfl cl_X8_102 ?_
  refine j_fnS3 (n := 31) con_X8_in dX8_weigh_28 rfl cal_X8_in ml_X8_76 (Nat.le_of_ble_eq_true rfl) (Nat.le_of_ble_eq_true rfl) ?_
  have e6 : decide (lN 0 ≤ w ∧ w ≤ 9999999999) = decide (0 ≤ w ∧ w ≤ 9999999999) := rfl
  rw [e6]
  refine j_bif_eq (n := 34) 49 dX8_weigh_31 rfl (by decide) (fun k3 => ?_) (fun k3 => ?_)
  · refine j_ldc2 (n := 52) dX8_weigh_49 rfl cl_X8_108 ?_
    refine j_lret dX8_weigh_52 rfl ?_
    simp [sp_weigh, k1, k2, k3, hid]
  refine j_iload5 (n := 36) dX8_weigh_34 rfl ?_
  refine j_i2l (n := 37) dX8_weigh_36 rfl ?_
  refine j_ldc2 (n := 40) dX8_weigh_37 rfl cl_X8_104 ?_
  refine j_ldc2 (n := 43) dX8_weigh_40 rfl cl_X8_106 ?_
  refine j_fnS3 (n := 46) con_X8_in dX8_weigh_43 rfl cal_X8_in ml_X8_76 (Nat.le_of_ble_eq_true rfl) (Nat.le_of_ble_eq_true rfl) ?_
  have e7 : decide (-999 ≤ b.toInt64 ∧ b.toInt64 ≤ 999) = decide (-999 ≤ b ∧ b ≤ 999) := by
    apply decide_eq_decide.mpr
    have q1 : (-999 : Int64) = (-999 : Int32).toInt64 := by decide
    have q2 : (999 : Int64) = (999 : Int32).toInt64 := by decide
    rw [q1, q2, fa_wide_le, fa_wide_le]
  rw [e7]
  refine j_bif_ne (n := 49) 53 dX8_weigh_46 rfl (by decide) (fun k4 => ?_) (fun k4 => ?_)
  rotate_left
  · refine j_ldc2 (n := 52) dX8_weigh_49 rfl cl_X8_108 ?_
    refine j_lret dX8_weigh_52 rfl ?_
    simp [sp_weigh, k1, k2, k3, k4, hid]
  obtain ⟨j, hj, rfl⟩ := isSl_of k1
  obtain ⟨m, hm1, hm5, rfl⟩ := isTo_of (by decide) k2
  have k5 : 0 ≤ w ∧ w ≤ 9999999999 := of_decide_eq_true k3
  obtain ⟨u, hu, rfl⟩ := pk_lOf (x := w) (l_nn k5.1)
  have hu2 : u ≤ 9999999999 := (pk_lLE hu (by omega)).mp k5.2
  have k6 : -999 ≤ b ∧ b ≤ 999 := of_decide_eq_true k4
  obtain ⟨z, hz, rfl⟩ := iI_of b
  have hz2 : -999 ≤ z ∧ z ≤ 999 := ⟨(iI_le (by omega) hz).mp k6.1, (iI_le hz (by omega)).mp k6.2⟩
  have c1 := nI_clamp (show j < 2 ^ 31 by omega)
  have c2 := nI_clamp (show m < 2 ^ 31 by omega)
  have hs : sp_weigh sn sT (nI j) (nI m) (lN u) (iI z) = (lN (wT m u z), va_up sn j m, va_up sT j (wT m u z)) := by
    simp [sp_weigh, k1, k2, k3, k4, c1, c2, pk_lT hu, iI_toInt hz]
  rw [hs]
  have h5 := pw5 hm5
  have hT := Nat.lt_of_lt_of_le (wT_lt m u z) (pw32 hm5)
  refine j_lconst (n := 54) (lN 0) dX8_weigh_53 rfl rfl ?_
  refine j_lstore6 (n := 56) dX8_weigh_54 rfl (Nat.le_of_ble_eq_true rfl) rfl ?_
  refine j_iconst (n := 57) (nI 0) dX8_weigh_56 rfl (by decide) ?_
  refine j_istore8 (n := 59) dX8_weigh_57 rfl (Nat.le_of_ble_eq_true rfl) rfl ?_
  have key : ∀ r, r ≤ 2 ^ m → ∀ x9 x10 x11 x12 : Option Value, jNL x10 = true → jNL x11 = true → J g jX8_weigh 3 (fun v M2 => v = some (.long (lN (wT m u z))) ∧ M2 = setM g 35 M (va_up sn j m) (va_up sT j (wT m u z))) 59 [some (.ref (jA g 34)), some (.int (nI j)), some (.int (nI m)), some (.long (lN u)), none, some (.int (iI z)), some (.long (lN (mkT r (fun r => decide (z ≤ wSum u r m))))), none, some (.int (nI r)), x9, x10, x11, x12] [] M := by
    refine j_for ?_ ?_
    · intro x9 x10 x11 x12 _ _
      refine j_iload8 (n := 61) dX8_weigh_59 rfl ?_
      refine j_iconst (n := 62) (nI 1) dX8_weigh_61 rfl (by decide) ?_
      refine j_iload_n2 (n := 63) dX8_weigh_62 rfl ?_
      refine j_ishl (n := 64) dX8_weigh_63 rfl ?_
      refine j_topi (nI (2 ^ m)) (ai_shl1 (by omega)) ?_
      refine j_nicmp_ge (n := 67) 152 dX8_weigh_64 rfl (by decide) (by omega) (by omega) (fun h => ?_) (fun h => ?_)
      · refine j_aload_n0 (n := 153) dX8_weigh_152 rfl ?_
        refine j_iload_n1 (n := 154) dX8_weigh_153 rfl ?_
        refine j_iload_n2 (n := 155) dX8_weigh_154 rfl ?_
        refine j_lload6 (n := 157) dX8_weigh_155 rfl ?_
        refine j_cV3 (n := 160) (con_X8_set h34 h35 h36 hj (t := wT m u z) (by omega)) dX8_weigh_157 rfl cal_X8_set ml_X8_98 (Nat.le_of_ble_eq_true rfl) (by first | decide | omega) rfl rfl (Nat.le_of_ble_eq_true rfl) (by first | assumption | rfl) ?_
        rintro _ M2 ⟨rfl, rfl⟩
        refine j_istore8 (n := 162) dX8_weigh_160 rfl (Nat.le_of_ble_eq_true rfl) rfl ?_
        refine j_lload6 (n := 164) dX8_weigh_162 rfl ?_
        refine j_lret dX8_weigh_164 rfl ?_
        exact ⟨rfl, rfl⟩
      · omega
    · intro r hr ih x9 x10 x11 x12 hx10 hx11
      refine j_iload8 (n := 61) dX8_weigh_59 rfl ?_
      refine j_iconst (n := 62) (nI 1) dX8_weigh_61 rfl (by decide) ?_
      refine j_iload_n2 (n := 63) dX8_weigh_62 rfl ?_
      refine j_ishl (n := 64) dX8_weigh_63 rfl ?_
      refine j_topi (nI (2 ^ m)) (ai_shl1 (by omega)) ?_
      refine j_nicmp_ge (n := 67) 152 dX8_weigh_64 rfl (by decide) (by omega) (by omega) (fun h => ?_) (fun h => ?_)
      · omega
      refine j_lload_n3 (n := 68) dX8_weigh_67 rfl ?_
      refine j_lstore9 (n := 70) dX8_weigh_68 rfl (Nat.le_of_ble_eq_true rfl) rfl ?_
      refine j_iconst (n := 71) (nI 0) dX8_weigh_70 rfl (by decide) ?_
      refine j_istore11 (n := 73) dX8_weigh_71 rfl (Nat.le_of_ble_eq_true rfl) rfl ?_
      refine j_iconst (n := 74) (nI 0) dX8_weigh_73 rfl (by decide) ?_
      refine j_istore12 (n := 76) dX8_weigh_74 rfl (Nat.le_of_ble_eq_true rfl) rfl ?_
      have inner : ∀ i, i ≤ m → J g jX8_weigh 3 (fun v M2 => v = some (.long (lN (wT m u z))) ∧ M2 = setM g 35 M (va_up sn j m) (va_up sT j (wT m u z))) 76 [some (.ref (jA g 34)), some (.int (nI j)), some (.int (nI m)), some (.long (lN u)), none, some (.int (iI z)), some (.long (lN (mkT r (fun r => decide (z ≤ wSum u r m))))), none, some (.int (nI r)), some (.long (lN (u / 100 ^ i))), none, some (.int (iI (wSum u r i))), some (.int (nI i))] [] M := by
        refine j_for ?_ ?_
        · refine j_iload12 (n := 78) dX8_weigh_76 rfl ?_
          refine j_iload_n2 (n := 79) dX8_weigh_78 rfl ?_
          refine j_nicmp_ge (n := 82) 126 dX8_weigh_79 rfl (by decide) (by omega) (by omega) (fun h => ?_) (fun h => ?_)
          rotate_left
          · omega
          have hbd := wSum_bd u r m
          refine j_lload6 (n := 128) dX8_weigh_126 rfl ?_
          refine j_iload11 (n := 130) dX8_weigh_128 rfl ?_
          refine j_iload5 (n := 132) dX8_weigh_130 rfl ?_
          refine j_zicmp_lt (n := 135) 142 dX8_weigh_132 rfl (by decide) (by omega) (by omega) (fun e => ?_) (fun e => ?_)
          · refine j_lconst (n := 143) (lN 0) dX8_weigh_142 rfl rfl ?_
            refine j_lor (n := 144) dX8_weigh_143 rfl ?_
            refine j_topl (lN (mkT (r + 1) (fun r => decide (z ≤ wSum u r m)))) (by rw [fb_orL]; simp [mkT, e, Int.not_le.mpr e]) ?_
            refine j_lstore6 (n := 146) dX8_weigh_144 rfl (Nat.le_of_ble_eq_true rfl) rfl ?_
            refine j_inc8 (n := 149) dX8_weigh_146 rfl (Nat.le_of_ble_eq_true rfl) rfl ?_
            refine j_goto 59 dX8_weigh_149 (by decide) ?_
            exact ih _ _ _ _ rfl rfl
          · refine j_lconst (n := 136) (lN 1) dX8_weigh_135 rfl rfl ?_
            refine j_iload8 (n := 138) dX8_weigh_136 rfl ?_
            refine j_lshl (n := 139) dX8_weigh_138 rfl ?_
            refine j_topl (lN (2 ^ r)) (al_shl1 (by omega)) ?_
            refine j_goto 143 dX8_weigh_139 (by decide) ?_
            refine j_lor (n := 144) dX8_weigh_143 rfl ?_
            refine j_topl (lN (mkT (r + 1) (fun r => decide (z ≤ wSum u r m)))) (by rw [fb_orL]; simp [mkT, e]) ?_
            refine j_lstore6 (n := 146) dX8_weigh_144 rfl (Nat.le_of_ble_eq_true rfl) rfl ?_
            refine j_inc8 (n := 149) dX8_weigh_146 rfl (Nat.le_of_ble_eq_true rfl) rfl ?_
            refine j_goto 59 dX8_weigh_149 (by decide) ?_
            exact ih _ _ _ _ rfl rfl
        · intro i hi ih2
          have hdv : u / 100 ^ i ≤ u := Nat.div_le_self _ _
          have hds : u / 100 ^ i / 100 = u / 100 ^ (i + 1) := by rw [Nat.div_div_eq_div_mul, Nat.pow_succ]
          refine j_iload12 (n := 78) dX8_weigh_76 rfl ?_
          refine j_iload_n2 (n := 79) dX8_weigh_78 rfl ?_
          refine j_nicmp_ge (n := 82) 126 dX8_weigh_79 rfl (by decide) (by omega) (by omega) (fun h => ?_) (fun h => ?_)
          · omega
          have hbb : (if r.testBit i then 1 else 0) < 2 ^ 31 := by split <;> omega
          refine j_iload11 (n := 84) dX8_weigh_82 rfl ?_
          refine j_iload8 (n := 86) dX8_weigh_84 rfl ?_
          refine j_iload12 (n := 88) dX8_weigh_86 rfl ?_
          refine j_ishr (n := 89) dX8_weigh_88 rfl ?_
          refine j_iconst (n := 90) (nI 1) dX8_weigh_89 rfl (by decide) ?_
          refine j_iand (n := 91) dX8_weigh_90 rfl ?_
          refine j_topi (nI (if r.testBit i then 1 else 0)) (by rw [ai_bit (by omega) (by omega), jB_nI]) ?_
          refine j_iconst (n := 92) (nI 1) dX8_weigh_91 rfl (by decide) ?_
          have h110 : J g jX8_weigh 3 (fun v M2 => v = some (.long (lN (wT m u z))) ∧ M2 = setM g 35 M (va_up sn j m) (va_up sT j (wT m u z))) 110 [some (.ref (jA g 34)), some (.int (nI j)), some (.int (nI m)), some (.long (lN u)), none, some (.int (iI z)), some (.long (lN (mkT r (fun r => decide (z ≤ wSum u r m))))), none, some (.int (nI r)), some (.long (lN (u / 100 ^ i))), none, some (.int (iI (wSum u r i))), some (.int (nI i))] [.int (iI (wSum u r (i + 1)))] M := by
            refine j_istore11 (n := 112) dX8_weigh_110 rfl (Nat.le_of_ble_eq_true rfl) rfl ?_
            refine j_lload9 (n := 114) dX8_weigh_112 rfl ?_
            refine j_ldc2 (n := 117) dX8_weigh_114 rfl cl_X8_110 ?_
            refine j_ldiv (n := 118) dX8_weigh_117 rfl (by first | assumption | decide) ?_
            refine j_topl (lN (u / 100 ^ (i + 1))) (by rw [← hds]; exact pk_lDiv (b := 100) (by omega) (by omega) (by omega)) ?_
            refine j_lstore9 (n := 120) dX8_weigh_118 rfl (Nat.le_of_ble_eq_true rfl) rfl ?_
            refine j_inc12 (n := 123) dX8_weigh_120 rfl (Nat.le_of_ble_eq_true rfl) rfl ?_
            refine j_goto 76 dX8_weigh_123 (by decide) ?_
            exact ih2
          refine j_nicmp_ne (n := 95) 108 dX8_weigh_92 rfl (by decide) hbb (by omega) (fun e3 => ?_) (fun e3 => ?_)
          · have e4 : r.testBit i = false := by
              cases h : r.testBit i with
              | false => rfl
              | true => rw [h] at e3; exact absurd rfl e3
            refine j_iconst (n := 109) (nI 0) dX8_weigh_108 rfl (by decide) ?_
            refine j_iadd (n := 110) dX8_weigh_109 rfl ?_
            refine j_topi (iI (wSum u r (i + 1))) (by rw [← iI_nat, iI_add]; simp [wSum, e4]) ?_
            exact h110
          · have e4 : r.testBit i = true := by
              cases h : r.testBit i with
              | true => rfl
              | false => rw [h] at e3; exact absurd e3 (by decide)
            refine j_lload9 (n := 97) dX8_weigh_95 rfl ?_
            refine j_ldc2 (n := 100) dX8_weigh_97 rfl cl_X8_110 ?_
            refine j_lrem (n := 101) dX8_weigh_100 rfl (by first | assumption | decide) ?_
            refine j_l2i (n := 102) dX8_weigh_101 rfl ?_
            refine j_bipush (n := 104) (nI 50) dX8_weigh_102 rfl (by decide) ?_
            refine j_isub (n := 105) dX8_weigh_104 rfl ?_
            refine j_topi (iI (((u / 100 ^ i % 100 : Nat) : Int) - 50)) ?_ ?_
            · have q : lN (u / 100 ^ i) - lN (u / 100 ^ i) / lN 100 * lN 100 = lN (u / 100 ^ i % 100) := pk_lRem (by omega) (by omega) (by omega)
              show (lN (u / 100 ^ i) - lN (u / 100 ^ i) / lN 100 * lN 100).toInt32 - nI 50 = _
              rw [q, lN_i, ← iI_nat, ← iI_nat, iI_sub]
              rfl
            refine j_goto 109 dX8_weigh_105 (by decide) ?_
            refine j_iadd (n := 110) dX8_weigh_109 rfl ?_
            refine j_topi (iI (wSum u r (i + 1))) (by rw [iI_add]; simp [wSum, e4]) ?_
            exact h110
      have h0 := inner 0 (Nat.zero_le _)
      rw [Nat.pow_zero, Nat.div_one] at h0
      exact h0
  exact key 0 (Nat.zero_le _) _ _ _ _ rfl rfl
