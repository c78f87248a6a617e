theorem heldR_lt {i r n : Nat} {is : Bool} (hn : n ≤ 5) (hi : i < n) (hr : r < 2 ^ (n - 1)) : heldR i is r < 32 := by
  have h16 : 2 ^ (n - 1) ≤ 2 ^ 4 := Nat.pow_le_pow_right (by omega) (by omega)
  have hi4 : 2 ^ i ≤ 2 ^ 4 := Nat.pow_le_pow_right (by omega) (by omega)
  unfold heldR
  have e : (32 : Nat) = 2 ^ 5 := rfl
  rw [e]
  refine Nat.or_lt_two_pow (Nat.or_lt_two_pow ?_ ?_) ?_
  · exact Nat.lt_of_lt_of_le (Nat.mod_lt _ (Nat.pos_of_ne_zero (by simp))) (Nat.le_trans hi4 (by decide))
  · have h1 : r / 2 ^ i * 2 ^ (i + 1) = 2 * (r / 2 ^ i * 2 ^ i) := by rw [Nat.pow_succ]; rw [Nat.mul_comm (2 ^ i) 2, ← Nat.mul_assoc, Nat.mul_comm _ 2, Nat.mul_assoc]
    have h2 : r / 2 ^ i * 2 ^ i ≤ r := Nat.div_mul_le_self _ _
    rw [h1]
    omega
  · split
    · exact Nat.lt_of_le_of_lt hi4 (by decide)
    · decide
theorem holdT_lt (n t i : Nat) (is : Bool) : holdT n t i is < 2 ^ 2 ^ (n - 1) := mkT_lt _ _
set_option maxRecDepth 100000 in
theorem con_X8_hold {g : jG} {M : jMem} {q : jMq} {sn sT : Nat → Nat} (h34 : M 34 = .inr (7, oMod g q)) (h35 : M 35 = iA g 8 fun j => nI (sn j)) (h36 : M 36 = lA g 8 fun j => lN (sT j)) (ok : slOK sn sT) {s1 s2 i : Int32} {is : Bool} : Con g jX8_hold 3 [.ref (jA g 34), .int s1, .int s2, .int i, .int (jB is)] M (fun v M2 => v = some (.int (sp_hold sn sT s1 s2 i is).1) ∧ M2 = setM g 35 M (sp_hold sn sT s1 s2 i is).2.1 (sp_hold sn sT s1 s2 i is).2.2) := by
  have hid := setM_id h35 h36
  refine con_of (l := [some (.ref (jA g 34)), some (.int s1), some (.int s2), some (.int i), some (.int (jB is)), none, none, none, none, none, none]) (by decide) (Nat.le_of_ble_eq_true rfl) rfl ?_
  refine j_iload_n1 (n := 1) dX8_hold_0 rfl ?_
  refine j_fnS1 (n := 4) con_X8_isSlot dX8_hold_1 rfl cal_X8_isSlot ml_X8_88 (Nat.le_of_ble_eq_true rfl) (Nat.le_of_ble_eq_true rfl) ?_
  refine j_bif_eq (n := 7) 23 dX8_hold_4 rfl (by decide) (fun k1 => ?_) (fun k1 => ?_)
  · refine j_iconst (n := 24) (-1) dX8_hold_23 rfl (by decide) ?_
    refine j_iret dX8_hold_24 rfl ?_
    simp [sp_hold, k1, hid]
  refine j_iload_n2 (n := 8) dX8_hold_7 rfl ?_
  refine j_fnS1 (n := 11) con_X8_isSlot dX8_hold_8 rfl cal_X8_isSlot ml_X8_88 (Nat.le_of_ble_eq_true rfl) (Nat.le_of_ble_eq_true rfl) ?_
  refine j_bif_eq (n := 14) 23 dX8_hold_11 rfl (by decide) (fun k2 => ?_) (fun k2 => ?_)
  · refine j_iconst (n := 24) (-1) dX8_hold_23 rfl (by decide) ?_
    refine j_iret dX8_hold_24 rfl ?_
    simp [sp_hold, k1, k2, hid]
  obtain ⟨j1, hj1, rfl⟩ := isSl_of k1
  obtain ⟨j2, hj2, rfl⟩ := isSl_of k2
  have c1 := nI_clamp (show j1 < 2 ^ 31 by omega)
  have c2 := nI_clamp (show j2 < 2 ^ 31 by omega)
  have b2 := ok j2 hj2
  have b3 := ok.b hj2
  refine j_aload_n0 (n := 15) dX8_hold_14 rfl ?_
  refine j_iload_n2 (n := 16) dX8_hold_15 rfl ?_
  refine j_iload_n3 (n := 17) dX8_hold_16 rfl ?_
  refine j_fnV2 (n := 20) (con_X8_isInput h34 h35 hj2) dX8_hold_17 rfl cal_X8_isInput ml_X8_113 (Nat.le_of_ble_eq_true rfl) (by first | decide | omega) rfl rfl (Nat.le_of_ble_eq_true rfl) (by first | assumption | rfl) ?_
  refine j_bif_ne (n := 23) 25 dX8_hold_20 rfl (by decide) (fun k3 => ?_) (fun k3 => ?_)
  rotate_left
  · refine j_iconst (n := 24) (-1) dX8_hold_23 rfl (by decide) ?_
    refine j_iret dX8_hold_24 rfl ?_
    simp [sp_hold, k1, k2, c1, c2, k3, hid]
  obtain ⟨ii, hii, rfl⟩ := isIn_of b2.1 b2.2.1 k3
  have ci := nI_clamp (show ii < 2 ^ 31 by omega)
  refine j_aload_n0 (n := 26) dX8_hold_25 rfl ?_
  refine j_get (n := 29) (k := 0) dX8_hold_26 rfl jcl7 (Nat.le_of_ble_eq_true rfl) fl_X8_7 (Nat.le_of_ble_eq_true rfl) (by first | assumption | rfl) (by rfl) ?_
  refine j_iload_n2 (n := 30) dX8_hold_29 rfl ?_
  refine j_iald_n (n := 31) dX8_hold_30 rfl (by first | decide | omega) (by first | assumption | rfl) (by decide) (by first | assumption | omega) ?_
  refine j_iconst (n := 32) (nI 1) dX8_hold_31 rfl (by decide) ?_
  refine j_nicmp_ne (n := 35) 38 dX8_hold_32 rfl (by decide) (by omega) (by omega) (fun e => ?_) (fun e => ?_)
  rotate_left
  · refine j_bipush (n := 37) (-3) dX8_hold_35 rfl (by decide) ?_
    refine j_iret dX8_hold_37 rfl ?_
    rw [e] at k3
    simp [sp_hold, k1, k2, c1, c2, k3, e, hid]
  have hs : sp_hold sn sT (nI j1) (nI j2) (nI ii) is = (nI (sn j2 - 1), va_up sn j1 (sn j2 - 1), va_up sT j1 (holdT (sn j2) (sT j2) ii is)) := by
    simp [sp_hold, k1, k2, c1, c2, k3, e, ci]
  rw [hs]
  refine j_lconst (n := 39) (lN 0) dX8_hold_38 rfl rfl ?_
  refine j_lstore5 (n := 41) dX8_hold_39 rfl (Nat.le_of_ble_eq_true rfl) rfl ?_
  refine j_aload_n0 (n := 42) dX8_hold_41 rfl ?_
  refine j_get (n := 45) (k := 0) dX8_hold_42 rfl jcl7 (Nat.le_of_ble_eq_true rfl) fl_X8_7 (Nat.le_of_ble_eq_true rfl) (by first | assumption | rfl) (by rfl) ?_
  refine j_iload_n2 (n := 46) dX8_hold_45 rfl ?_
  refine j_iald_n (n := 47) dX8_hold_46 rfl (by first | decide | omega) (by first | assumption | rfl) (by decide) (by first | assumption | omega) ?_
  refine j_iconst (n := 48) (nI 1) dX8_hold_47 rfl (by decide) ?_
  refine j_isub (n := 49) dX8_hold_48 rfl ?_
  refine j_topi (nI (sn j2 - 1)) (pk_sub b2.1) ?_
  refine j_istore7 (n := 51) dX8_hold_49 rfl (Nat.le_of_ble_eq_true rfl) rfl ?_
  refine j_iconst (n := 52) (nI 0) dX8_hold_51 rfl (by decide) ?_
  refine j_istore8 (n := 54) dX8_hold_52 rfl (Nat.le_of_ble_eq_true rfl) rfl ?_
  have h16 : 2 ^ (sn j2 - 1) ≤ 2 ^ 4 := Nat.pow_le_pow_right (by omega) (by omega)
  have hlt := holdT_lt (sn j2) (sT j2) ii is
  have hlt2 : 2 ^ 2 ^ (sn j2 - 1) ≤ 2 ^ 2 ^ 4 := Nat.pow_le_pow_right (by omega) h16
  have key : ∀ r, r ≤ 2 ^ (sn j2 - 1) → ∀ x9 x10 : Option Value, jNL x9 = true → J g jX8_hold 3 (fun v M2 => v = some (.int (nI (sn j2 - 1))) ∧ M2 = setM g 35 M (va_up sn j1 (sn j2 - 1)) (va_up sT j1 (holdT (sn j2) (sT j2) ii is))) 54 [some (.ref (jA g 34)), some (.int (nI j1)), some (.int (nI j2)), some (.int (nI ii)), some (.int (jB is)), some (.long (lN (mkT r (fun r => (sT j2).testBit (heldR ii is r))))), none, some (.int (nI (sn j2 - 1))), some (.int (nI r)), x9, x10] [] M := by
    refine j_for ?_ ?_
    · intro x9 x10 _
      refine j_iload8 (n := 56) dX8_hold_54 rfl ?_
      refine j_iconst (n := 57) (nI 1) dX8_hold_56 rfl (by decide) ?_
      refine j_iload7 (n := 59) dX8_hold_57 rfl ?_
      refine j_ishl (n := 60) dX8_hold_59 rfl ?_
      refine j_topi (nI (2 ^ (sn j2 - 1))) (ai_shl1 (by omega)) ?_
      refine j_nicmp_ge (n := 63) 132 dX8_hold_60 rfl (by decide) (by omega) (by omega) (fun h => ?_) (fun h => ?_)
      · refine j_aload_n0 (n := 133) dX8_hold_132 rfl ?_
        refine j_iload_n1 (n := 134) dX8_hold_133 rfl ?_
        refine j_iload7 (n := 136) dX8_hold_134 rfl ?_
        refine j_lload5 (n := 138) dX8_hold_136 rfl ?_
        refine j_cV3 (n := 141) (con_X8_set h34 h35 h36 hj1 (t := holdT (sn j2) (sT j2) ii is) (by omega)) dX8_hold_138 rfl cal_X8_set ml_X8_98 (Nat.le_of_ble_eq_true rfl) (by first | decide | omega) rfl rfl (Nat.le_of_ble_eq_true rfl) (by first | assumption | rfl) ?_
        rintro _ M2 ⟨rfl, rfl⟩
        refine j_istore8 (n := 143) dX8_hold_141 rfl (Nat.le_of_ble_eq_true rfl) rfl ?_
        refine j_iload7 (n := 145) dX8_hold_143 rfl ?_
        refine j_iret dX8_hold_145 rfl ?_
        exact ⟨rfl, rfl⟩
      · omega
    · intro r hr ih x9 x10 hx9
      refine j_iload8 (n := 56) dX8_hold_54 rfl ?_
      refine j_iconst (n := 57) (nI 1) dX8_hold_56 rfl (by decide) ?_
      refine j_iload7 (n := 59) dX8_hold_57 rfl ?_
      refine j_ishl (n := 60) dX8_hold_59 rfl ?_
      refine j_topi (nI (2 ^ (sn j2 - 1))) (ai_shl1 (by omega)) ?_
      refine j_nicmp_ge (n := 63) 132 dX8_hold_60 rfl (by decide) (by omega) (by omega) (fun h => ?_) (fun h => ?_)
      · omega
      have hi4 : 2 ^ ii ≤ 2 ^ 4 := Nat.pow_le_pow_right (by omega) (by omega)
      have hpos : 0 < 2 ^ ii := Nat.pos_of_ne_zero (by simp)
      refine j_iload8 (n := 65) dX8_hold_63 rfl ?_
      refine j_iconst (n := 66) (nI 1) dX8_hold_65 rfl (by decide) ?_
      refine j_iload_n3 (n := 67) dX8_hold_66 rfl ?_
      refine j_ishl (n := 68) dX8_hold_67 rfl ?_
      refine j_iconst (n := 69) (nI 1) dX8_hold_68 rfl (by decide) ?_
      refine j_isub (n := 70) dX8_hold_69 rfl ?_
      refine j_iand (n := 71) dX8_hold_70 rfl ?_
      refine j_topi (nI (r % 2 ^ ii)) (by rw [ai_shl1 (by omega), pk_sub hpos, fa_mask]) ?_
      refine j_istore9 (n := 73) dX8_hold_71 rfl (Nat.le_of_ble_eq_true rfl) rfl ?_
      refine j_iload9 (n := 75) dX8_hold_73 rfl ?_
      refine j_iload8 (n := 77) dX8_hold_75 rfl ?_
      refine j_iload_n3 (n := 78) dX8_hold_77 rfl ?_
      refine j_ishr (n := 79) dX8_hold_78 rfl ?_
      refine j_iload_n3 (n := 80) dX8_hold_79 rfl ?_
      refine j_iconst (n := 81) (nI 1) dX8_hold_80 rfl (by decide) ?_
      refine j_iadd (n := 82) dX8_hold_81 rfl ?_
      refine j_ishl (n := 83) dX8_hold_82 rfl ?_
      refine j_ior (n := 84) dX8_hold_83 rfl ?_
      have hq : r / 2 ^ ii * 2 ^ (ii + 1) < 2 ^ 32 := by
        have h1 : r / 2 ^ ii * 2 ^ (ii + 1) = 2 * (r / 2 ^ ii * 2 ^ ii) := by rw [Nat.pow_succ]; rw [Nat.mul_comm (2 ^ ii) 2, ← Nat.mul_assoc, Nat.mul_comm _ 2, Nat.mul_assoc]
        have h2 : r / 2 ^ ii * 2 ^ ii ≤ r := Nat.div_mul_le_self _ _
        omega
      refine j_topi (nI (r % 2 ^ ii ||| r / 2 ^ ii * 2 ^ (ii + 1))) (by rw [ai_shr (by omega) (by omega), nI_add, ai_shl hq (by omega), fa_or]) ?_
      have h97 : J g jX8_hold 3 (fun v M2 => v = some (.int (nI (sn j2 - 1))) ∧ M2 = setM g 35 M (va_up sn j1 (sn j2 - 1)) (va_up sT j1 (holdT (sn j2) (sT j2) ii is))) 97 [some (.ref (jA g 34)), some (.int (nI j1)), some (.int (nI j2)), some (.int (nI ii)), some (.int (jB is)), some (.long (lN (mkT r (fun r => (sT j2).testBit (heldR ii is r))))), none, some (.int (nI (sn j2 - 1))), some (.int (nI r)), some (.int (nI (r % 2 ^ ii))), x10] [.int (nI (heldR ii is r))] M := by
        have hh := heldR_lt (is := is) b2.2.1 hii hr
        refine j_istore10 (n := 99) dX8_hold_97 rfl (Nat.le_of_ble_eq_true rfl) rfl ?_
        refine j_lload5 (n := 101) dX8_hold_99 rfl ?_
        refine j_aload_n0 (n := 102) dX8_hold_101 rfl ?_
        refine j_get (n := 105) (k := 1) dX8_hold_102 rfl jcl7 (Nat.le_of_ble_eq_true rfl) fl_X8_13 (Nat.le_of_ble_eq_true rfl) (by first | assumption | rfl) (by rfl) ?_
        refine j_iload_n2 (n := 106) dX8_hold_105 rfl ?_
        refine j_lald_n (n := 107) dX8_hold_106 rfl (by first | decide | omega) (by first | assumption | rfl) (by decide) (by first | assumption | omega) ?_
        refine j_iload10 (n := 109) dX8_hold_107 rfl ?_
        refine j_fnS2 (n := 112) (con_X8_is (by omega) (by omega)) dX8_hold_109 rfl cal_X8_is ml_X8_80 (Nat.le_of_ble_eq_true rfl) (Nat.le_of_ble_eq_true rfl) ?_
        refine j_bif_eq (n := 115) 122 dX8_hold_112 rfl (by decide) (fun e5 => ?_) (fun e5 => ?_)
        · refine j_lconst (n := 123) (lN 0) dX8_hold_122 rfl rfl ?_
          refine j_lor (n := 124) dX8_hold_123 rfl ?_
          refine j_topl (lN (mkT (r + 1) (fun r => (sT j2).testBit (heldR ii is r)))) (by rw [fb_orL]; simp [mkT, e5]) ?_
          refine j_lstore5 (n := 126) dX8_hold_124 rfl (Nat.le_of_ble_eq_true rfl) rfl ?_
          refine j_inc8 (n := 129) dX8_hold_126 rfl (Nat.le_of_ble_eq_true rfl) rfl ?_
          refine j_goto 54 dX8_hold_129 (by decide) ?_
          exact ih _ _ rfl
        · refine j_lconst (n := 116) (lN 1) dX8_hold_115 rfl rfl ?_
          refine j_iload8 (n := 118) dX8_hold_116 rfl ?_
          refine j_lshl (n := 119) dX8_hold_118 rfl ?_
          refine j_topl (lN (2 ^ r)) (al_shl1 (by omega)) ?_
          refine j_goto 123 dX8_hold_119 (by decide) ?_
          refine j_lor (n := 124) dX8_hold_123 rfl ?_
          refine j_topl (lN (mkT (r + 1) (fun r => (sT j2).testBit (heldR ii is r)))) (by rw [fb_orL]; simp [mkT, e5]) ?_
          refine j_lstore5 (n := 126) dX8_hold_124 rfl (Nat.le_of_ble_eq_true rfl) rfl ?_
          refine j_inc8 (n := 129) dX8_hold_126 rfl (Nat.le_of_ble_eq_true rfl) rfl ?_
          refine j_goto 54 dX8_hold_129 (by decide) ?_
          exact ih _ _ rfl
      refine j_iload4 (n := 86) dX8_hold_84 rfl ?_
      refine j_bif_eq (n := 89) 95 dX8_hold_86 rfl (by decide) (fun e6 => ?_) (fun e6 => ?_)
      · refine j_iconst (n := 96) (nI 0) dX8_hold_95 rfl (by decide) ?_
        refine j_ior (n := 97) dX8_hold_96 rfl ?_
        refine j_topi (nI (heldR ii is r)) (by rw [fa_or]; simp [heldR, e6]) ?_
        exact h97
      · refine j_iconst (n := 90) (nI 1) dX8_hold_89 rfl (by decide) ?_
        refine j_iload_n3 (n := 91) dX8_hold_90 rfl ?_
        refine j_ishl (n := 92) dX8_hold_91 rfl ?_
        refine j_topi (nI (2 ^ ii)) (ai_shl1 (by omega)) ?_
        refine j_goto 96 dX8_hold_92 (by decide) ?_
        refine j_ior (n := 97) dX8_hold_96 rfl ?_
        refine j_topi (nI (heldR ii is r)) (by rw [fa_or]; simp [heldR, e6]) ?_
        exact h97
  exact key 0 (Nat.zero_le _) _ _ rfl
set_option maxRecDepth 100000 in
theorem con_X8_ones_ {g : jG} {M : jMem} {q : jMq} {sn sT : Nat → Nat} (h34 : M 34 = .inr (7, oMod g q)) (h35 : M 35 = iA g 8 fun j => nI (sn j)) (h36 : M 36 = lA g 8 fun j => lN (sT j)) (ok : slOK sn sT) {s1 i : Int32} : Fn g jX8_ones_ 3 [.ref (jA g 34), .int s1, .int i] M (.int (sp_ones sn sT s1 i)) := by
  refine con_of (l := [some (.ref (jA g 34)), some (.int s1), some (.int i), none, none]) (by decide) (Nat.le_of_ble_eq_true rfl) rfl ?_
  refine j_iload_n1 (n := 1) dX8_ones__0 rfl ?_
  refine j_fnS1 (n := 4) con_X8_isSlot dX8_ones__1 rfl cal_X8_isSlot ml_X8_88 (Nat.le_of_ble_eq_true rfl) (Nat.le_of_ble_eq_true rfl) ?_
  refine j_bif_eq (n := 7) 22 dX8_ones__4 rfl (by decide) (fun k1 => ?_) (fun k1 => ?_)
  · refine j_iconst (n := 23) (-1) dX8_ones__22 rfl (by decide) ?_
    refine j_iret dX8_ones__23 rfl ?_
    simp [sp_ones, k1]
  obtain ⟨j1, hj1, rfl⟩ := isSl_of k1
  have c1 := nI_clamp (show j1 < 2 ^ 31 by omega)
  have b2 := ok j1 hj1
  have b3 := ok.b hj1
  have h5 := pw5 b2.2.1
  have key : (i = -1000000 ∨ ∃ ii, ii < sn j1 ∧ i = nI ii) → ∀ r, r ≤ 2 ^ sn j1 → J g jX8_ones_ 3 (fun v M2 => v = some (.int (nI (cnt (2 ^ sn j1) (fun r => (sT j1).testBit r && (decide (i = -1000000) || r.testBit i.toNatClampNeg))))) ∧ M2 = M) 29 [some (.ref (jA g 34)), some (.int (nI j1)), some (.int i), some (.int (nI (cnt r (fun r => (sT j1).testBit r && (decide (i = -1000000) || r.testBit i.toNatClampNeg))))), some (.int (nI r))] [] M := by
    intro hi
    refine j_for ?_ ?_
    · refine j_iload4 (n := 31) dX8_ones__29 rfl ?_
      refine j_iconst (n := 32) (nI 1) dX8_ones__31 rfl (by decide) ?_
      refine j_aload_n0 (n := 33) dX8_ones__32 rfl ?_
      refine j_get (n := 36) (k := 0) dX8_ones__33 rfl jcl7 (Nat.le_of_ble_eq_true rfl) fl_X8_7 (Nat.le_of_ble_eq_true rfl) (by first | assumption | rfl) (by rfl) ?_
      refine j_iload_n1 (n := 37) dX8_ones__36 rfl ?_
      refine j_iald_n (n := 38) dX8_ones__37 rfl (by first | decide | omega) (by first | assumption | rfl) (by decide) (by first | assumption | omega) ?_
      refine j_ishl (n := 39) dX8_ones__38 rfl ?_
      refine j_topi (nI (2 ^ sn j1)) (ai_shl1 (by omega)) ?_
      refine j_nicmp_ge (n := 42) 86 dX8_ones__39 rfl (by decide) (by omega) (by omega) (fun h => ?_) (fun h => ?_)
      · refine j_iload_n3 (n := 87) dX8_ones__86 rfl ?_
        refine j_iret dX8_ones__87 rfl ?_
        exact ⟨rfl, rfl⟩
      · omega
    · intro r hr ih
      refine j_iload4 (n := 31) dX8_ones__29 rfl ?_
      refine j_iconst (n := 32) (nI 1) dX8_ones__31 rfl (by decide) ?_
      refine j_aload_n0 (n := 33) dX8_ones__32 rfl ?_
      refine j_get (n := 36) (k := 0) dX8_ones__33 rfl jcl7 (Nat.le_of_ble_eq_true rfl) fl_X8_7 (Nat.le_of_ble_eq_true rfl) (by first | assumption | rfl) (by rfl) ?_
      refine j_iload_n1 (n := 37) dX8_ones__36 rfl ?_
      refine j_iald_n (n := 38) dX8_ones__37 rfl (by first | decide | omega) (by first | assumption | rfl) (by decide) (by first | assumption | omega) ?_
      refine j_ishl (n := 39) dX8_ones__38 rfl ?_
      refine j_topi (nI (2 ^ sn j1)) (ai_shl1 (by omega)) ?_
      refine j_nicmp_ge (n := 42) 86 dX8_ones__39 rfl (by decide) (by omega) (by omega) (fun h => ?_) (fun h => ?_)
      · omega
      refine j_iload_n3 (n := 43) dX8_ones__42 rfl ?_
      refine j_aload_n0 (n := 44) dX8_ones__43 rfl ?_
      refine j_get (n := 47) (k := 1) dX8_ones__44 rfl jcl7 (Nat.le_of_ble_eq_true rfl) fl_X8_13 (Nat.le_of_ble_eq_true rfl) (by first | assumption | rfl) (by rfl) ?_
      refine j_iload_n1 (n := 48) dX8_ones__47 rfl ?_
      refine j_lald_n (n := 49) dX8_ones__48 rfl (by first | decide | omega) (by first | assumption | rfl) (by decide) (by first | assumption | omega) ?_
      refine j_iload4 (n := 51) dX8_ones__49 rfl ?_
      refine j_fnS2 (n := 54) (con_X8_is (by omega) (by omega)) dX8_ones__51 rfl cal_X8_is ml_X8_80 (Nat.le_of_ble_eq_true rfl) (Nat.le_of_ble_eq_true rfl) ?_
      refine j_bif_eq (n := 57) 77 dX8_ones__54 rfl (by decide) (fun e => ?_) (fun e => ?_)
      · refine j_iconst (n := 78) (nI 0) dX8_ones__77 rfl (by decide) ?_
        refine j_iadd (n := 79) dX8_ones__78 rfl ?_
        refine j_topi (nI (cnt (r + 1) (fun r => (sT j1).testBit r && (decide (i = -1000000) || r.testBit i.toNatClampNeg)))) (by rw [nI_add]; simp [cnt, e]) ?_
        refine j_istore_n3 (n := 80) dX8_ones__79 rfl (Nat.le_of_ble_eq_true rfl) rfl ?_
        refine j_inc4 (n := 83) dX8_ones__80 rfl (Nat.le_of_ble_eq_true rfl) rfl ?_
        refine j_goto 29 dX8_ones__83 (by decide) ?_
        exact ih
      refine j_iload_n2 (n := 58) dX8_ones__57 rfl ?_
      refine j_ldc (n := 60) dX8_ones__58 rfl cn_X8_112 ?_
      refine j_icmp_eq (n := 63) 73 dX8_ones__60 rfl (by decide) (fun e2 => ?_) (fun e2 => ?_)
      · refine j_iconst (n := 74) (nI 1) dX8_ones__73 rfl (by decide) ?_
        refine j_goto 78 dX8_ones__74 (by decide) ?_
        refine j_iadd (n := 79) dX8_ones__78 rfl ?_
        refine j_topi (nI (cnt (r + 1) (fun r => (sT j1).testBit r && (decide (i = -1000000) || r.testBit i.toNatClampNeg)))) (by rw [nI_add]; simp [cnt, e, e2]) ?_
        refine j_istore_n3 (n := 80) dX8_ones__79 rfl (Nat.le_of_ble_eq_true rfl) rfl ?_
        refine j_inc4 (n := 83) dX8_ones__80 rfl (Nat.le_of_ble_eq_true rfl) rfl ?_
        refine j_goto 29 dX8_ones__83 (by decide) ?_
        exact ih
      rcases hi with hi | ⟨ii, hii, rfl⟩
      · exact absurd hi e2
      have ci := nI_clamp (show ii < 2 ^ 31 by omega)
      refine j_iload4 (n := 65) dX8_ones__63 rfl ?_
      refine j_iload_n2 (n := 66) dX8_ones__65 rfl ?_
      refine j_ishr (n := 67) dX8_ones__66 rfl ?_
      refine j_iconst (n := 68) (nI 1) dX8_ones__67 rfl (by decide) ?_
      refine j_iand (n := 69) dX8_ones__68 rfl ?_
      refine j_topi (nI (if r.testBit ii then 1 else 0)) (by rw [ai_bit (by omega) (by omega), jB_nI]) ?_
      refine j_iconst (n := 70) (nI 1) dX8_ones__69 rfl (by decide) ?_
      have hbb : (if r.testBit ii then 1 else 0) < 2 ^ 31 := by split <;> omega
      refine j_nicmp_ne (n := 73) 77 dX8_ones__70 rfl (by decide) hbb (by omega) (fun e3 => ?_) (fun e3 => ?_)
      · refine j_iconst (n := 78) (nI 0) dX8_ones__77 rfl (by decide) ?_
        refine j_iadd (n := 79) dX8_ones__78 rfl ?_
        have e4 : r.testBit ii = false := by
          cases h : r.testBit ii with
          | false => rfl
          | true => rw [h] at e3; exact absurd rfl e3
        refine j_topi (nI (cnt (r + 1) (fun r => (sT j1).testBit r && (decide (nI ii = -1000000) || r.testBit (nI ii).toNatClampNeg)))) (by rw [nI_add]; simp [cnt, e, e2, ci, e4]) ?_
        refine j_istore_n3 (n := 80) dX8_ones__79 rfl (Nat.le_of_ble_eq_true rfl) rfl ?_
        refine j_inc4 (n := 83) dX8_ones__80 rfl (Nat.le_of_ble_eq_true rfl) rfl ?_
        refine j_goto 29 dX8_ones__83 (by decide) ?_
        exact ih
      · refine j_iconst (n := 74) (nI 1) dX8_ones__73 rfl (by decide) ?_
        refine j_goto 78 dX8_ones__74 (by decide) ?_
        refine j_iadd (n := 79) dX8_ones__78 rfl ?_
        have e4 : r.testBit ii = true := by
          cases h : r.testBit ii with
          | true => rfl
          | false => rw [h] at e3; exact absurd e3 (by decide)
        refine j_topi (nI (cnt (r + 1) (fun r => (sT j1).testBit r && (decide (nI ii = -1000000) || r.testBit (nI ii).toNatClampNeg)))) (by rw [nI_add]; simp [cnt, e, e2, ci, e4]) ?_
        refine j_istore_n3 (n := 80) dX8_ones__79 rfl (Nat.le_of_ble_eq_true rfl) rfl ?_
        refine j_inc4 (n := 83) dX8_ones__80 rfl (Nat.le_of_ble_eq_true rfl) rfl ?_
        refine j_goto 29 dX8_ones__83 (by decide) ?_
        exact ih
  refine j_iload_n2 (n := 8) dX8_ones__7 rfl ?_
  refine j_ldc (n := 10) dX8_ones__8 rfl cn_X8_112 ?_
  refine j_icmp_eq (n := 13) 24 dX8_ones__10 rfl (by decide) (fun e => ?_) (fun e => ?_)
  · refine j_iconst (n := 25) (nI 0) dX8_ones__24 rfl (by decide) ?_
    refine j_istore_n3 (n := 26) dX8_ones__25 rfl (Nat.le_of_ble_eq_true rfl) rfl ?_
    refine j_iconst (n := 27) (nI 0) dX8_ones__26 rfl (by decide) ?_
    refine j_istore4 (n := 29) dX8_ones__27 rfl (Nat.le_of_ble_eq_true rfl) rfl ?_
    have hs : sp_ones sn sT (nI j1) i = nI (cnt (2 ^ sn j1) (fun r => (sT j1).testBit r && (decide (i = -1000000) || r.testBit i.toNatClampNeg))) := by
      simp [sp_ones, k1, c1, e]
    rw [hs]
    exact key (Or.inl e) 0 (Nat.zero_le _)
  refine j_aload_n0 (n := 14) dX8_ones__13 rfl ?_
  refine j_iload_n1 (n := 15) dX8_ones__14 rfl ?_
  refine j_iload_n2 (n := 16) dX8_ones__15 rfl ?_
  refine j_fnV2 (n := 19) (con_X8_isInput h34 h35 hj1) dX8_ones__16 rfl cal_X8_isInput ml_X8_113 (Nat.le_of_ble_eq_true rfl) (by first | decide | omega) rfl rfl (Nat.le_of_ble_eq_true rfl) (by first | assumption | rfl) ?_
  refine j_bif_ne (n := 22) 24 dX8_ones__19 rfl (by decide) (fun k3 => ?_) (fun k3 => ?_)
  · refine j_iconst (n := 25) (nI 0) dX8_ones__24 rfl (by decide) ?_
    refine j_istore_n3 (n := 26) dX8_ones__25 rfl (Nat.le_of_ble_eq_true rfl) rfl ?_
    refine j_iconst (n := 27) (nI 0) dX8_ones__26 rfl (by decide) ?_
    refine j_istore4 (n := 29) dX8_ones__27 rfl (Nat.le_of_ble_eq_true rfl) rfl ?_
    have hs : sp_ones sn sT (nI j1) i = nI (cnt (2 ^ sn j1) (fun r => (sT j1).testBit r && (decide (i = -1000000) || r.testBit i.toNatClampNeg))) := by
      simp [sp_ones, k1, c1, e, k3]
    rw [hs]
    exact key (Or.inr (isIn_of b2.1 b2.2.1 k3)) 0 (Nat.zero_le _)
  · refine j_iconst (n := 23) (-1) dX8_ones__22 rfl (by decide) ?_
    refine j_iret dX8_ones__23 rfl ?_
    simp [sp_ones, k1, c1, e, k3]
