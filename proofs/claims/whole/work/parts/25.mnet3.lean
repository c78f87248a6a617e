theorem mneg1 : ∀ o, o < 8 → (nI o = (-1 : Int32) ↔ o = 99) := by decide +kernel
theorem and_all {T n : Nat} (h : T < 2 ^ 2 ^ n) : T &&& (2 ^ 2 ^ n - 1) = T := by
  rw [Nat.and_two_pow_sub_one_eq_mod]
  exact Nat.mod_eq_of_lt h
def sp_tell (sn sT : Nat → Nat) (ni ng : Nat) (W : Nat → Nat → Int) (B : Nat → Int) (s o : Int32) : Int32 × sR :=
  if isSl s = false then (-1, sn, sT) else if isGt ng o = false then (-1, sn, sT)
  else (nI (cnt 32 (nTab ni W B 99 false ng o.toNatClampNeg).testBit), va_up sn s.toNatClampNeg ni, va_up sT s.toNatClampNeg (nTab ni W B 99 false ng o.toNatClampNeg))
set_option maxRecDepth 100000 in
theorem con_X8_tell {g : jG} {M : jMem} {q : jMq} {ni ng : Nat} {wk nw nb : Nat → Int32} {W : Nat → Nat → Int} {B : Nat → Int} {sn sT : Nat → Nat} (h34 : M 34 = .inr (7, oMod g (qN q ni ng))) (h35 : M 35 = iA g 8 fun j => nI (sn j)) (h36 : M 36 = lA g 8 fun j => lN (sT j)) (h50 : M 50 = iA g 8 wk) (h48 : M 48 = iA g 96 nw) (h49 : M 49 = iA g 8 nb) (hni : ni ≤ 4) (hng : ng ≤ 8) (hWB : nWB ng W B nw nb) {s o : Int32} : Con g jX8_tell 3 [.ref (jA g 34), .int s, .int o] M (fun v M2 => v = some (.int (sp_tell sn sT ni ng W B s o).1) ∧ ∃ wk2, M2 = setM g 35 (va_up M 50 (iA g 8 wk2)) (sp_tell sn sT ni ng W B s o).2.1 (sp_tell sn sT ni ng W B s o).2.2) := by
  have hid := setM_id h35 h36
  have h16 : 2 ^ ni ≤ 2 ^ 4 := Nat.pow_le_pow_right (by omega) hni
  have h216 : 2 ^ 2 ^ ni ≤ 2 ^ 2 ^ 4 := Nat.pow_le_pow_right (by omega) h16
  refine con_of (l := [some (.ref (jA g 34)), some (.int s), some (.int o)]) (by decide) (Nat.le_of_ble_eq_true rfl) rfl ?_
  refine j_iload_n1 (n := 1) dX8_tell_0 rfl ?_
  refine j_fnS1 (n := 4) con_X8_isSlot dX8_tell_1 rfl cal_X8_isSlot ml_X8_88 (Nat.le_of_ble_eq_true rfl) (Nat.le_of_ble_eq_true rfl) ?_
  refine j_bif_eq (n := 7) 15 dX8_tell_4 rfl (by decide) (fun k1 => ?_) (fun k1 => ?_)
  · refine j_iconst (n := 16) (-1) dX8_tell_15 rfl (by decide) ?_
    refine j_iret dX8_tell_16 rfl ?_
    refine ⟨by simp [sp_tell, k1], wk, ?_⟩
    rw [va_self h50]
    simp [sp_tell, k1, hid]
  refine j_aload_n0 (n := 8) dX8_tell_7 rfl ?_
  refine j_iload_n2 (n := 9) dX8_tell_8 rfl ?_
  refine j_fnV1 (n := 12) (con_X8_isNetGate h34) dX8_tell_9 rfl cal_X8_isNetGate ml_X8_213 (Nat.le_of_ble_eq_true rfl) (by first | decide | omega) rfl rfl (Nat.le_of_ble_eq_true rfl) (by first | assumption | rfl) ?_
  refine j_bif_ne (n := 15) 17 dX8_tell_12 rfl (by decide) (fun k2 => ?_) (fun k2 => ?_)
  rotate_left
  · refine j_iconst (n := 16) (-1) dX8_tell_15 rfl (by decide) ?_
    refine j_iret dX8_tell_16 rfl ?_
    refine ⟨by simp [sp_tell, k1, k2], wk, ?_⟩
    rw [va_self h50]
    simp [sp_tell, k1, k2, hid]
  obtain ⟨j, hj, rfl⟩ := isSl_of k1
  obtain ⟨o, ho, rfl⟩ := isGt_of (by omega) k2
  have c1 := nI_clamp (show j < 2 ^ 31 by omega)
  have c2 := nI_clamp (show o < 2 ^ 31 by omega)
  have hs : sp_tell sn sT ni ng W B (nI j) (nI o) = (nI (cnt 32 (nTab ni W B 99 false ng o).testBit), va_up sn j ni, va_up sT j (nTab ni W B 99 false ng o)) := by
    simp [sp_tell, k1, k2, c1, c2]
  rw [hs]
  have hT := nTab_lt (ni := ni) (W := W) (B := B) (hg := 99) (b := false) ng o
  refine j_aload_n0 (n := 18) dX8_tell_17 rfl ?_
  refine j_iconst (n := 19) (-1) dX8_tell_18 rfl (by decide) ?_
  refine j_iconst (n := 20) (nI 0) dX8_tell_19 rfl (by decide) ?_
  refine j_cV2 (n := 23) (con_X8_work h34 h50 h48 h49 hni hng hWB (hv := -1) (hg := 99) (b := false) mneg1) dX8_tell_20 rfl cal_X8_work ml_X8_216 (Nat.le_of_ble_eq_true rfl) (by first | decide | omega) rfl rfl (Nat.le_of_ble_eq_true rfl) (by first | assumption | rfl) ?_
  rintro _ M2 ⟨rfl, wk2, rfl, hw⟩
  refine j_aload_n0 (n := 24) dX8_tell_23 rfl ?_
  refine j_iload_n1 (n := 25) dX8_tell_24 rfl ?_
  refine j_aload_n0 (n := 26) dX8_tell_25 rfl ?_
  refine j_get (n := 29) (k := 19) dX8_tell_26 rfl jcl7 (Nat.le_of_ble_eq_true rfl) fl_X8_55 (Nat.le_of_ble_eq_true rfl) (by first | assumption | rfl) (by rfl) ?_
  refine j_aload_n0 (n := 30) dX8_tell_29 rfl ?_
  refine j_get (n := 33) (k := 24) dX8_tell_30 rfl jcl7 (Nat.le_of_ble_eq_true rfl) fl_X8_68 (Nat.le_of_ble_eq_true rfl) (by first | assumption | rfl) (by rfl) ?_
  refine j_iload_n2 (n := 34) dX8_tell_33 rfl ?_
  refine j_iald_n (n := 35) dX8_tell_34 rfl (by first | decide | omega) (by first | assumption | rfl) (by decide) (by first | assumption | omega) ?_
  rw [hw o ho]
  refine j_i2l (n := 36) dX8_tell_35 rfl ?_
  refine j_aload_n0 (n := 37) dX8_tell_36 rfl ?_
  refine j_get (n := 40) (k := 19) dX8_tell_37 rfl jcl7 (Nat.le_of_ble_eq_true rfl) fl_X8_55 (Nat.le_of_ble_eq_true rfl) (by first | assumption | rfl) (by rfl) ?_
  refine j_fnS1 (n := 43) (con_X8_whole (by omega)) dX8_tell_40 rfl cal_X8_whole ml_X8_94 (Nat.le_of_ble_eq_true rfl) (Nat.le_of_ble_eq_true rfl) ?_
  refine j_land (n := 44) dX8_tell_43 rfl ?_
  refine j_topl (lN (nTab ni W B 99 false ng o)) ?_ ?_
  · rw [nI_l (by omega), fb_andL, and_all hT]
  refine j_cV3 (n := 47) (con_X8_set (q := qN q ni ng) (M := va_up M 50 (iA g 8 wk2)) h34 h35 h36 hj (n := ni) (by omega)) dX8_tell_44 rfl cal_X8_set ml_X8_98 (Nat.le_of_ble_eq_true rfl) (by first | decide | omega) rfl rfl (Nat.le_of_ble_eq_true rfl) (by first | assumption | rfl) ?_
  rintro _ M3 ⟨rfl, rfl⟩
  refine j_iret dX8_tell_47 rfl ?_
  exact ⟨rfl, wk2, rfl⟩
def sp_unlike (sn sT : Nat → Nat) (ni ng : Nat) (W : Nat → Nat → Int) (B : Nat → Int) (s : Int32) : Int32 :=
  if isSl s = false then -1 else if ng = 0 then -3 else if ¬ sn s.toNatClampNeg = ni then -3
  else if fa_first (fun r => (sT s.toNatClampNeg).testBit r != (nTab ni W B 99 false ng (ng - 1)).testBit r) (2 ^ ni) < 2 ^ ni then nI (fa_first (fun r => (sT s.toNatClampNeg).testBit r != (nTab ni W B 99 false ng (ng - 1)).testBit r) (2 ^ ni)) else -1000000
theorem first_at {p : Nat → Bool} {r : Nat} (h : ∀ j, j < r → p j = false) (hr : p r = true) : ∀ n, r < n → fa_first p n = r := by
  intro n hn
  have h1 := fa_first_le p n
  rcases Nat.lt_trichotomy (fa_first p n) r with q | q | q
  · have := fa_first_yes p n (by omega)
    rw [h _ q] at this
    cases this
  · exact q
  · have := fa_first_no p n r q
    rw [hr] at this
    cases this
theorem first_no {p : Nat → Bool} {n : Nat} (h : ∀ j, j < n → p j = false) : ¬ fa_first p n < n := by
  intro q
  have := fa_first_yes p n q
  rw [h _ q] at this
  cases this
set_option maxRecDepth 100000 in
theorem con_X8_unlike {g : jG} {M : jMem} {q : jMq} {ni ng : Nat} {wk nw nb : Nat → Int32} {W : Nat → Nat → Int} {B : Nat → Int} {sn sT : Nat → Nat} (h34 : M 34 = .inr (7, oMod g (qN q ni ng))) (h35 : M 35 = iA g 8 fun j => nI (sn j)) (h36 : M 36 = lA g 8 fun j => lN (sT j)) (ok : slOK sn sT) (h50 : M 50 = iA g 8 wk) (h48 : M 48 = iA g 96 nw) (h49 : M 49 = iA g 8 nb) (hni : ni ≤ 4) (hng : ng ≤ 8) (hWB : nWB ng W B nw nb) {s : Int32} : Con g jX8_unlike 3 [.ref (jA g 34), .int s] M (fun v M2 => v = some (.int (sp_unlike sn sT ni ng W B s)) ∧ ∃ wk2, M2 = va_up M 50 (iA g 8 wk2)) := by
  have h16 : 2 ^ ni ≤ 2 ^ 4 := Nat.pow_le_pow_right (by omega) hni
  have h216 : 2 ^ 2 ^ ni ≤ 2 ^ 2 ^ 4 := Nat.pow_le_pow_right (by omega) h16
  refine con_of (l := [some (.ref (jA g 34)), some (.int s), none]) (by decide) (Nat.le_of_ble_eq_true rfl) rfl ?_
  refine j_iload_n1 (n := 1) dX8_unlike_0 rfl ?_
  refine j_fnS1 (n := 4) con_X8_isSlot dX8_unlike_1 rfl cal_X8_isSlot ml_X8_88 (Nat.le_of_ble_eq_true rfl) (Nat.le_of_ble_eq_true rfl) ?_
  refine j_bif_ne (n := 7) 9 dX8_unlike_4 rfl (by decide) (fun k1 => ?_) (fun k1 => ?_)
  rotate_left
  · refine j_iconst (n := 8) (-1) dX8_unlike_7 rfl (by decide) ?_
    refine j_iret dX8_unlike_8 rfl ?_
    exact ⟨by simp [sp_unlike, k1], wk, (va_self h50).symm⟩
  obtain ⟨j, hj, rfl⟩ := isSl_of k1
  have c1 := nI_clamp (show j < 2 ^ 31 by omega)
  have b2 := ok j hj
  have b3 := ok.b hj
  refine j_aload_n0 (n := 10) dX8_unlike_9 rfl ?_
  refine j_get (n := 13) (k := 20) dX8_unlike_10 rfl jcl7 (Nat.le_of_ble_eq_true rfl) fl_X8_202 (Nat.le_of_ble_eq_true rfl) (by first | assumption | rfl) (by rfl) ?_
  refine j_if_eq (n := 16) 29 dX8_unlike_13 rfl (by decide) (fun e0 => ?_) (fun e0 => ?_)
  · have e1 : ng = 0 := (nI_eq (by omega) (by omega)).mp e0
    refine j_bipush (n := 31) (-3) dX8_unlike_29 rfl (by decide) ?_
    refine j_iret dX8_unlike_31 rfl ?_
    exact ⟨by simp [sp_unlike, k1, e1], wk, (va_self h50).symm⟩
  have e1 : ¬ ng = 0 := fun z => e0 (by rw [z]; rfl)
  refine j_aload_n0 (n := 17) dX8_unlike_16 rfl ?_
  refine j_get (n := 20) (k := 0) dX8_unlike_17 rfl jcl7 (Nat.le_of_ble_eq_true rfl) fl_X8_7 (Nat.le_of_ble_eq_true rfl) (by first | assumption | rfl) (by rfl) ?_
  refine j_iload_n1 (n := 21) dX8_unlike_20 rfl ?_
  refine j_iald_n (n := 22) dX8_unlike_21 rfl (by first | decide | omega) (by first | assumption | rfl) (by decide) (by first | assumption | omega) ?_
  refine j_aload_n0 (n := 23) dX8_unlike_22 rfl ?_
  refine j_get (n := 26) (k := 19) dX8_unlike_23 rfl jcl7 (Nat.le_of_ble_eq_true rfl) fl_X8_55 (Nat.le_of_ble_eq_true rfl) (by first | assumption | rfl) (by rfl) ?_
  refine j_nicmp_eq (a := sn j) (b := ni) (n := 29) 32 dX8_unlike_26 rfl (by decide) (by omega) (by omega) (fun e2 => ?_) (fun e2 => ?_)
  rotate_left
  · refine j_bipush (n := 31) (-3) dX8_unlike_29 rfl (by decide) ?_
    refine j_iret dX8_unlike_31 rfl ?_
    exact ⟨by simp [sp_unlike, k1, e1, c1, e2], wk, (va_self h50).symm⟩
  refine j_aload_n0 (n := 33) dX8_unlike_32 rfl ?_
  refine j_iconst (n := 34) (-1) dX8_unlike_33 rfl (by decide) ?_
  refine j_iconst (n := 35) (nI 0) dX8_unlike_34 rfl (by decide) ?_
  refine j_cV2 (n := 38) (con_X8_work h34 h50 h48 h49 hni hng hWB (hv := -1) (hg := 99) (b := false) mneg1) dX8_unlike_35 rfl cal_X8_work ml_X8_216 (Nat.le_of_ble_eq_true rfl) (by first | decide | omega) rfl rfl (Nat.le_of_ble_eq_true rfl) (by first | assumption | rfl) ?_
  rintro _ M2 ⟨rfl, wk2, rfl, hw⟩
  refine j_iconst (n := 39) (nI 0) dX8_unlike_38 rfl (by decide) ?_
  refine j_istore_n2 (n := 40) dX8_unlike_39 rfl (Nat.le_of_ble_eq_true rfl) rfl ?_
  have hT := nTab_lt (ni := ni) (W := W) (B := B) (hg := 99) (b := false) ng (ng - 1)
  have hs : sp_unlike sn sT ni ng W B (nI j) = if fa_first (fun r => (sT j).testBit r != (nTab ni W B 99 false ng (ng - 1)).testBit r) (2 ^ ni) < 2 ^ ni then nI (fa_first (fun r => (sT j).testBit r != (nTab ni W B 99 false ng (ng - 1)).testBit r) (2 ^ ni)) else -1000000 := by
    simp [sp_unlike, k1, e1, c1, e2]
  rw [hs]
  have key : ∀ r, r ≤ 2 ^ ni → (∀ j2, j2 < r → ((sT j).testBit j2 != (nTab ni W B 99 false ng (ng - 1)).testBit j2) = false) → J g jX8_unlike 3 (fun v M2 => v = some (.int (if fa_first (fun r => (sT j).testBit r != (nTab ni W B 99 false ng (ng - 1)).testBit r) (2 ^ ni) < 2 ^ ni then nI (fa_first (fun r => (sT j).testBit r != (nTab ni W B 99 false ng (ng - 1)).testBit r) (2 ^ ni)) else -1000000)) ∧ ∃ wk2, M2 = va_up M 50 (iA g 8 wk2)) 40 [some (.ref (jA g 34)), some (.int (nI j)), some (.int (nI r))] [] (va_up M 50 (iA g 8 wk2)) := by
    refine j_for ?_ ?_
    · intro hno
      refine j_iload_n2 (n := 41) dX8_unlike_40 rfl ?_
      refine j_iconst (n := 42) (nI 1) dX8_unlike_41 rfl (by decide) ?_
      refine j_aload_n0 (n := 43) dX8_unlike_42 rfl ?_
      refine j_get (n := 46) (k := 19) dX8_unlike_43 rfl jcl7 (Nat.le_of_ble_eq_true rfl) fl_X8_55 (Nat.le_of_ble_eq_true rfl) (by first | assumption | rfl) (by rfl) ?_
      refine j_ishl (n := 47) dX8_unlike_46 rfl ?_
      refine j_topi (nI (2 ^ ni)) (ai_shl1 (by omega)) ?_
      refine j_nicmp_ge (n := 50) 95 dX8_unlike_47 rfl (by decide) (by omega) (by omega) (fun h => ?_) (fun h => ?_)
      rotate_left
      · omega
      refine j_ldc (n := 97) dX8_unlike_95 rfl cn_X8_112 ?_
      refine j_iret dX8_unlike_97 rfl ?_
      exact ⟨by rw [if_neg (first_no hno)], wk2, rfl⟩
    · intro r hr ih hno
      refine j_iload_n2 (n := 41) dX8_unlike_40 rfl ?_
      refine j_iconst (n := 42) (nI 1) dX8_unlike_41 rfl (by decide) ?_
      refine j_aload_n0 (n := 43) dX8_unlike_42 rfl ?_
      refine j_get (n := 46) (k := 19) dX8_unlike_43 rfl jcl7 (Nat.le_of_ble_eq_true rfl) fl_X8_55 (Nat.le_of_ble_eq_true rfl) (by first | assumption | rfl) (by rfl) ?_
      refine j_ishl (n := 47) dX8_unlike_46 rfl ?_
      refine j_topi (nI (2 ^ ni)) (ai_shl1 (by omega)) ?_
      refine j_nicmp_ge (n := 50) 95 dX8_unlike_47 rfl (by decide) (by omega) (by omega) (fun h => ?_) (fun h => ?_)
      · omega
      refine j_aload_n0 (n := 51) dX8_unlike_50 rfl ?_
      refine j_get (n := 54) (k := 1) dX8_unlike_51 rfl jcl7 (Nat.le_of_ble_eq_true rfl) fl_X8_13 (Nat.le_of_ble_eq_true rfl) (by first | assumption | rfl) (by rfl) ?_
      refine j_iload_n1 (n := 55) dX8_unlike_54 rfl ?_
      refine j_lald_n (n := 56) dX8_unlike_55 rfl (by first | decide | omega) (by first | assumption | rfl) (by decide) (by first | assumption | omega) ?_
      refine j_iload_n2 (n := 57) dX8_unlike_56 rfl ?_
      refine j_fnS2 (n := 60) (con_X8_is (by omega) (by omega)) dX8_unlike_57 rfl cal_X8_is ml_X8_80 (Nat.le_of_ble_eq_true rfl) (Nat.le_of_ble_eq_true rfl) ?_
      refine j_aload_n0 (n := 61) dX8_unlike_60 rfl ?_
      refine j_get (n := 64) (k := 24) dX8_unlike_61 rfl jcl7 (Nat.le_of_ble_eq_true rfl) fl_X8_68 (Nat.le_of_ble_eq_true rfl) (by first | assumption | rfl) (by rfl) ?_
      refine j_aload_n0 (n := 65) dX8_unlike_64 rfl ?_
      refine j_get (n := 68) (k := 20) dX8_unlike_65 rfl jcl7 (Nat.le_of_ble_eq_true rfl) fl_X8_202 (Nat.le_of_ble_eq_true rfl) (by first | assumption | rfl) (by rfl) ?_
      refine j_iconst (n := 69) (nI 1) dX8_unlike_68 rfl (by decide) ?_
      refine j_isub (n := 70) dX8_unlike_69 rfl ?_
      refine j_topi (nI (ng - 1)) (pk_sub (by omega)) ?_
      refine j_iald_n (n := 71) dX8_unlike_70 rfl (by first | decide | omega) (by first | assumption | rfl) (by decide) (by first | assumption | omega) ?_
      rw [hw (ng - 1) (by omega)]
      refine j_iload_n2 (n := 72) dX8_unlike_71 rfl ?_
      refine j_ishr (n := 73) dX8_unlike_72 rfl ?_
      refine j_iconst (n := 74) (nI 1) dX8_unlike_73 rfl (by decide) ?_
      refine j_iand (n := 75) dX8_unlike_74 rfl ?_
      refine j_topi (jB ((nTab ni W B 99 false ng (ng - 1)).testBit r)) (ai_bit (by omega) (by omega)) ?_
      refine j_iconst (n := 76) (nI 1) dX8_unlike_75 rfl (by decide) ?_
      have fin : ∀ c : Bool, (nTab ni W B 99 false ng (ng - 1)).testBit r = c → J g jX8_unlike 3 (fun v M2 => v = some (.int (if fa_first (fun r => (sT j).testBit r != (nTab ni W B 99 false ng (ng - 1)).testBit r) (2 ^ ni) < 2 ^ ni then nI (fa_first (fun r => (sT j).testBit r != (nTab ni W B 99 false ng (ng - 1)).testBit r) (2 ^ ni)) else -1000000)) ∧ ∃ wk2, M2 = va_up M 50 (iA g 8 wk2)) 84 [some (.ref (jA g 34)), some (.int (nI j)), some (.int (nI r))] [.int (jB c), .int (jB ((sT j).testBit r))] (va_up M 50 (iA g 8 wk2)) := by
        intro c hc
        refine j_bb_eq (n := 87) 89 dX8_unlike_84 rfl (by decide) (fun e => ?_) (fun e => ?_)
        · refine j_inc2 (n := 92) dX8_unlike_89 rfl (Nat.le_of_ble_eq_true rfl) rfl ?_
          refine j_goto 40 dX8_unlike_92 (by decide) ?_
          refine ih (fun j2 hj2 => ?_)
          by_cases q : j2 = r
          · rw [q, hc, e]
            simp
          · exact hno j2 (by omega)
        · refine j_iload_n2 (n := 88) dX8_unlike_87 rfl ?_
          refine j_iret dX8_unlike_88 rfl ?_
          have hd : ((sT j).testBit r != (nTab ni W B 99 false ng (ng - 1)).testBit r) = true := by rw [hc]; simp [e]
          rw [first_at hno hd _ hr, if_pos hr]
          exact ⟨rfl, wk2, rfl⟩
      refine j_b1_ne (n := 79) 83 dX8_unlike_76 rfl (by decide) (fun e4 => ?_) (fun e4 => ?_)
      · refine j_iconst (n := 84) (nI 0) dX8_unlike_83 rfl (by decide) ?_
        exact fin false e4
      · refine j_iconst (n := 80) (nI 1) dX8_unlike_79 rfl (by decide) ?_
        refine j_goto 84 dX8_unlike_80 (by decide) ?_
        exact fin true e4
  exact key 0 (Nat.zero_le _) (fun j2 h => absurd h (Nat.not_lt_zero j2))
def sp_idle (ni ng : Nat) (W : Nat → Nat → Int) (B : Nat → Int) (o : Int32) (is : Bool) : Int32 :=
  if isGt ng o = false then -1 else jB (decide (nTab ni W B o.toNatClampNeg is ng (ng - 1) = nTab ni W B 99 false ng (ng - 1)))
set_option maxRecDepth 100000 in
theorem con_X8_idle {g : jG} {M : jMem} {q : jMq} {ni ng : Nat} {wk nw nb : Nat → Int32} {W : Nat → Nat → Int} {B : Nat → Int} (h34 : M 34 = .inr (7, oMod g (qN q ni ng))) (h50 : M 50 = iA g 8 wk) (h48 : M 48 = iA g 96 nw) (h49 : M 49 = iA g 8 nb) (hni : ni ≤ 4) (hng : ng ≤ 8) (hWB : nWB ng W B nw nb) {o : Int32} {is : Bool} : Con g jX8_idle 3 [.ref (jA g 34), .int o, .int (jB is)] M (fun v M2 => v = some (.int (sp_idle ni ng W B o is)) ∧ ∃ wk2, M2 = va_up M 50 (iA g 8 wk2)) := by
  have h16 : 2 ^ ni ≤ 2 ^ 4 := Nat.pow_le_pow_right (by omega) hni
  have h216 : 2 ^ 2 ^ ni ≤ 2 ^ 2 ^ 4 := Nat.pow_le_pow_right (by omega) h16
  refine con_of (l := [some (.ref (jA g 34)), some (.int o), some (.int (jB is)), none]) (by decide) (Nat.le_of_ble_eq_true rfl) rfl ?_
  refine j_aload_n0 (n := 1) dX8_idle_0 rfl ?_
  refine j_iload_n1 (n := 2) dX8_idle_1 rfl ?_
  refine j_fnV1 (n := 5) (con_X8_isNetGate h34) dX8_idle_2 rfl cal_X8_isNetGate ml_X8_213 (Nat.le_of_ble_eq_true rfl) (by first | decide | omega) rfl rfl (Nat.le_of_ble_eq_true rfl) (by first | assumption | rfl) ?_
  refine j_bif_ne (n := 8) 10 dX8_idle_5 rfl (by decide) (fun k1 => ?_) (fun k1 => ?_)
  rotate_left
  · refine j_iconst (n := 9) (-1) dX8_idle_8 rfl (by decide) ?_
    refine j_iret dX8_idle_9 rfl ?_
    exact ⟨by simp [sp_idle, k1], wk, (va_self h50).symm⟩
  obtain ⟨o, ho, rfl⟩ := isGt_of (by omega) k1
  have c1 := nI_clamp (show o < 2 ^ 31 by omega)
  have hs : sp_idle ni ng W B (nI o) is = jB (decide (nTab ni W B o is ng (ng - 1) = nTab ni W B 99 false ng (ng - 1))) := by
    simp [sp_idle, k1, c1]
  rw [hs]
  refine j_aload_n0 (n := 11) dX8_idle_10 rfl ?_
  refine j_iconst (n := 12) (-1) dX8_idle_11 rfl (by decide) ?_
  refine j_iconst (n := 13) (nI 0) dX8_idle_12 rfl (by decide) ?_
  refine j_cV2 (n := 16) (con_X8_work h34 h50 h48 h49 hni hng hWB (hv := -1) (hg := 99) (b := false) mneg1) dX8_idle_13 rfl cal_X8_work ml_X8_216 (Nat.le_of_ble_eq_true rfl) (by first | decide | omega) rfl rfl (Nat.le_of_ble_eq_true rfl) (by first | assumption | rfl) ?_
  rintro _ M2 ⟨rfl, wk2, rfl, hw⟩
  refine j_aload_n0 (n := 17) dX8_idle_16 rfl ?_
  refine j_get (n := 20) (k := 24) dX8_idle_17 rfl jcl7 (Nat.le_of_ble_eq_true rfl) fl_X8_68 (Nat.le_of_ble_eq_true rfl) (by first | assumption | rfl) (by rfl) ?_
  refine j_aload_n0 (n := 21) dX8_idle_20 rfl ?_
  refine j_get (n := 24) (k := 20) dX8_idle_21 rfl jcl7 (Nat.le_of_ble_eq_true rfl) fl_X8_202 (Nat.le_of_ble_eq_true rfl) (by first | assumption | rfl) (by rfl) ?_
  refine j_iconst (n := 25) (nI 1) dX8_idle_24 rfl (by decide) ?_
  refine j_isub (n := 26) dX8_idle_25 rfl ?_
  refine j_topi (nI (ng - 1)) (pk_sub (by omega)) ?_
  refine j_iald_n (n := 27) dX8_idle_26 rfl (by first | decide | omega) (by first | assumption | rfl) (by decide) (by first | assumption | omega) ?_
  rw [hw (ng - 1) (by omega)]
  refine j_istore_n3 (n := 28) dX8_idle_27 rfl (Nat.le_of_ble_eq_true rfl) rfl ?_
  refine j_aload_n0 (n := 29) dX8_idle_28 rfl ?_
  refine j_iload_n1 (n := 30) dX8_idle_29 rfl ?_
  refine j_iload_n2 (n := 31) dX8_idle_30 rfl ?_
  have hT := nTab_lt (ni := ni) (W := W) (B := B) (hg := 99) (b := false) ng (ng - 1)
  have hT2 := nTab_lt (ni := ni) (W := W) (B := B) (hg := o) (b := is) ng (ng - 1)
  have hh : ∀ p, p < 8 → (nI p = nI o ↔ p = o) := fun p hp => nI_eq (by omega) (by omega)
  have fin : J g jX8_idle 3 (fun v M2 => v = some (.int (jB (decide (nTab ni W B o is ng (ng - 1) = nTab ni W B 99 false ng (ng - 1))))) ∧ ∃ wk2, M2 = va_up M 50 (iA g 8 wk2)) 39 [some (.ref (jA g 34)), some (.int (nI o)), some (.int (jB is)), some (.int (nI (nTab ni W B 99 false ng (ng - 1))))] [.int (jB is), .int (nI o), .ref (jA g 34)] (va_up M 50 (iA g 8 wk2)) := by
    refine j_cV2 (n := 42) (con_X8_work (M := va_up M 50 (iA g 8 wk2)) (wk := wk2) h34 rfl h48 h49 hni hng hWB (hv := nI o) (hg := o) (b := is) hh) dX8_idle_39 rfl cal_X8_work ml_X8_216 (Nat.le_of_ble_eq_true rfl) (by first | decide | omega) rfl rfl (Nat.le_of_ble_eq_true rfl) (by first | assumption | rfl) ?_
    rintro _ M3 ⟨rfl, wk3, rfl, hw3⟩
    rw [va_uu]
    refine j_aload_n0 (n := 43) dX8_idle_42 rfl ?_
    refine j_get (n := 46) (k := 24) dX8_idle_43 rfl jcl7 (Nat.le_of_ble_eq_true rfl) fl_X8_68 (Nat.le_of_ble_eq_true rfl) (by first | assumption | rfl) (by rfl) ?_
    refine j_aload_n0 (n := 47) dX8_idle_46 rfl ?_
    refine j_get (n := 50) (k := 20) dX8_idle_47 rfl jcl7 (Nat.le_of_ble_eq_true rfl) fl_X8_202 (Nat.le_of_ble_eq_true rfl) (by first | assumption | rfl) (by rfl) ?_
    refine j_iconst (n := 51) (nI 1) dX8_idle_50 rfl (by decide) ?_
    refine j_isub (n := 52) dX8_idle_51 rfl ?_
    refine j_topi (nI (ng - 1)) (pk_sub (by omega)) ?_
    refine j_iald_n (n := 53) dX8_idle_52 rfl (by first | decide | omega) (by first | assumption | rfl) (by decide) (by first | assumption | omega) ?_
    rw [hw3 (ng - 1) (by omega)]
    refine j_iload_n3 (n := 54) dX8_idle_53 rfl ?_
    refine j_nicmp_ne (n := 57) 61 dX8_idle_54 rfl (by decide) (by omega) (by omega) (fun e => ?_) (fun e => ?_)
    · refine j_iconst (n := 62) (nI 0) dX8_idle_61 rfl (by decide) ?_
      refine j_iret dX8_idle_62 rfl ?_
      exact ⟨by simp [e, jB]; rfl, wk3, rfl⟩
    · refine j_iconst (n := 58) (nI 1) dX8_idle_57 rfl (by decide) ?_
      refine j_goto 62 dX8_idle_58 (by decide) ?_
      refine j_iret dX8_idle_62 rfl ?_
      exact ⟨by simp [e, jB]; rfl, wk3, rfl⟩
  refine j_bif_eq (n := 34) 38 dX8_idle_31 rfl (by decide) (fun e => ?_) (fun e => ?_)
  · refine j_iconst (n := 39) (nI 0) dX8_idle_38 rfl (by decide) ?_
    subst e
    exact fin
  · refine j_iconst (n := 35) (nI 1) dX8_idle_34 rfl (by decide) ?_
    refine j_goto 39 dX8_idle_35 (by decide) ?_
    subst e
    exact fin
def sp_count (ni ng : Nat) (w : Int32) : Int32 := if w = 0 then nI ni else if w = 1 then nI ng else -2
set_option maxRecDepth 100000 in
theorem con_X8_count {g : jG} {M : jMem} {q : jMq} {ni ng : Nat} (h34 : M 34 = .inr (7, oMod g (qN q ni ng))) {w : Int32} : Fn g jX8_count 0 [.ref (jA g 34), .int w] M (.int (sp_count ni ng w)) := by
  refine con_of (l := [some (.ref (jA g 34)), some (.int w)]) (by decide) (Nat.le_of_ble_eq_true rfl) rfl ?_
  refine j_iload_n1 (n := 1) dX8_count_0 rfl ?_
  refine j_if_ne (n := 4) 11 dX8_count_1 rfl (by decide) (fun e => ?_) (fun e => ?_)
  · refine j_iload_n1 (n := 12) dX8_count_11 rfl ?_
    refine j_iconst (n := 13) (nI 1) dX8_count_12 rfl (by decide) ?_
    refine j_icmp_ne (n := 16) 23 dX8_count_13 rfl (by decide) (fun e2 => ?_) (fun e2 => ?_)
    · refine j_bipush (n := 25) (-2) dX8_count_23 rfl (by decide) ?_
      refine j_iret dX8_count_25 rfl ?_
      have e3 : ¬ w = 1 := e2
      simp [sp_count, e, e3]
    · refine j_aload_n0 (n := 17) dX8_count_16 rfl ?_
      refine j_get (n := 20) (k := 20) dX8_count_17 rfl jcl7 (Nat.le_of_ble_eq_true rfl) fl_X8_202 (Nat.le_of_ble_eq_true rfl) (by first | assumption | rfl) (by rfl) ?_
      refine j_goto 25 dX8_count_20 (by decide) ?_
      refine j_iret dX8_count_25 rfl ?_
      have e3 : w = 1 := e2
      simp [sp_count, e, e3]
      rfl
  · refine j_aload_n0 (n := 5) dX8_count_4 rfl ?_
    refine j_get (n := 8) (k := 19) dX8_count_5 rfl jcl7 (Nat.le_of_ble_eq_true rfl) fl_X8_55 (Nat.le_of_ble_eq_true rfl) (by first | assumption | rfl) (by rfl) ?_
    refine j_goto 25 dX8_count_8 (by decide) ?_
    refine j_iret dX8_count_25 rfl ?_
    simp [sp_count, e]
    rfl
def sp_depth (ni ng : Nat) (W : Nat → Nat → Int) (o : Int32) : Int32 := if isGt ng o = false then -1 else nI (nDep ni W ng o.toNatClampNeg)
set_option maxRecDepth 100000 in
theorem con_X8_depth {g : jG} {M : jMem} {q : jMq} {ni ng : Nat} {dp nw nb : Nat → Int32} {W : Nat → Nat → Int} {B : Nat → Int} (h34 : M 34 = .inr (7, oMod g (qN q ni ng))) (h51 : M 51 = iA g 8 dp) (h48 : M 48 = iA g 96 nw) (hni : ni ≤ 4) (hng : ng ≤ 8) (hWB : nWB ng W B nw nb) {o : Int32} : Con g jX8_depth 2 [.ref (jA g 34), .int o] M (fun v M2 => v = some (.int (sp_depth ni ng W o)) ∧ ∃ dp2, M2 = va_up M 51 (iA g 8 dp2)) := by
  refine con_of (l := [some (.ref (jA g 34)), some (.int o), none, none, none]) (by decide) (Nat.le_of_ble_eq_true rfl) rfl ?_
  refine j_aload_n0 (n := 1) dX8_depth_0 rfl ?_
  refine j_iload_n1 (n := 2) dX8_depth_1 rfl ?_
  refine j_fnV1 (n := 5) (con_X8_isNetGate h34) dX8_depth_2 rfl cal_X8_isNetGate ml_X8_213 (Nat.le_of_ble_eq_true rfl) (by first | decide | omega) rfl rfl (Nat.le_of_ble_eq_true rfl) (by first | assumption | rfl) ?_
  refine j_bif_ne (n := 8) 10 dX8_depth_5 rfl (by decide) (fun k1 => ?_) (fun k1 => ?_)
  rotate_left
  · refine j_iconst (n := 9) (-1) dX8_depth_8 rfl (by decide) ?_
    refine j_iret dX8_depth_9 rfl ?_
    exact ⟨by simp [sp_depth, k1], dp, (va_self h51).symm⟩
  obtain ⟨o, ho, rfl⟩ := isGt_of (by omega) k1
  have c1 := nI_clamp (show o < 2 ^ 31 by omega)
  have hs : sp_depth ni ng W (nI o) = nI (nDep ni W ng o) := by
    simp [sp_depth, k1, c1]
  rw [hs]
  refine j_iconst (n := 11) (nI 0) dX8_depth_10 rfl (by decide) ?_
  refine j_istore_n2 (n := 12) dX8_depth_11 rfl (Nat.le_of_ble_eq_true rfl) rfl ?_
  have key : ∀ k, k ≤ o + 1 → ∀ (f : Nat → Int32) (x3 x4 : Option Value), jNL x3 = true → (∀ j, j < k → f j = nI (nDep ni W k j)) → J g jX8_depth 2 (fun v M2 => v = some (.int (nI (nDep ni W ng o))) ∧ ∃ dp2, M2 = va_up M 51 (iA g 8 dp2)) 12 [some (.ref (jA g 34)), some (.int (nI o)), some (.int (nI k)), x3, x4] [] (va_up M 51 (iA g 8 f)) := by
    refine j_for ?_ ?_
    · intro f x3 x4 _ hf
      refine j_iload_n2 (n := 13) dX8_depth_12 rfl ?_
      refine j_iload_n1 (n := 14) dX8_depth_13 rfl ?_
      refine j_nicmp_gt (n := 17) 92 dX8_depth_14 rfl (by decide) (by omega) (by omega) (fun h => ?_) (fun h => ?_)
      rotate_left
      · omega
      refine j_aload_n0 (n := 93) dX8_depth_92 rfl ?_
      refine j_get (n := 96) (k := 25) dX8_depth_93 rfl jcl7 (Nat.le_of_ble_eq_true rfl) fl_X8_71 (Nat.le_of_ble_eq_true rfl) (by first | assumption | rfl) (by rfl) ?_
      refine j_iload_n1 (n := 97) dX8_depth_96 rfl ?_
      refine j_iald_n (n := 98) dX8_depth_97 rfl (by first | decide | omega) (by first | assumption | rfl) (by decide) (by first | assumption | omega) ?_
      rw [hf o (by omega), ← nDep_st ho]
      refine j_iret dX8_depth_98 rfl ?_
      exact ⟨rfl, f, rfl⟩
    · intro k hk ih f x3 x4 hx3 hf
      have hW := hWB.1 k (by omega)
      refine j_iload_n2 (n := 13) dX8_depth_12 rfl ?_
      refine j_iload_n1 (n := 14) dX8_depth_13 rfl ?_
      refine j_nicmp_gt (n := 17) 92 dX8_depth_14 rfl (by decide) (by omega) (by omega) (fun h => ?_) (fun h => ?_)
      · omega
      refine j_iconst (n := 18) (nI 0) dX8_depth_17 rfl (by decide) ?_
      refine j_istore_n3 (n := 19) dX8_depth_18 rfl (Nat.le_of_ble_eq_true rfl) rfl ?_
      refine j_iconst (n := 20) (nI 0) dX8_depth_19 rfl (by decide) ?_
      refine j_istore4 (n := 22) dX8_depth_20 rfl (Nat.le_of_ble_eq_true rfl) rfl ?_
      have inner : ∀ i, i ≤ k → J g jX8_depth 2 (fun v M2 => v = some (.int (nI (nDep ni W ng o))) ∧ ∃ dp2, M2 = va_up M 51 (iA g 8 dp2)) 22 [some (.ref (jA g 34)), some (.int (nI o)), some (.int (nI k)), some (.int (nI (nMost ni (W k) (nDep ni W k) i))), some (.int (nI i))] [] (va_up M 51 (iA g 8 f)) := by
        refine j_for ?_ ?_
        · refine j_iload4 (n := 24) dX8_depth_22 rfl ?_
          refine j_iload_n2 (n := 25) dX8_depth_24 rfl ?_
          refine j_nicmp_ge (n := 28) 77 dX8_depth_25 rfl (by decide) (by omega) (by omega) (fun h => ?_) (fun h => ?_)
          rotate_left
          · omega
          refine j_aload_n0 (n := 78) dX8_depth_77 rfl ?_
          refine j_get (n := 81) (k := 25) dX8_depth_78 rfl jcl7 (Nat.le_of_ble_eq_true rfl) fl_X8_71 (Nat.le_of_ble_eq_true rfl) (by first | assumption | rfl) (by rfl) ?_
          refine j_iload_n2 (n := 82) dX8_depth_81 rfl ?_
          refine j_iload_n3 (n := 83) dX8_depth_82 rfl ?_
          refine j_iconst (n := 84) (nI 1) dX8_depth_83 rfl (by decide) ?_
          refine j_iadd (n := 85) dX8_depth_84 rfl ?_
          refine j_topi (nI (nDep ni W (k + 1) k)) (by rw [nI_add, nDep_new]) ?_
          refine j_iast_n (n := 86) dX8_depth_85 rfl (by first | decide | omega) (by first | assumption | rfl) (by decide) (by first | assumption | omega) ?_
          refine j_inc2 (n := 89) dX8_depth_86 rfl (Nat.le_of_ble_eq_true rfl) rfl ?_
          refine j_goto 12 dX8_depth_89 (by decide) ?_
          rw [va_uu]
          refine ih _ _ _ rfl (fun j hj => ?_)
          by_cases e : j = k
          · rw [e, pk_us]
          · rw [pk_un e, nDep_keep (by omega)]
            exact hf j (by omega)
        · intro i hi ih2
          have hdl := nDep_le (ni := ni) (W := W) k i
          have hml := nMost_le (ni := ni) (w := W k) (D := nDep ni W k) (m := k) i (fun j _ => nDep_le k j)
          have hw := hW (ni + i) (by omega)
          refine j_iload4 (n := 24) dX8_depth_22 rfl ?_
          refine j_iload_n2 (n := 25) dX8_depth_24 rfl ?_
          refine j_nicmp_ge (n := 28) 77 dX8_depth_25 rfl (by decide) (by omega) (by omega) (fun h => ?_) (fun h => ?_)
          · omega
          refine j_aload_n0 (n := 29) dX8_depth_28 rfl ?_
          refine j_get (n := 32) (k := 22) dX8_depth_29 rfl jcl7 (Nat.le_of_ble_eq_true rfl) fl_X8_62 (Nat.le_of_ble_eq_true rfl) (by first | assumption | rfl) (by rfl) ?_
          refine j_bipush (n := 34) (nI 12) dX8_depth_32 rfl (by decide) ?_
          refine j_iload_n2 (n := 35) dX8_depth_34 rfl ?_
          refine j_imul (n := 36) dX8_depth_35 rfl ?_
          refine j_aload_n0 (n := 37) dX8_depth_36 rfl ?_
          refine j_get (n := 40) (k := 19) dX8_depth_37 rfl jcl7 (Nat.le_of_ble_eq_true rfl) fl_X8_55 (Nat.le_of_ble_eq_true rfl) (by first | assumption | rfl) (by rfl) ?_
          refine j_iadd (n := 41) dX8_depth_40 rfl ?_
          refine j_iload4 (n := 43) dX8_depth_41 rfl ?_
          refine j_iadd (n := 44) dX8_depth_43 rfl ?_
          refine j_topi (nI (12 * k + (ni + i))) (by rw [← Nat.add_assoc, ← nI_add, ← nI_add, ← pk_mul]; rfl) ?_
          refine j_iald_n (n := 45) dX8_depth_44 rfl (by first | decide | omega) (by first | assumption | rfl) (by decide) (by first | assumption | omega) ?_
          rw [hw.1]
          have fin : ∀ z : Nat, z = nMost ni (W k) (nDep ni W k) (i + 1) → J g jX8_depth 2 (fun v M2 => v = some (.int (nI (nDep ni W ng o))) ∧ ∃ dp2, M2 = va_up M 51 (iA g 8 dp2)) 70 [some (.ref (jA g 34)), some (.int (nI o)), some (.int (nI k)), some (.int (nI (nMost ni (W k) (nDep ni W k) i))), some (.int (nI i))] [.int (nI z)] (va_up M 51 (iA g 8 f)) := by
            intro z hz
            refine j_istore_n3 (n := 71) dX8_depth_70 rfl (Nat.le_of_ble_eq_true rfl) rfl ?_
            refine j_inc4 (n := 74) dX8_depth_71 rfl (Nat.le_of_ble_eq_true rfl) rfl ?_
            refine j_goto 22 dX8_depth_74 (by decide) ?_
            rw [hz]
            exact ih2
          refine j_if_eq (n := 48) 69 dX8_depth_45 rfl (by decide) (fun e => ?_) (fun e => ?_)
          · have e2 : W k (ni + i) = 0 := (iI_eq (by omega) (by omega)).mp e
            refine j_iload_n3 (n := 70) dX8_depth_69 rfl ?_
            exact fin _ (by simp [nMost, e2])
          have e2 : ¬ W k (ni + i) = 0 := fun z => e (by rw [z]; rfl)
          refine j_aload_n0 (n := 49) dX8_depth_48 rfl ?_
          refine j_get (n := 52) (k := 25) dX8_depth_49 rfl jcl7 (Nat.le_of_ble_eq_true rfl) fl_X8_71 (Nat.le_of_ble_eq_true rfl) (by first | assumption | rfl) (by rfl) ?_
          refine j_iload4 (n := 54) dX8_depth_52 rfl ?_
          refine j_iald_n (n := 55) dX8_depth_54 rfl (by first | decide | omega) (by first | assumption | rfl) (by decide) (by first | assumption | omega) ?_
          rw [hf i hi]
          refine j_iload_n3 (n := 56) dX8_depth_55 rfl ?_
          refine j_nicmp_le (n := 59) 69 dX8_depth_56 rfl (by decide) (by omega) (by omega) (fun e3 => ?_) (fun e3 => ?_)
          · refine j_iload_n3 (n := 70) dX8_depth_69 rfl ?_
            exact fin _ (by simp [nMost, e2, Nat.not_lt.mpr e3])
          · refine j_aload_n0 (n := 60) dX8_depth_59 rfl ?_
            refine j_get (n := 63) (k := 25) dX8_depth_60 rfl jcl7 (Nat.le_of_ble_eq_true rfl) fl_X8_71 (Nat.le_of_ble_eq_true rfl) (by first | assumption | rfl) (by rfl) ?_
            refine j_iload4 (n := 65) dX8_depth_63 rfl ?_
            refine j_iald_n (n := 66) dX8_depth_65 rfl (by first | decide | omega) (by first | assumption | rfl) (by decide) (by first | assumption | omega) ?_
            rw [hf i hi]
            refine j_goto 70 dX8_depth_66 (by decide) ?_
            exact fin _ (by simp [nMost, e2, e3])
      exact inner 0 (Nat.zero_le _)
  have h0 := key 0 (Nat.zero_le _) dp none none rfl (fun j hj => absurd hj (Nat.not_lt_zero j))
  rw [va_self h51] at h0
  exact h0
