theorem rsum_step {w : Nat → Int} {i j : Nat} (h1 : 2 ^ i ≤ j) (h2 : j < 2 ^ (i + 1)) : rsum w j (i + 1) = rsum w (j - 2 ^ i) i + w i := by
  have e : j = 2 ^ i + (j - 2 ^ i) := by omega
  have hlt : j - 2 ^ i < 2 ^ i := by rw [Nat.pow_succ] at h2; omega
  have hb : j.testBit i = true := by
    rw [e, Nat.testBit_two_pow_add_eq, Nat.testBit_lt_two_pow hlt]
    rfl
  have hc : ∀ m, m ≤ i → rsum w j m = rsum w (j - 2 ^ i) m := by
    intro m
    induction m with
    | zero => intro _; rfl
    | succ m ih =>
      intro hm
      unfold rsum
      rw [ih (by omega)]
      have : j.testBit m = (j - 2 ^ i).testBit m := by
        conv => lhs; rw [e]
        exact Nat.testBit_two_pow_add_gt (by omega) _
      rw [this]
  show rsum w j i + (if j.testBit i then w i else 0) = _
  rw [hc i (Nat.le_refl i), hb]
  rfl
theorem rsum_low {w : Nat → Int} {i j : Nat} (h : j < 2 ^ i) : rsum w j (i + 1) = rsum w j i := rsum_hi h 1
set_option maxRecDepth 100000 in
theorem con_X4_setWeight {g : jG} {M : jMem} {k i : Nat} {lo gz : Int32} {f : Nat → Int32} {w : Nat → Int} (hk : M k = .inr (4, oSums g (k + 1) lo gz)) (hk2 : M (k + 1) = iA g 32 f) (hkc : k < 50) (hi : i < 5) (hf : ∀ j, j < 2 ^ i → f j = iI (rsum w j i)) : Con g jX4_setWeight 1 [.ref (jA g k), .int (nI i), .int (iI (w i))] M (fun v M2 => v = none ∧ ∃ f2, M2 = va_up M (k + 1) (iA g 32 f2) ∧ ∀ j, j < 2 ^ (i + 1) → f2 j = iI (rsum w j (i + 1))) := by
  have h16 : 2 ^ i ≤ 16 := Nat.pow_le_pow_right (n := 2) (by omega) (by omega : i ≤ 4)
  have hs : 2 ^ (i + 1) = 2 ^ i + 2 ^ i := by rw [Nat.pow_succ]; omega
  refine con_of (l := [some (.ref (jA g k)), some (.int (nI i)), some (.int (iI (w i))), none, none]) (by decide) (Nat.le_of_ble_eq_true rfl) rfl ?_
  refine j_iload_n1 (n := 1) dX4_setWeight_0 rfl ?_
  refine j_fnS1 (n := 4) (con_X5_number (by omega)) dX4_setWeight_1 rfl cal_X5_number ml_X4_15 (Nat.le_of_ble_eq_true rfl) (Nat.le_of_ble_eq_true rfl) ?_
  refine j_istore_n3 (n := 5) dX4_setWeight_4 rfl (Nat.le_of_ble_eq_true rfl) rfl ?_
  refine j_iconst (n := 6) (nI 0) dX4_setWeight_5 rfl (by decide) ?_
  refine j_istore4 (n := 8) dX4_setWeight_6 rfl (Nat.le_of_ble_eq_true rfl) rfl ?_
  have key : ∀ r, r ≤ 2 ^ i → ∀ f2 : Nat → Int32, (∀ j, j < 2 ^ i + r → f2 j = iI (rsum w j (i + 1))) → J g jX4_setWeight 1 (fun v M2 => v = none ∧ ∃ f2, M2 = va_up M (k + 1) (iA g 32 f2) ∧ ∀ j, j < 2 ^ (i + 1) → f2 j = iI (rsum w j (i + 1))) 8 [some (.ref (jA g k)), some (.int (nI i)), some (.int (iI (w i))), some (.int (nI (2 ^ i))), some (.int (nI r))] [] (va_up M (k + 1) (iA g 32 f2)) := by
    refine j_for ?_ ?_
    · intro f2 h2
      refine j_iload4 (n := 10) dX4_setWeight_8 rfl ?_
      refine j_iload_n3 (n := 11) dX4_setWeight_10 rfl ?_
      refine j_nicmp_ge (n := 14) 38 dX4_setWeight_11 rfl (by decide) (by omega) (by omega) (fun h => ?_) (fun h => ?_)
      rotate_left
      · omega
      refine j_vret dX4_setWeight_38 rfl ?_
      exact ⟨rfl, f2, rfl, fun j hj => h2 j (by omega)⟩
    · intro r hr ih f2 h2
      have hk' : va_up M (k + 1) (iA g 32 f2) k = .inr (4, oSums g (k + 1) lo gz) := (va_at_ne (by omega)).trans hk
      have hk2' : va_up M (k + 1) (iA g 32 f2) (k + 1) = iA g 32 f2 := va_at_eq
      refine j_iload4 (n := 10) dX4_setWeight_8 rfl ?_
      refine j_iload_n3 (n := 11) dX4_setWeight_10 rfl ?_
      refine j_nicmp_ge (n := 14) 38 dX4_setWeight_11 rfl (by decide) (by omega) (by omega) (fun h => ?_) (fun h => ?_)
      · omega
      refine j_aload_n0 (n := 15) dX4_setWeight_14 rfl ?_
      refine j_get (n := 18) (k := 0) dX4_setWeight_15 rfl jcl4 (Nat.le_of_ble_eq_true rfl) fl_X4_9 (by first | decide | omega) (by first | assumption | rfl) (by rfl) ?_
      refine j_iload4 (n := 20) dX4_setWeight_18 rfl ?_
      refine j_iload_n3 (n := 21) dX4_setWeight_20 rfl ?_
      refine j_iadd (n := 22) dX4_setWeight_21 rfl ?_
      refine j_topi (nI (r + 2 ^ i)) (nI_add r (2 ^ i)) ?_
      refine j_aload_n0 (n := 23) dX4_setWeight_22 rfl ?_
      refine j_get (n := 26) (k := 0) dX4_setWeight_23 rfl jcl4 (Nat.le_of_ble_eq_true rfl) fl_X4_9 (by first | decide | omega) (by first | assumption | rfl) (by rfl) ?_
      refine j_iload4 (n := 28) dX4_setWeight_26 rfl ?_
      refine j_iald_n (n := 29) dX4_setWeight_28 rfl (by first | decide | omega) (by first | assumption | rfl) (by decide) (by first | assumption | omega) ?_
      refine j_iload_n2 (n := 30) dX4_setWeight_29 rfl ?_
      refine j_iadd (n := 31) dX4_setWeight_30 rfl ?_
      have e1 : f2 r + iI (w i) = iI (rsum w (r + 2 ^ i) (i + 1)) := by
        rw [h2 r (by omega), iI_add, rsum_step (j := r + 2 ^ i) (by omega) (by omega), Nat.add_sub_cancel, rsum_low (by omega)]
      refine j_topi _ e1 ?_
      refine j_iast_n (n := 32) dX4_setWeight_31 rfl (by first | decide | omega) (by first | assumption | rfl) (by decide) (by first | assumption | omega) ?_
      rw [va_uu]
      refine j_inc4 (n := 35) dX4_setWeight_32 rfl (Nat.le_of_ble_eq_true rfl) rfl ?_
      refine j_goto 8 dX4_setWeight_35 (by decide) ?_
      refine ih _ (fun j hj => ?_)
      unfold upd
      by_cases q : j = r + 2 ^ i
      · rw [if_pos q, q]
      · rw [if_neg q]
        exact h2 j (by omega)
  have h0 := key 0 (Nat.zero_le _) f (fun j hj => by rw [hf j (by omega), rsum_low (by omega)])
  rw [va_self hk2] at h0
  exact h0
def eLo (t : Nat) (x : Nat → Int) : Nat → Int
  | 0 => 2147483647
  | r + 1 => if t.testBit r then (if x r < eLo t x r then x r else eLo t x r) else eLo t x r
def eHi (t : Nat) (x : Nat → Int) : Nat → Int
  | 0 => -2147483648
  | r + 1 => if t.testBit r then eHi t x r else (if eHi t x r < x r then x r else eHi t x r)
theorem eLo_rg {t : Nat} {x : Nat → Int} : ∀ r : Nat, (∀ j, j < r → -900 ≤ x j ∧ x j ≤ 900) → -2147483648 ≤ eLo t x r ∧ eLo t x r < 2147483648
  | 0, _ => by simp [eLo]
  | r + 1, h => by
    have h1 := eLo_rg (t := t) r (fun j hj => h j (by omega))
    have h2 := h r (by omega)
    unfold eLo
    split
    · split <;> omega
    · exact h1
theorem eHi_rg {t : Nat} {x : Nat → Int} : ∀ r : Nat, (∀ j, j < r → -900 ≤ x j ∧ x j ≤ 900) → -2147483648 ≤ eHi t x r ∧ eHi t x r < 2147483648
  | 0, _ => by simp [eHi]
  | r + 1, h => by
    have h1 := eHi_rg (t := t) r (fun j hj => h j (by omega))
    have h2 := h r (by omega)
    unfold eHi
    split
    · exact h1
    · split <;> omega
theorem eLo_m {t : Nat} {x : Nat → Int} : ∀ R : Nat, (∀ j, j < R → -900 ≤ x j ∧ x j ≤ 900) → (eLo t x R = 2147483647 ∧ mLow t x R = 1000 ∧ ∀ r, r < R → t.testBit r = false) ∨ (eLo t x R = mLow t x R ∧ mLow t x R ≤ 900)
  | 0, _ => Or.inl ⟨rfl, rfl, fun r h => absurd h (Nat.not_lt_zero r)⟩
  | R + 1, h => by
    have h2 := h R (by omega)
    unfold eLo mLow
    rcases eLo_m (t := t) (x := x) R (fun j hj => h j (by omega)) with ⟨q1, q2, q3⟩ | ⟨q1, q2⟩
    · rw [q1, q2]
      cases hb : t.testBit R with
      | false =>
        refine Or.inl ⟨rfl, rfl, fun r hr => ?_⟩
        by_cases e : r = R
        · rw [e, hb]
        · exact q3 r (by omega)
      | true =>
        refine Or.inr ?_
        simp only [if_true]
        rw [if_pos (by omega), if_pos (by omega)]
        omega
    · rw [q1]
      refine Or.inr ⟨rfl, ?_⟩
      split
      · split <;> omega
      · exact q2
theorem eHi_m {t : Nat} {x : Nat → Int} : ∀ R : Nat, (∀ j, j < R → -900 ≤ x j ∧ x j ≤ 900) → (eHi t x R = -2147483648 ∧ mHi t x R = -1000 ∧ ∀ r, r < R → t.testBit r = true) ∨ (eHi t x R = mHi t x R ∧ -900 ≤ mHi t x R ∧ ∃ r, r < R ∧ t.testBit r = false)
  | 0, _ => Or.inl ⟨rfl, rfl, fun r h => absurd h (Nat.not_lt_zero r)⟩
  | R + 1, h => by
    have h2 := h R (by omega)
    unfold eHi mHi
    rcases eHi_m (t := t) (x := x) R (fun j hj => h j (by omega)) with ⟨q1, q2, q3⟩ | ⟨q1, q2, r0, q3, q4⟩
    · rw [q1, q2]
      cases hb : t.testBit R with
      | true =>
        refine Or.inl ⟨rfl, rfl, fun r hr => ?_⟩
        by_cases e : r = R
        · rw [e, hb]
        · exact q3 r (by omega)
      | false =>
        refine Or.inr ?_
        simp only [Bool.false_eq_true, if_false]
        rw [if_pos (by omega), if_pos (by omega)]
        exact ⟨rfl, by omega, R, by omega, hb⟩
    · rw [q1]
      refine Or.inr ⟨rfl, ?_, r0, by omega, q4⟩
      split
      · exact q2
      · split <;> omega
set_option maxRecDepth 100000 in
theorem con_X4_findEnds {g : jG} {M : jMem} {k n t : Nat} {lo gz : Int32} {f : Nat → Int32} {x : Nat → Int} (hk : M k = .inr (4, oSums g (k + 1) lo gz)) (hk2 : M (k + 1) = iA g 32 f) (hkc : k < 50) (hn : n ≤ 5) (ht : t < 2 ^ 32) (hf : ∀ j, j < 2 ^ n → f j = iI (x j)) (hx : ∀ j, j < 2 ^ n → -900 ≤ x j ∧ x j ≤ 900) : Con g jX4_findEnds 1 [.ref (jA g k), .int (nI n), .long (lN t)] M (fun v M2 => v = none ∧ M2 = va_up M k (.inr (4, oSums g (k + 1) (iI (eLo t x (2 ^ n))) (iI (eHi t x (2 ^ n)))))) := by
  have h5 := pw5 hn
  refine con_of (l := [some (.ref (jA g k)), some (.int (nI n)), some (.long (lN t)), none, none]) (by decide) (Nat.le_of_ble_eq_true rfl) rfl ?_
  refine j_aload_n0 (n := 1) dX4_findEnds_0 rfl ?_
  refine j_ldc (n := 3) dX4_findEnds_1 rfl cn_X4_23 ?_
  refine j_put (n := 6) (k := 1) (fs2 := oSums g (k + 1) 2147483647 gz) dX4_findEnds_3 rfl jcl4 tyX4_ok nmX4 (Nat.le_of_ble_eq_true rfl) rfl (tyX4_ok 1 (Nat.le_of_ble_eq_true rfl)) fl_X4_24 (by rfl) (by rfl) (by first | decide | omega) (by first | assumption | rfl) (Nat.le_of_ble_eq_true rfl) (by rfl) ?_
  refine j_aload_n0 (n := 7) dX4_findEnds_6 rfl ?_
  refine j_ldc (n := 9) dX4_findEnds_7 rfl cn_X4_28 ?_
  refine j_put (k := 2) (n := 12) (fs2 := oSums g (k + 1) 2147483647 (-2147483648)) dX4_findEnds_9 rfl jcl4 tyX4_ok nmX4 (Nat.le_of_ble_eq_true rfl) rfl (tyX4_ok 2 (Nat.le_of_ble_eq_true rfl)) fl_X4_29 (by rfl) (by rfl) (by omega) va_at_eq (Nat.le_of_ble_eq_true rfl) (by rfl) ?_
  rw [va_uu]
  refine j_iconst (n := 13) (nI 0) dX4_findEnds_12 rfl (by decide) ?_
  refine j_istore4 (n := 15) dX4_findEnds_13 rfl (Nat.le_of_ble_eq_true rfl) rfl ?_
  have key : ∀ r, r ≤ 2 ^ n → J g jX4_findEnds 1 (fun v M2 => v = none ∧ M2 = va_up M k (.inr (4, oSums g (k + 1) (iI (eLo t x (2 ^ n))) (iI (eHi t x (2 ^ n)))))) 15 [some (.ref (jA g k)), some (.int (nI n)), some (.long (lN t)), none, some (.int (nI r))] [] (va_up M k (.inr (4, oSums g (k + 1) (iI (eLo t x r)) (iI (eHi t x r))))) := by
    refine j_for ?_ ?_
    · refine j_iload4 (n := 17) dX4_findEnds_15 rfl ?_
      refine j_iload_n1 (n := 18) dX4_findEnds_17 rfl ?_
      refine j_fnS1 (n := 21) (con_X5_number (by omega)) dX4_findEnds_18 rfl cal_X5_number ml_X4_15 (Nat.le_of_ble_eq_true rfl) (Nat.le_of_ble_eq_true rfl) ?_
      refine j_nicmp_ge (n := 24) 78 dX4_findEnds_21 rfl (by decide) (by omega) (by omega) (fun h => ?_) (fun h => ?_)
      rotate_left
      · omega
      refine j_vret dX4_findEnds_78 rfl ?_
      exact ⟨rfl, rfl⟩
    · intro r hr ih
      have hk' : va_up M k (.inr (4, oSums g (k + 1) (iI (eLo t x r)) (iI (eHi t x r)))) k = .inr (4, oSums g (k + 1) (iI (eLo t x r)) (iI (eHi t x r))) := va_at_eq
      have hk2' : va_up M k (.inr (4, oSums g (k + 1) (iI (eLo t x r)) (iI (eHi t x r)))) (k + 1) = iA g 32 f := (va_at_ne (by omega)).trans hk2
      have rx := hx r hr
      have rl := eLo_rg (t := t) (x := x) r (fun j hj => hx j (by omega))
      have rh := eHi_rg (t := t) (x := x) r (fun j hj => hx j (by omega))
      refine j_iload4 (n := 17) dX4_findEnds_15 rfl ?_
      refine j_iload_n1 (n := 18) dX4_findEnds_17 rfl ?_
      refine j_fnS1 (n := 21) (con_X5_number (by omega)) dX4_findEnds_18 rfl cal_X5_number ml_X4_15 (Nat.le_of_ble_eq_true rfl) (Nat.le_of_ble_eq_true rfl) ?_
      refine j_nicmp_ge (n := 24) 78 dX4_findEnds_21 rfl (by decide) (by omega) (by omega) (fun h => ?_) (fun h => ?_)
      · omega
      refine j_lload_n2 (n := 25) dX4_findEnds_24 rfl ?_
      refine j_iload4 (n := 27) dX4_findEnds_25 rfl ?_
      refine j_fnS2 (n := 30) (con_X5_isOne (by omega) (by omega)) dX4_findEnds_27 rfl cal_X5_isOne ml_X4_32 (Nat.le_of_ble_eq_true rfl) (Nat.le_of_ble_eq_true rfl) ?_
      refine j_bif_eq (n := 33) 54 dX4_findEnds_30 rfl (by decide) (fun e1 => ?_) (fun e1 => ?_)
      · refine j_aload_n0 (n := 55) dX4_findEnds_54 rfl ?_
        refine j_aload_n0 (n := 56) dX4_findEnds_55 rfl ?_
        refine j_get (n := 59) (k := 2) dX4_findEnds_56 rfl jcl4 (Nat.le_of_ble_eq_true rfl) fl_X4_29 (by first | decide | omega) (by first | assumption | rfl) (by rfl) ?_
        refine j_aload_n0 (n := 60) dX4_findEnds_59 rfl ?_
        refine j_get (n := 63) (k := 0) dX4_findEnds_60 rfl jcl4 (Nat.le_of_ble_eq_true rfl) fl_X4_9 (by first | decide | omega) (by first | assumption | rfl) (by rfl) ?_
        refine j_iload4 (n := 65) dX4_findEnds_63 rfl ?_
        refine j_iald_n (n := 66) dX4_findEnds_65 rfl (by first | decide | omega) (by first | assumption | rfl) (by decide) (by first | assumption | omega) ?_
        refine j_mmax (n := 69) dX4_findEnds_66 rfl ml_X4_42 mw_max (Nat.le_of_ble_eq_true rfl) (Nat.le_of_ble_eq_true rfl) ?_
        have e2 : (if iI (eHi t x r) < f r then f r else iI (eHi t x r)) = iI (eHi t x (r + 1)) := by
          rw [hf r hr]
          have q : eHi t x (r + 1) = if eHi t x r < x r then x r else eHi t x r := by
            show (if t.testBit r then eHi t x r else (if eHi t x r < x r then x r else eHi t x r)) = _
            rw [e1]
            rfl
          rw [q]
          by_cases z : eHi t x r < x r
          · rw [if_pos z, if_pos ((iI_lt rh (by omega)).mpr z)]
          · rw [if_neg z, if_neg (fun y => z ((iI_lt rh (by omega)).mp y))]
        have e3 : eLo t x (r + 1) = eLo t x r := by
          show (if t.testBit r then (if x r < eLo t x r then x r else eLo t x r) else eLo t x r) = _
          rw [e1]
          rfl
        refine j_topi _ e2 ?_
        refine j_put (n := 72) (k := 2) (fs2 := oSums g (k + 1) (iI (eLo t x r)) (iI (eHi t x (r + 1)))) dX4_findEnds_69 rfl jcl4 tyX4_ok nmX4 (Nat.le_of_ble_eq_true rfl) rfl (tyX4_ok 2 (Nat.le_of_ble_eq_true rfl)) fl_X4_29 (by rfl) (by rfl) (by first | decide | omega) (by first | assumption | rfl) (Nat.le_of_ble_eq_true rfl) (by rfl) ?_
        rw [va_uu]
        refine j_inc4 (n := 75) dX4_findEnds_72 rfl (Nat.le_of_ble_eq_true rfl) rfl ?_
        refine j_goto 15 dX4_findEnds_75 (by decide) ?_
        rw [← e3]
        exact ih
      · refine j_aload_n0 (n := 34) dX4_findEnds_33 rfl ?_
        refine j_aload_n0 (n := 35) dX4_findEnds_34 rfl ?_
        refine j_get (n := 38) (k := 1) dX4_findEnds_35 rfl jcl4 (Nat.le_of_ble_eq_true rfl) fl_X4_24 (by first | decide | omega) (by first | assumption | rfl) (by rfl) ?_
        refine j_aload_n0 (n := 39) dX4_findEnds_38 rfl ?_
        refine j_get (n := 42) (k := 0) dX4_findEnds_39 rfl jcl4 (Nat.le_of_ble_eq_true rfl) fl_X4_9 (by first | decide | omega) (by first | assumption | rfl) (by rfl) ?_
        refine j_iload4 (n := 44) dX4_findEnds_42 rfl ?_
        refine j_iald_n (n := 45) dX4_findEnds_44 rfl (by first | decide | omega) (by first | assumption | rfl) (by decide) (by first | assumption | omega) ?_
        refine j_mmin (n := 48) dX4_findEnds_45 rfl ml_X4_36 mw_min (Nat.le_of_ble_eq_true rfl) (Nat.le_of_ble_eq_true rfl) ?_
        have e2 : (if f r < iI (eLo t x r) then f r else iI (eLo t x r)) = iI (eLo t x (r + 1)) := by
          rw [hf r hr]
          have q : eLo t x (r + 1) = if x r < eLo t x r then x r else eLo t x r := by
            show (if t.testBit r then (if x r < eLo t x r then x r else eLo t x r) else eLo t x r) = _
            rw [e1]
            rfl
          rw [q]
          by_cases z : x r < eLo t x r
          · rw [if_pos z, if_pos ((iI_lt (by omega) rl).mpr z)]
          · rw [if_neg z, if_neg (fun y => z ((iI_lt (by omega) rl).mp y))]
        have e3 : eHi t x (r + 1) = eHi t x r := by
          show (if t.testBit r then eHi t x r else (if eHi t x r < x r then x r else eHi t x r)) = _
          rw [e1]
          rfl
        refine j_topi _ e2 ?_
        refine j_put (n := 51) (k := 1) (fs2 := oSums g (k + 1) (iI (eLo t x (r + 1))) (iI (eHi t x r))) dX4_findEnds_48 rfl jcl4 tyX4_ok nmX4 (Nat.le_of_ble_eq_true rfl) rfl (tyX4_ok 1 (Nat.le_of_ble_eq_true rfl)) fl_X4_24 (by rfl) (by rfl) (by first | decide | omega) (by first | assumption | rfl) (Nat.le_of_ble_eq_true rfl) (by rfl) ?_
        rw [va_uu]
        refine j_goto 72 dX4_findEnds_51 (by decide) ?_
        refine j_inc4 (n := 75) dX4_findEnds_72 rfl (Nat.le_of_ble_eq_true rfl) rfl ?_
        refine j_goto 15 dX4_findEnds_75 (by decide) ?_
        rw [← e3]
        exact ih
  exact key 0 (Nat.zero_le _)
