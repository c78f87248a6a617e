theorem ntz_ex : ∀ x : Nat, 0 < x → ∃ k m, x = 2 ^ k * (2 * m + 1) := by
  intro x
  induction x using Nat.strongRecOn with
  | _ x ih =>
    intro hx
    by_cases h : x % 2 = 1
    · exact ⟨0, x / 2, by omega⟩
    · obtain ⟨k, m, e⟩ := ih (x / 2) (by omega) (by omega)
      refine ⟨k + 1, m, ?_⟩
      have e2 : x = 2 * (x / 2) := by omega
      rw [e2, e, Nat.pow_succ, Nat.mul_comm (2 ^ k) 2, Nat.mul_assoc]
theorem ntz_bit (k m j : Nat) : (2 ^ k * (2 * m + 1)).testBit j = (decide (k ≤ j) && (2 * m + 1).testBit (j - k)) := by
  rw [Nat.testBit_two_pow_mul]
theorem ntz_mask {x k m : Nat} (h : x = 2 ^ k * (2 * m + 1)) (hx : x < 2 ^ 32) : (x ^^^ 4294967295) &&& (x - 1) = 2 ^ k - 1 := by
  have hk1 : 0 < 2 ^ k := Nat.pos_of_ne_zero (by simp)
  have hk2 : 2 ^ k - 1 < 2 ^ (k + 1) := by rw [Nat.pow_succ]; omega
  have e : x - 1 = 2 ^ (k + 1) * m + (2 ^ k - 1) := by
    rw [h, Nat.pow_succ, Nat.mul_add, Nat.mul_one, ← Nat.mul_assoc]
    omega
  apply Nat.eq_of_testBit_eq
  intro j
  have e3 : (4294967295 : Nat) = 2 ^ 32 - 1 := rfl
  rw [Nat.testBit_and, Nat.testBit_xor, e3, Nat.testBit_two_pow_sub_one, Nat.testBit_two_pow_sub_one, e, Nat.testBit_two_pow_mul_add _ hk2]
  rw [h, ntz_bit]
  by_cases q : j < k
  · have q1 : ¬ k ≤ j := by omega
    have q2 : j < k + 1 := by omega
    have q3 : k < 32 := by
      rcases Nat.lt_or_ge k 32 with z | z
      · exact z
      · have h1 : 2 ^ 32 ≤ 2 ^ k := Nat.pow_le_pow_right (by omega) z
        have h2 : 2 ^ k * 1 ≤ 2 ^ k * (2 * m + 1) := Nat.mul_le_mul_left _ (by omega)
        omega
    simp [q, q1, q2, show j < 32 by omega]
  · by_cases q2 : j = k
    · subst q2
      simp
    · have q3 : k ≤ j := by omega
      have q4 : ¬ j < k + 1 := by omega
      have q5 : (2 * m + 1).testBit (j - k) = m.testBit (j - (k + 1)) := by
        have e4 : j - k = (j - (k + 1)) + 1 := by omega
        rw [e4, Nat.testBit_succ]
        congr 1
        omega
      simp only [q, q3, q4, q5, decide_true, decide_false, Bool.true_and, if_false]
      by_cases q6 : j < 32
      · simp [q6]
      · have q7 : x.testBit j = false := tb_no hx (by omega)
        rw [h, ntz_bit, q5] at q7
        simp [q3] at q7
        simp [q7]
theorem au_shr {a n : Nat} (ha : a < 2 ^ 32) (hn : n < 32) : ((nI a).toUInt32 >>> ((nI n).toUInt32 &&& Int32.toUInt32 31)).toInt32 = nI (a / 2 ^ n) := pk_ushrN ha _ n (s_u n hn)
def nz74 (y n : Nat) : Nat := n + y / 2
def nz62 (y n : Nat) : Nat := if y ≤ 4 then nz74 y n else nz74 (y / 4) (n + 2)
def nz49 (y n : Nat) : Nat := if y ≤ 16 then nz62 y n else nz62 (y / 16) (n + 4)
def nz34 (y n : Nat) : Nat := if y ≤ 256 then nz49 y n else nz49 (y / 256) (n + 8)
def nz19 (y n : Nat) : Nat := if y ≤ 65536 then nz34 y n else nz34 (y / 65536) (n + 16)
theorem nz_ok : ∀ k, k < 31 → 0 < k → nz19 (2 ^ k - 1) 1 = k := by decide +kernel
set_option maxRecDepth 100000 in
theorem con_J6_numberOfTrailingZeros_0f7a4 {g : jG} {M : jMem} {x k m : Nat} (hx : x = 2 ^ k * (2 * m + 1)) (h31 : x < 2 ^ 31) : Fn g jJ6_numberOfTrailingZeros_0f7a4 0 [.int (nI x)] M (.int (nI k)) := by
  have hk : k < 31 := by
    rcases Nat.lt_or_ge k 31 with z | z
    · exact z
    · have h1 : 2 ^ 31 ≤ 2 ^ k := Nat.pow_le_pow_right (by omega) z
      have h2 : 2 ^ k * 1 ≤ 2 ^ k * (2 * m + 1) := Nat.mul_le_mul_left _ (by omega)
      omega
  have hx0 : 0 < x := by
    rw [hx]
    exact Nat.mul_pos (Nat.pos_of_ne_zero (by simp)) (by omega)
  have hp : 2 ^ k < 2 ^ 31 := Nat.pow_lt_pow_right (by omega) hk
  refine con_of (l := [some (.int (nI x)), none]) (by decide) (Nat.le_of_ble_eq_true rfl) rfl ?_
  refine j_iload_n0 (n := 1) dJ6_numberOfTrailingZeros_0f7a4_0 rfl ?_
  refine j_iconst (n := 2) (-1) dJ6_numberOfTrailingZeros_0f7a4_1 rfl (by decide) ?_
  refine j_ixor (n := 3) dJ6_numberOfTrailingZeros_0f7a4_2 rfl ?_
  refine j_iload_n0 (n := 4) dJ6_numberOfTrailingZeros_0f7a4_3 rfl ?_
  refine j_iconst (n := 5) (nI 1) dJ6_numberOfTrailingZeros_0f7a4_4 rfl (by decide) ?_
  refine j_isub (n := 6) dJ6_numberOfTrailingZeros_0f7a4_5 rfl ?_
  refine j_iand (n := 7) dJ6_numberOfTrailingZeros_0f7a4_6 rfl ?_
  refine j_topi (nI (2 ^ k - 1)) ?_ ?_
  · have e : (-1 : Int32) = nI 4294967295 := by decide
    rw [e, fb_xorI, pk_sub hx0, fa_and, ntz_mask hx (by omega)]
  refine j_istore_n0 (n := 8) dJ6_numberOfTrailingZeros_0f7a4_7 rfl (Nat.le_of_ble_eq_true rfl) ?_
  refine j_iload_n0 (n := 9) dJ6_numberOfTrailingZeros_0f7a4_8 rfl ?_
  have h74 : ∀ y n, y < 2 ^ 31 → nz74 y n = k → J g jJ6_numberOfTrailingZeros_0f7a4 0 (fun v M2 => v = some (.int (nI k)) ∧ M2 = M) 74 [some (.int (nI y)), some (.int (nI n))] [] M := by
    intro y n hy h
    refine j_iload_n1 (n := 75) dJ6_numberOfTrailingZeros_0f7a4_74 rfl ?_
    refine j_iload_n0 (n := 76) dJ6_numberOfTrailingZeros_0f7a4_75 rfl ?_
    refine j_iconst (n := 77) (nI 1) dJ6_numberOfTrailingZeros_0f7a4_76 rfl (by decide) ?_
    refine j_iushr (n := 78) dJ6_numberOfTrailingZeros_0f7a4_77 rfl ?_
    refine j_topi (nI (y / 2)) (au_shr (by omega) (by omega)) ?_
    refine j_iadd (n := 79) dJ6_numberOfTrailingZeros_0f7a4_78 rfl ?_
    refine j_topi (nI k) (by rw [nI_add]; rw [← h]; rfl) ?_
    refine j_iret dJ6_numberOfTrailingZeros_0f7a4_79 rfl ?_
    exact ⟨rfl, rfl⟩
  have h62 : ∀ y n, y < 2 ^ 31 → nz62 y n = k → J g jJ6_numberOfTrailingZeros_0f7a4 0 (fun v M2 => v = some (.int (nI k)) ∧ M2 = M) 62 [some (.int (nI y)), some (.int (nI n))] [] M := by
    intro y n hy h
    unfold nz62 at h
    refine j_iload_n0 (n := 63) dJ6_numberOfTrailingZeros_0f7a4_62 rfl ?_
    refine j_iconst (n := 64) (nI 4) dJ6_numberOfTrailingZeros_0f7a4_63 rfl (by decide) ?_
    refine j_nicmp_le (n := 67) 74 dJ6_numberOfTrailingZeros_0f7a4_64 rfl (by decide) (by omega) (by omega) (fun e => ?_) (fun e => ?_)
    · exact h74 y n hy (by rw [if_pos e] at h; exact h)
    · rw [if_neg (by omega)] at h
      refine j_iinc1 (n := 70) (v := nI (n + 2)) dJ6_numberOfTrailingZeros_0f7a4_67 rfl (Nat.le_of_ble_eq_true rfl) rfl (nI_add n 2) ?_
      refine j_iload_n0 (n := 71) dJ6_numberOfTrailingZeros_0f7a4_70 rfl ?_
      refine j_iconst (n := 72) (nI 2) dJ6_numberOfTrailingZeros_0f7a4_71 rfl (by decide) ?_
      refine j_iushr (n := 73) dJ6_numberOfTrailingZeros_0f7a4_72 rfl ?_
      refine j_topi (nI (y / 4)) (au_shr (by omega) (by omega)) ?_
      refine j_istore_n0 (n := 74) dJ6_numberOfTrailingZeros_0f7a4_73 rfl (Nat.le_of_ble_eq_true rfl) ?_
      exact h74 _ _ (by omega) h
  have h49 : ∀ y n, y < 2 ^ 31 → nz49 y n = k → J g jJ6_numberOfTrailingZeros_0f7a4 0 (fun v M2 => v = some (.int (nI k)) ∧ M2 = M) 49 [some (.int (nI y)), some (.int (nI n))] [] M := by
    intro y n hy h
    unfold nz49 at h
    refine j_iload_n0 (n := 50) dJ6_numberOfTrailingZeros_0f7a4_49 rfl ?_
    refine j_bipush (n := 52) (nI 16) dJ6_numberOfTrailingZeros_0f7a4_50 rfl (by decide) ?_
    refine j_nicmp_le (n := 55) 62 dJ6_numberOfTrailingZeros_0f7a4_52 rfl (by decide) (by omega) (by omega) (fun e => ?_) (fun e => ?_)
    · exact h62 y n hy (by rw [if_pos e] at h; exact h)
    · rw [if_neg (by omega)] at h
      refine j_iinc1 (n := 58) (v := nI (n + 4)) dJ6_numberOfTrailingZeros_0f7a4_55 rfl (Nat.le_of_ble_eq_true rfl) rfl (nI_add n 4) ?_
      refine j_iload_n0 (n := 59) dJ6_numberOfTrailingZeros_0f7a4_58 rfl ?_
      refine j_iconst (n := 60) (nI 4) dJ6_numberOfTrailingZeros_0f7a4_59 rfl (by decide) ?_
      refine j_iushr (n := 61) dJ6_numberOfTrailingZeros_0f7a4_60 rfl ?_
      refine j_topi (nI (y / 16)) (au_shr (by omega) (by omega)) ?_
      refine j_istore_n0 (n := 62) dJ6_numberOfTrailingZeros_0f7a4_61 rfl (Nat.le_of_ble_eq_true rfl) ?_
      exact h62 _ _ (by omega) h
  have h34 : ∀ y n, y < 2 ^ 31 → nz34 y n = k → J g jJ6_numberOfTrailingZeros_0f7a4 0 (fun v M2 => v = some (.int (nI k)) ∧ M2 = M) 34 [some (.int (nI y)), some (.int (nI n))] [] M := by
    intro y n hy h
    unfold nz34 at h
    refine j_iload_n0 (n := 35) dJ6_numberOfTrailingZeros_0f7a4_34 rfl ?_
    refine j_sipush (n := 38) (nI 256) dJ6_numberOfTrailingZeros_0f7a4_35 rfl (by decide) ?_
    refine j_nicmp_le (n := 41) 49 dJ6_numberOfTrailingZeros_0f7a4_38 rfl (by decide) (by omega) (by omega) (fun e => ?_) (fun e => ?_)
    · exact h49 y n hy (by rw [if_pos e] at h; exact h)
    · rw [if_neg (by omega)] at h
      refine j_iinc1 (n := 44) (v := nI (n + 8)) dJ6_numberOfTrailingZeros_0f7a4_41 rfl (Nat.le_of_ble_eq_true rfl) rfl (nI_add n 8) ?_
      refine j_iload_n0 (n := 45) dJ6_numberOfTrailingZeros_0f7a4_44 rfl ?_
      refine j_bipush (n := 47) (nI 8) dJ6_numberOfTrailingZeros_0f7a4_45 rfl (by decide) ?_
      refine j_iushr (n := 48) dJ6_numberOfTrailingZeros_0f7a4_47 rfl ?_
      refine j_topi (nI (y / 256)) (au_shr (by omega) (by omega)) ?_
      refine j_istore_n0 (n := 49) dJ6_numberOfTrailingZeros_0f7a4_48 rfl (Nat.le_of_ble_eq_true rfl) ?_
      exact h49 _ _ (by omega) h
  rcases Nat.eq_zero_or_pos k with e0 | e0
  · subst e0
    refine j_if_gt (n := 12) 17 dJ6_numberOfTrailingZeros_0f7a4_9 rfl (by decide) (fun e => ?_) (fun e => ?_)
    · exact absurd e (by decide)
    · refine j_iload_n0 (n := 13) dJ6_numberOfTrailingZeros_0f7a4_12 rfl ?_
      refine j_bipush (n := 15) (nI 32) dJ6_numberOfTrailingZeros_0f7a4_13 rfl (by decide) ?_
      refine j_iand (n := 16) dJ6_numberOfTrailingZeros_0f7a4_15 rfl ?_
      refine j_iret dJ6_numberOfTrailingZeros_0f7a4_16 rfl ?_
      exact ⟨rfl, rfl⟩
  · have h2k : 2 ^ 1 ≤ 2 ^ k := Nat.pow_le_pow_right (by omega) e0
    refine j_if_gt (n := 12) 17 dJ6_numberOfTrailingZeros_0f7a4_9 rfl (by decide) (fun e => ?_) (fun e => ?_)
    rotate_left
    · have q : nI 0 < nI (2 ^ k - 1) := (nI_ltI (by omega) (by omega)).mpr (by omega)
      exact absurd q e
    have h := nz_ok k hk e0
    unfold nz19 at h
    refine j_iconst (n := 18) (nI 1) dJ6_numberOfTrailingZeros_0f7a4_17 rfl (by decide) ?_
    refine j_istore_n1 (n := 19) dJ6_numberOfTrailingZeros_0f7a4_18 rfl (Nat.le_of_ble_eq_true rfl) rfl ?_
    refine j_iload_n0 (n := 20) dJ6_numberOfTrailingZeros_0f7a4_19 rfl ?_
    refine j_ldcw (n := 23) dJ6_numberOfTrailingZeros_0f7a4_20 rfl cn_J6_264 ?_
    refine j_nicmp_le (a := 2 ^ k - 1) (b := 65536) (n := 26) 34 dJ6_numberOfTrailingZeros_0f7a4_23 rfl (by decide) (by omega) (by omega) (fun e2 => ?_) (fun e2 => ?_)
    · exact h34 _ _ (by omega) (by rw [if_pos e2] at h; exact h)
    · rw [if_neg (by omega)] at h
      refine j_iinc1 (n := 29) (v := nI (1 + 16)) dJ6_numberOfTrailingZeros_0f7a4_26 rfl (Nat.le_of_ble_eq_true rfl) rfl (nI_add 1 16) ?_
      refine j_iload_n0 (n := 30) dJ6_numberOfTrailingZeros_0f7a4_29 rfl ?_
      refine j_bipush (n := 32) (nI 16) dJ6_numberOfTrailingZeros_0f7a4_30 rfl (by decide) ?_
      refine j_iushr (n := 33) dJ6_numberOfTrailingZeros_0f7a4_32 rfl ?_
      refine j_topi (nI ((2 ^ k - 1) / 65536)) (au_shr (by omega) (by omega)) ?_
      refine j_istore_n0 (n := 34) dJ6_numberOfTrailingZeros_0f7a4_33 rfl (Nat.le_of_ble_eq_true rfl) ?_
      exact h34 _ _ (by omega) h
set_option maxRecDepth 100000 in
theorem con_J13_numberOfTrailingZeros_95d88 {g : jG} {M : jMem} {x k m : Nat} (hx : x = 2 ^ k * (2 * m + 1)) (h31 : x < 2 ^ 31) : Fn g jJ13_numberOfTrailingZeros_95d88 1 [.long (lN x)] M (.int (nI k)) := by
  have hx0 : 0 < x := by
    rw [hx]
    exact Nat.mul_pos (Nat.pos_of_ne_zero (by simp)) (by omega)
  refine con_of (l := [some (.long (lN x)), none, none]) (by decide) (Nat.le_of_ble_eq_true rfl) rfl ?_
  refine j_lload_n0 (n := 1) dJ13_numberOfTrailingZeros_95d88_0 rfl ?_
  refine j_l2i (n := 2) dJ13_numberOfTrailingZeros_95d88_1 rfl ?_
  refine j_topi (nI x) (lN_i x) ?_
  refine j_istore_n2 (n := 3) dJ13_numberOfTrailingZeros_95d88_2 rfl (Nat.le_of_ble_eq_true rfl) rfl ?_
  refine j_iload_n2 (n := 4) dJ13_numberOfTrailingZeros_95d88_3 rfl ?_
  refine j_if_ne (n := 7) 21 dJ13_numberOfTrailingZeros_95d88_4 rfl (by decide) (fun e => ?_) (fun e => ?_)
  · refine j_iload_n2 (n := 22) dJ13_numberOfTrailingZeros_95d88_21 rfl ?_
    refine j_fnS1 (n := 25) (con_J6_numberOfTrailingZeros_0f7a4 hx h31) dJ13_numberOfTrailingZeros_95d88_22 rfl cal_J6_numberOfTrailingZeros_0f7a4 ml_J13_311 (Nat.le_of_ble_eq_true rfl) (Nat.le_of_ble_eq_true rfl) ?_
    refine j_iret dJ13_numberOfTrailingZeros_95d88_25 rfl ?_
    exact ⟨rfl, rfl⟩
  · have q : x = 0 := (nI_eq (by omega) (by omega)).mp e
    omega
