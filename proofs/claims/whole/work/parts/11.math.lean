/-- the table of R rows whose row r is f r -/
def mkT : Nat → (Nat → Bool) → Nat
  | 0, _ => 0
  | n + 1, f => mkT n f ||| (if f n then 2 ^ n else 0)
theorem mkT_lt (f : Nat → Bool) : ∀ n, mkT n f < 2 ^ n
  | 0 => by simp [mkT]
  | n + 1 => by
    unfold mkT
    apply Nat.or_lt_two_pow
    · have := mkT_lt f n
      have h2 : 2 ^ (n + 1) = 2 * 2 ^ n := by rw [Nat.pow_succ]; omega
      omega
    · split
      · exact Nat.pow_lt_pow_right (by omega) (by omega)
      · exact Nat.pos_of_ne_zero (by simp)
theorem mkT_bit (f : Nat → Bool) (r : Nat) : ∀ n, (mkT n f).testBit r = (decide (r < n) && f r)
  | 0 => by simp [mkT]
  | n + 1 => by
    unfold mkT
    rw [Nat.testBit_or, mkT_bit f r n]
    by_cases h : f n
    · rw [if_pos h, Nat.testBit_two_pow]
      by_cases e : n = r
      · subst e; simp [h]
      · have : decide (r < n + 1) = decide (r < n) := by
          by_cases q : r < n
          · simp [q, Nat.lt_succ_of_lt q]
          · simp [q, show ¬ r < n + 1 by omega]
        simp [e, this]
    · rw [if_neg h]
      by_cases e : n = r
      · subst e; simp [h]
      · have : decide (r < n + 1) = decide (r < n) := by
          by_cases q : r < n
          · simp [q, Nat.lt_succ_of_lt q]
          · simp [q, show ¬ r < n + 1 by omega]
        simp [this]
theorem tb_ext {R t u : Nat} (ht : t < 2 ^ R) (hu : u < 2 ^ R) (h : ∀ r, r < R → t.testBit r = u.testBit r) : t = u := by
  apply Nat.eq_of_testBit_eq
  intro r
  rcases Nat.lt_or_ge r R with q | q
  · exact h r q
  · rw [Nat.testBit_lt_two_pow (Nat.lt_of_lt_of_le ht (Nat.pow_le_pow_right (by omega) q)), Nat.testBit_lt_two_pow (Nat.lt_of_lt_of_le hu (Nat.pow_le_pow_right (by omega) q))]
theorem mkT_ext {R : Nat} {f f2 : Nat → Bool} (h : ∀ r, r < R → f r = f2 r) : mkT R f = mkT R f2 := by
  apply tb_ext (mkT_lt f R) (mkT_lt f2 R)
  intro r hr
  rw [mkT_bit, mkT_bit, h r hr]
theorem mkT_self {R t : Nat} (ht : t < 2 ^ R) : mkT R t.testBit = t := by
  apply tb_ext (mkT_lt _ R) ht
  intro r hr
  rw [mkT_bit]
  simp [hr]
/-- how many rows below R are 1 -/
def cnt : Nat → (Nat → Bool) → Nat
  | 0, _ => 0
  | n + 1, f => cnt n f + (if f n then 1 else 0)
theorem cnt_le (f : Nat → Bool) : ∀ n, cnt n f ≤ n
  | 0 => Nat.le_refl _
  | n + 1 => by
    unfold cnt
    have := cnt_le f n
    split <;> omega
theorem cnt_ext {f f2 : Nat → Bool} : ∀ {n : Nat}, (∀ r, r < n → f r = f2 r) → cnt n f = cnt n f2
  | 0, _ => rfl
  | n + 1, h => by
    unfold cnt
    rw [cnt_ext (fun r hr => h r (by omega)), h n (by omega)]
theorem cnt_more {f : Nat → Bool} {n : Nat} : ∀ k, (∀ r, n ≤ r → r < n + k → f r = false) → cnt (n + k) f = cnt n f
  | 0, _ => rfl
  | k + 1, h => by
    show cnt (n + k) f + (if f (n + k) then 1 else 0) = _
    rw [cnt_more k (fun r h1 h2 => h r h1 (by omega)), h (n + k) (by omega) (by omega)]
    rfl
theorem nb_bit (a n : Nat) : a / 2 ^ n % 2 = if a.testBit n then 1 else 0 := by
  have h : a.testBit n = decide (a / 2 ^ n % 2 = 1) := Nat.testBit_eq_decide_div_mod_eq
  rw [h]
  have : a / 2 ^ n % 2 < 2 := Nat.mod_lt _ (by omega)
  by_cases q : a / 2 ^ n % 2 = 1
  · simp [q]
  · simp [q]; omega
theorem ai_shl {a n : Nat} (h : a * 2 ^ n < 2 ^ 32) (hn : n < 32) : nI a <<< (nI n &&& 31) = nI (a * 2 ^ n) := pk_shlN _ n (s_l n hn) h
theorem ai_shl1 {n : Nat} (hn : n < 31) : nI 1 <<< (nI n &&& 31) = nI (2 ^ n) := by
  have h : 2 ^ n < 2 ^ 31 := Nat.pow_lt_pow_right (by omega) hn
  rw [ai_shl (by omega) (by omega), Nat.one_mul]
theorem ai_shr {a n : Nat} (h : a < 2 ^ 31) (hn : n < 32) : nI a >>> (nI n &&& 31) = nI (a / 2 ^ n) := pk_shrN h _ n (s_l n hn)
theorem ai_bit {a n : Nat} (h : a < 2 ^ 31) (hn : n < 32) : (nI a >>> (nI n &&& 31)) &&& nI 1 = jB (a.testBit n) := by
  rw [ai_shr h hn, fa_and, Nat.and_one_is_mod, nb_bit, jB_nI]
theorem al_shl (a : Nat) {n : Nat} (hn : n < 64) : lN a <<< ((nI n).toInt64 &&& 63) = lN (a * 2 ^ n) := wb_shl a hn
theorem al_shl1 {n : Nat} (hn : n < 64) : lN 1 <<< ((nI n).toInt64 &&& 63) = lN (2 ^ n) := by rw [al_shl 1 hn, Nat.one_mul]
theorem al_ushr {a n : Nat} (ha : a < 2 ^ 64) (hn : n < 64) : ((lN a).toUInt64 >>> ((nI n).toInt64.toUInt64 &&& Int64.toUInt64 63)).toInt64 = lN (a / 2 ^ n) := wb_shr ha hn
theorem al_sm : ∀ n, n < 64 → (((nI n).toInt64 &&& 63).toBitVec.smod 64).toNat = n := by decide +kernel
theorem al_shr {a n : Nat} (ha : a < 2 ^ 62) (hn : n < 64) : lN a >>> ((nI n).toInt64 &&& 63) = lN (a / 2 ^ n) := pf_shr (al_sm n hn) ha
theorem al_bit {a n : Nat} (ha : a < 2 ^ 62) (hn : n < 64) : (lN a >>> ((nI n).toInt64 &&& 63)) &&& lN 1 = lN (if a.testBit n then 1 else 0) := by
  rw [al_shr ha hn, fb_andL, Nat.and_one_is_mod, nb_bit]
theorem al_ubit {a n : Nat} (ha : a < 2 ^ 64) (hn : n < 64) : ((lN a).toUInt64 >>> ((nI n).toInt64.toUInt64 &&& Int64.toUInt64 63)).toInt64 &&& lN 1 = lN (if a.testBit n then 1 else 0) := by
  rw [al_ushr ha hn, fb_andL, Nat.and_one_is_mod, nb_bit]
/-- a slot's number -/
def isSl (s : Int32) : Bool := decide (0 ≤ s ∧ s ≤ 7)
theorem isSl_of {s : Int32} (h : isSl s = true) : ∃ j : Nat, j < 8 ∧ s = nI j := by
  have h1 : 0 ≤ s ∧ s ≤ 7 := of_decide_eq_true h
  obtain ⟨j, hj, e⟩ := nI_of2 (M := 7) (n := 7) (by decide) (fun q => by have := h1.1; rw [fa_le] at this; rw [fa_lt] at q; omega) h1.2
  exact ⟨j, by omega, e⟩
theorem isSl_nI {j : Nat} (h : j < 8) : isSl (nI j) = true := by
  have : ∀ j, j < 8 → isSl (nI j) = true := by decide +kernel
  exact this j h
/-- a number of 1 to k -/
def isTo (k : Nat) (s : Int32) : Bool := decide (1 ≤ s ∧ s ≤ nI k)
theorem isTo_of {k : Nat} (hk : k < 100) {s : Int32} (h : isTo k s = true) : ∃ j : Nat, 1 ≤ j ∧ j ≤ k ∧ s = nI j := by
  have h1 : 1 ≤ s ∧ s ≤ nI k := of_decide_eq_true h
  obtain ⟨j, hj, e⟩ := nI_of2 (M := nI k) (n := k) (nI_toInt (by omega)) (fun q => by have := h1.1; rw [fa_le] at this; rw [fa_lt] at q; have e1 : (1 : Int32).toInt = 1 := by decide
                                                                                      have e0 : (0 : Int32).toInt = 0 := by decide
                                                                                      omega) h1.2
  refine ⟨j, ?_, hj, e⟩
  have h2 := h1.1
  rw [e] at h2
  have : nI 1 ≤ nI j := h2
  exact (nI_leI (by omega) (by omega)).mp this
