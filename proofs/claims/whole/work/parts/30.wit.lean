/-- rows c and its partner are zeros that have each input as often as a and b -/
def okC (t a b c : Nat) : Bool := decide (c &&& (a &&& b) = a &&& b) && (decide (c ||| (a ||| b) = a ||| b) && (!t.testBit c && (!t.testBit ((a &&& b) + (a ||| b) - c) && decide (c ≤ (a &&& b) + (a ||| b) - c))))
def hasC (n t a b : Nat) : Bool := decide (fa_first (okC t a b) (2 ^ n) < 2 ^ n)
def pB (n t a b : Nat) : Bool := t.testBit b && (decide (a < b) && hasC n t a b)
def pA (n t a : Nat) : Bool := t.testBit a && decide (fa_first (pB n t a) (2 ^ n) < 2 ^ n)
/-- no two pairs of rows prove the table to be no gate -/
def isG (n t : Nat) : Bool := !decide (fa_first (pA n t) (2 ^ n) < 2 ^ n)
def wA (n t : Nat) : Nat := fa_first (pA n t) (2 ^ n)
def wB (n t a : Nat) : Nat := fa_first (pB n t a) (2 ^ n)
def wC (n t a b : Nat) : Nat := fa_first (okC t a b) (2 ^ n)
def wD (n t a b : Nat) : Nat := (a &&& b) + (a ||| b) - wC n t a b
def witF (f : Nat → Int32) (a b c d : Nat) : Prop := f 0 = nI a ∧ f 1 = nI b ∧ f 2 = nI c ∧ f 3 = nI d
theorem and_ge {c x : Nat} (h : c &&& x = x) : x ≤ c := by
  rw [← h]
  exact Nat.and_le_left
theorem or_le {c x : Nat} (h : c ||| x = x) : c ≤ x := by
  rw [← h]
  exact Nat.left_le_or
theorem dec_first_f {p : Nat → Bool} {n : Nat} (h : ∀ j, j < n → p j = false) : decide (fa_first p n < n) = false := decide_eq_false (first_no h)
theorem dec_first_t {p : Nat → Bool} {n r : Nat} (h : ∀ j, j < r → p j = false) (hr : p r = true) (hn : r < n) : decide (fa_first p n < n) = true := decide_eq_true (by rw [first_at h hr n hn]; exact hn)
set_option maxRecDepth 100000 in
theorem con_X6_findZeros {g : jG} {M : jMem} {k n t a b : Nat} {f : Nat → Int32} (hk : M k = .inr (5, oWit g (k + 1))) (hk2 : M (k + 1) = iA g 4 f) (hkc : k < 50) (hn : n ≤ 5) (ht : t < 2 ^ 32) (ha : a < 2 ^ n) (hb : b < 2 ^ n) : Con g jX6_findZeros 1 [.ref (jA g k), .long (lN t), .int (nI a), .int (nI b)] M (fun v M2 => v = some (.int (jB (hasC n t a b))) ∧ ((hasC n t a b = false ∧ M2 = M) ∨ (hasC n t a b = true ∧ ∃ f2, M2 = va_up M (k + 1) (iA g 4 f2) ∧ witF f2 a b (wC n t a b) (wD n t a b)))) := by
  have h5 := pw5 hn
  have hor : a ||| b < 2 ^ n := Nat.or_lt_two_pow ha hb
  have hand : a &&& b ≤ a := Nat.and_le_left
  have hao : a &&& b ≤ a ||| b := Nat.le_trans hand Nat.left_le_or
  refine con_of (l := [some (.ref (jA g k)), some (.long (lN t)), none, some (.int (nI a)), some (.int (nI b)), none, none, none, none, none]) (by decide) (Nat.le_of_ble_eq_true rfl) rfl ?_
  refine j_iload_n3 (n := 1) dX6_findZeros_0 rfl ?_
  refine j_iload4 (n := 3) dX6_findZeros_1 rfl ?_
  refine j_iand (n := 4) dX6_findZeros_3 rfl ?_
  refine j_topi _ (fa_and a b) ?_
  refine j_istore5 (n := 6) dX6_findZeros_4 rfl (Nat.le_of_ble_eq_true rfl) rfl ?_
  refine j_iload_n3 (n := 7) dX6_findZeros_6 rfl ?_
  refine j_iload4 (n := 9) dX6_findZeros_7 rfl ?_
  refine j_ior (n := 10) dX6_findZeros_9 rfl ?_
  refine j_topi _ (fa_or a b) ?_
  refine j_istore6 (n := 12) dX6_findZeros_10 rfl (Nat.le_of_ble_eq_true rfl) rfl ?_
  refine j_iload5 (n := 14) dX6_findZeros_12 rfl ?_
  refine j_istore7 (n := 16) dX6_findZeros_14 rfl (Nat.le_of_ble_eq_true rfl) rfl ?_
  have key : ∀ c, c ≤ (a ||| b) + 1 → ∀ x8 x9 : Option Value, jNL x8 = true → (∀ j, j < c → okC t a b j = false) → J g jX6_findZeros 1 (fun v M2 => v = some (.int (jB (hasC n t a b))) ∧ ((hasC n t a b = false ∧ M2 = M) ∨ (hasC n t a b = true ∧ ∃ f2, M2 = va_up M (k + 1) (iA g 4 f2) ∧ witF f2 a b (wC n t a b) (wD n t a b)))) 16 [some (.ref (jA g k)), some (.long (lN t)), none, some (.int (nI a)), some (.int (nI b)), some (.int (nI (a &&& b))), some (.int (nI (a ||| b))), some (.int (nI c)), x8, x9] [] M := by
    refine j_for ?_ ?_
    · intro x8 x9 hx8 hno
      refine j_iload7 (n := 18) dX6_findZeros_16 rfl ?_
      refine j_iload6 (n := 20) dX6_findZeros_18 rfl ?_
      refine j_nicmp_gt (n := 23) 131 dX6_findZeros_20 rfl (by decide) (by omega) (by omega) (fun h => ?_) (fun h => ?_)
      rotate_left
      · omega
      have hf : hasC n t a b = false := by
        apply dec_first_f
        intro j hj
        rcases Nat.lt_or_ge j ((a ||| b) + 1) with q | q
        · exact hno j q
        · unfold okC
          have : ¬ j ||| (a ||| b) = a ||| b := fun z => by have := or_le z; omega
          simp [this]
      refine j_iconst (n := 132) (nI 0) dX6_findZeros_131 rfl (by decide) ?_
      exact j_ret0 hf dX6_findZeros_132 rfl ⟨rfl, Or.inl ⟨hf, rfl⟩⟩
    · intro c hc ih x8 x9 hx8 hno
      refine j_iload7 (n := 18) dX6_findZeros_16 rfl ?_
      refine j_iload6 (n := 20) dX6_findZeros_18 rfl ?_
      refine j_nicmp_gt (n := 23) 131 dX6_findZeros_20 rfl (by decide) (by omega) (by omega) (fun h => ?_) (fun h => ?_)
      · omega
      refine j_iload5 (n := 25) dX6_findZeros_23 rfl ?_
      refine j_iload6 (n := 27) dX6_findZeros_25 rfl ?_
      refine j_iadd (n := 28) dX6_findZeros_27 rfl ?_
      refine j_iload7 (n := 30) dX6_findZeros_28 rfl ?_
      refine j_isub (n := 31) dX6_findZeros_30 rfl ?_
      refine j_topi (nI ((a &&& b) + (a ||| b) - c)) (by rw [nI_add, pk_sub (by omega)]) ?_
      refine j_istore8 (n := 33) dX6_findZeros_31 rfl (Nat.le_of_ble_eq_true rfl) rfl ?_
      refine j_iload7 (n := 35) dX6_findZeros_33 rfl ?_
      refine j_iload8 (n := 37) dX6_findZeros_35 rfl ?_
      refine j_nicmp_le (n := 40) 42 dX6_findZeros_37 rfl (by decide) (by omega) (by omega) (fun e => ?_) (fun e => ?_)
      rotate_left
      · have hf : hasC n t a b = false := by
          apply dec_first_f
          intro j hj
          rcases Nat.lt_or_ge j c with q | q
          · exact hno j q
          · unfold okC
            have : ¬ j ≤ (a &&& b) + (a ||| b) - j := by omega
            simp [this]
        refine j_iconst (n := 41) (nI 0) dX6_findZeros_40 rfl (by decide) ?_
        exact j_ret0 hf dX6_findZeros_41 rfl ⟨rfl, Or.inl ⟨hf, rfl⟩⟩
      have next : okC t a b c = false → ∀ x9 : Option Value, J g jX6_findZeros 1 (fun v M2 => v = some (.int (jB (hasC n t a b))) ∧ ((hasC n t a b = false ∧ M2 = M) ∨ (hasC n t a b = true ∧ ∃ f2, M2 = va_up M (k + 1) (iA g 4 f2) ∧ witF f2 a b (wC n t a b) (wD n t a b)))) 125 [some (.ref (jA g k)), some (.long (lN t)), none, some (.int (nI a)), some (.int (nI b)), some (.int (nI (a &&& b))), some (.int (nI (a ||| b))), some (.int (nI c)), some (.int (nI ((a &&& b) + (a ||| b) - c))), x9] [] M := by
        intro hq x9
        refine j_inc7 (n := 128) dX6_findZeros_125 rfl (Nat.le_of_ble_eq_true rfl) rfl ?_
        refine j_goto 16 dX6_findZeros_128 (by decide) ?_
        refine ih _ _ rfl (fun j hj => ?_)
        by_cases q : j = c
        · rw [q]; exact hq
        · exact hno j (by omega)
      have h67 : ∀ o : Bool, (decide (c &&& (a &&& b) = a &&& b) && decide (c ||| (a ||| b) = a ||| b)) = o → J g jX6_findZeros 1 (fun v M2 => v = some (.int (jB (hasC n t a b))) ∧ ((hasC n t a b = false ∧ M2 = M) ∨ (hasC n t a b = true ∧ ∃ f2, M2 = va_up M (k + 1) (iA g 4 f2) ∧ witF f2 a b (wC n t a b) (wD n t a b)))) 67 [some (.ref (jA g k)), some (.long (lN t)), none, some (.int (nI a)), some (.int (nI b)), some (.int (nI (a &&& b))), some (.int (nI (a ||| b))), some (.int (nI c)), some (.int (nI ((a &&& b) + (a ||| b) - c))), x9] [.int (jB o)] M := by
        intro o ho
        refine j_istore9 (n := 69) dX6_findZeros_67 rfl (Nat.le_of_ble_eq_true rfl) rfl ?_
        refine j_iload9 (n := 71) dX6_findZeros_69 rfl ?_
        refine j_bif_eq (n := 74) 125 dX6_findZeros_71 rfl (by decide) (fun e1 => ?_) (fun e1 => ?_)
        · refine next ?_ _
          rw [e1] at ho
          unfold okC
          rw [← Bool.and_assoc, ho]
          rfl
        refine j_lload_n1 (n := 75) dX6_findZeros_74 rfl ?_
        refine j_iload7 (n := 77) dX6_findZeros_75 rfl ?_
        refine j_fnS2 (n := 80) (con_X5_isOne (by omega) (by omega)) dX6_findZeros_77 rfl cal_X5_isOne ml_X6_21 (Nat.le_of_ble_eq_true rfl) (Nat.le_of_ble_eq_true rfl) ?_
        refine j_bif_ne (n := 83) 125 dX6_findZeros_80 rfl (by decide) (fun e2 => ?_) (fun e2 => ?_)
        · refine next ?_ _
          simp [okC, e2]
        refine j_lload_n1 (n := 84) dX6_findZeros_83 rfl ?_
        refine j_iload8 (n := 86) dX6_findZeros_84 rfl ?_
        refine j_fnS2 (n := 89) (con_X5_isOne (by omega) (by omega)) dX6_findZeros_86 rfl cal_X5_isOne ml_X6_21 (Nat.le_of_ble_eq_true rfl) (Nat.le_of_ble_eq_true rfl) ?_
        refine j_bif_ne (n := 92) 125 dX6_findZeros_89 rfl (by decide) (fun e3 => ?_) (fun e3 => ?_)
        · refine next ?_ _
          simp [okC, e3]
        have hyes : okC t a b c = true := by
          rw [e1] at ho
          unfold okC
          rw [← Bool.and_assoc, ho, e2, e3]
          simp [e]
        have hcn : c < 2 ^ n := by omega
        have hh : hasC n t a b = true := dec_first_t hno hyes hcn
        have hwc : wC n t a b = c := first_at hno hyes _ hcn
        refine j_aload_n0 (n := 93) dX6_findZeros_92 rfl ?_
        refine j_get (n := 96) (k := 0) dX6_findZeros_93 rfl jcl5 (Nat.le_of_ble_eq_true rfl) fl_X6_9 (by first | decide | omega) (by first | assumption | rfl) (by rfl) ?_
        refine j_iconst (n := 97) (nI 0) dX6_findZeros_96 rfl (by decide) ?_
        refine j_iload_n3 (n := 98) dX6_findZeros_97 rfl ?_
        refine j_iast_n (n := 99) dX6_findZeros_98 rfl (by first | decide | omega) (by first | assumption | rfl) (by decide) (by first | assumption | omega) ?_
        refine j_aload_n0 (n := 100) dX6_findZeros_99 rfl ?_
        refine j_get (k := 0) (n := 103) dX6_findZeros_100 rfl jcl5 (Nat.le_of_ble_eq_true rfl) fl_X6_9 (by omega) ((va_at_ne (by omega)).trans hk) (by rfl) ?_
        refine j_iconst (n := 104) (nI 1) dX6_findZeros_103 rfl (by decide) ?_
        refine j_iload4 (n := 106) dX6_findZeros_104 rfl ?_
        refine j_iast_n (j := 1) (n := 107) dX6_findZeros_106 rfl (by omega) va_at_eq (by decide) (by decide) ?_
        rw [va_uu]
        refine j_aload_n0 (n := 108) dX6_findZeros_107 rfl ?_
        refine j_get (k := 0) (n := 111) dX6_findZeros_108 rfl jcl5 (Nat.le_of_ble_eq_true rfl) fl_X6_9 (by omega) ((va_at_ne (by omega)).trans hk) (by rfl) ?_
        refine j_iconst (n := 112) (nI 2) dX6_findZeros_111 rfl (by decide) ?_
        refine j_iload7 (n := 114) dX6_findZeros_112 rfl ?_
        refine j_iast_n (j := 2) (n := 115) dX6_findZeros_114 rfl (by omega) va_at_eq (by decide) (by decide) ?_
        rw [va_uu]
        refine j_aload_n0 (n := 116) dX6_findZeros_115 rfl ?_
        refine j_get (k := 0) (n := 119) dX6_findZeros_116 rfl jcl5 (Nat.le_of_ble_eq_true rfl) fl_X6_9 (by omega) ((va_at_ne (by omega)).trans hk) (by rfl) ?_
        refine j_iconst (n := 120) (nI 3) dX6_findZeros_119 rfl (by decide) ?_
        refine j_iload8 (n := 122) dX6_findZeros_120 rfl ?_
        refine j_iast_n (j := 3) (n := 123) dX6_findZeros_122 rfl (by omega) va_at_eq (by decide) (by decide) ?_
        rw [va_uu]
        refine j_iconst (n := 124) (nI 1) dX6_findZeros_123 rfl (by decide) ?_
        refine j_ret1 hh dX6_findZeros_124 rfl ⟨rfl, Or.inr ⟨hh, _, rfl, ?_⟩⟩
        unfold witF wD
        rw [hwc]
        refine ⟨rfl, rfl, rfl, rfl⟩
      refine j_iload7 (n := 44) dX6_findZeros_42 rfl ?_
      refine j_iload5 (n := 46) dX6_findZeros_44 rfl ?_
      refine j_iand (n := 47) dX6_findZeros_46 rfl ?_
      refine j_topi _ (fa_and c (a &&& b)) ?_
      refine j_iload5 (n := 49) dX6_findZeros_47 rfl ?_
      have hca : c &&& (a &&& b) ≤ c := Nat.and_le_left
      refine j_nicmp_ne (n := 52) 66 dX6_findZeros_49 rfl (by decide) (by omega) (by omega) (fun e1 => ?_) (fun e1 => ?_)
      · refine j_iconst (n := 67) (nI 0) dX6_findZeros_66 rfl (by decide) ?_
        exact h67 false (by simp [e1])
      refine j_iload7 (n := 54) dX6_findZeros_52 rfl ?_
      refine j_iload6 (n := 56) dX6_findZeros_54 rfl ?_
      refine j_ior (n := 57) dX6_findZeros_56 rfl ?_
      refine j_topi _ (fa_or c (a ||| b)) ?_
      refine j_iload6 (n := 59) dX6_findZeros_57 rfl ?_
      have hco : c ||| (a ||| b) < 2 ^ n := Nat.or_lt_two_pow (by omega) hor
      refine j_nicmp_ne (n := 62) 66 dX6_findZeros_59 rfl (by decide) (by omega) (by omega) (fun e2 => ?_) (fun e2 => ?_)
      · refine j_iconst (n := 67) (nI 0) dX6_findZeros_66 rfl (by decide) ?_
        exact h67 false (by simp [e2])
      · refine j_iconst (n := 63) (nI 1) dX6_findZeros_62 rfl (by decide) ?_
        refine j_goto 67 dX6_findZeros_63 (by decide) ?_
        exact h67 true (by simp [e1, e2])
  refine key (a &&& b) (by omega) _ _ rfl (fun j hj => ?_)
  unfold okC
  have : ¬ j &&& (a &&& b) = a &&& b := fun z => by have := and_ge z; omega
  simp [this]
set_option maxRecDepth 100000 in
theorem con_X6_findSecond {g : jG} {M : jMem} {k n t a : Nat} {f : Nat → Int32} (hk : M k = .inr (5, oWit g (k + 1))) (hk2 : M (k + 1) = iA g 4 f) (hkc : k < 50) (hn : n ≤ 5) (ht : t < 2 ^ 32) (ha : a < 2 ^ n) : Con g jX6_findSecond 2 [.ref (jA g k), .int (nI n), .long (lN t), .int (nI a)] M (fun v M2 => v = some (.int (jB (decide (wB n t a < 2 ^ n)))) ∧ ((decide (wB n t a < 2 ^ n) = false ∧ M2 = M) ∨ (decide (wB n t a < 2 ^ n) = true ∧ ∃ f2, M2 = va_up M (k + 1) (iA g 4 f2) ∧ witF f2 a (wB n t a) (wC n t a (wB n t a)) (wD n t a (wB n t a))))) := by
  have h5 := pw5 hn
  refine con_of (l := [some (.ref (jA g k)), some (.int (nI n)), some (.long (lN t)), none, some (.int (nI a)), none]) (by decide) (Nat.le_of_ble_eq_true rfl) rfl ?_
  refine j_iload4 (n := 2) dX6_findSecond_0 rfl ?_
  refine j_iconst (n := 3) (nI 1) dX6_findSecond_2 rfl (by decide) ?_
  refine j_iadd (n := 4) dX6_findSecond_3 rfl ?_
  refine j_topi _ (nI_add a 1) ?_
  refine j_istore5 (n := 6) dX6_findSecond_4 rfl (Nat.le_of_ble_eq_true rfl) rfl ?_
  have key : ∀ b, b ≤ 2 ^ n → a < b → (∀ j, j < b → pB n t a j = false) → J g jX6_findSecond 2 (fun v M2 => v = some (.int (jB (decide (wB n t a < 2 ^ n)))) ∧ ((decide (wB n t a < 2 ^ n) = false ∧ M2 = M) ∨ (decide (wB n t a < 2 ^ n) = true ∧ ∃ f2, M2 = va_up M (k + 1) (iA g 4 f2) ∧ witF f2 a (wB n t a) (wC n t a (wB n t a)) (wD n t a (wB n t a))))) 6 [some (.ref (jA g k)), some (.int (nI n)), some (.long (lN t)), none, some (.int (nI a)), some (.int (nI b))] [] M := by
    refine j_for ?_ ?_
    · intro hab hno
      refine j_iload5 (n := 8) dX6_findSecond_6 rfl ?_
      refine j_iload_n1 (n := 9) dX6_findSecond_8 rfl ?_
      refine j_fnS1 (n := 12) (con_X5_number (by omega)) dX6_findSecond_9 rfl cal_X5_number ml_X6_15 (Nat.le_of_ble_eq_true rfl) (Nat.le_of_ble_eq_true rfl) ?_
      refine j_nicmp_ge (n := 15) 44 dX6_findSecond_12 rfl (by decide) (by omega) (by omega) (fun h => ?_) (fun h => ?_)
      rotate_left
      · omega
      have hf : decide (wB n t a < 2 ^ n) = false := dec_first_f hno
      refine j_iconst (n := 45) (nI 0) dX6_findSecond_44 rfl (by decide) ?_
      exact j_ret0 hf dX6_findSecond_45 rfl ⟨rfl, Or.inl ⟨hf, rfl⟩⟩
    · intro b hb ih hab hno
      refine j_iload5 (n := 8) dX6_findSecond_6 rfl ?_
      refine j_iload_n1 (n := 9) dX6_findSecond_8 rfl ?_
      refine j_fnS1 (n := 12) (con_X5_number (by omega)) dX6_findSecond_9 rfl cal_X5_number ml_X6_15 (Nat.le_of_ble_eq_true rfl) (Nat.le_of_ble_eq_true rfl) ?_
      refine j_nicmp_ge (n := 15) 44 dX6_findSecond_12 rfl (by decide) (by omega) (by omega) (fun h => ?_) (fun h => ?_)
      · omega
      have next : pB n t a b = false → J g jX6_findSecond 2 (fun v M2 => v = some (.int (jB (decide (wB n t a < 2 ^ n)))) ∧ ((decide (wB n t a < 2 ^ n) = false ∧ M2 = M) ∨ (decide (wB n t a < 2 ^ n) = true ∧ ∃ f2, M2 = va_up M (k + 1) (iA g 4 f2) ∧ witF f2 a (wB n t a) (wC n t a (wB n t a)) (wD n t a (wB n t a))))) 38 [some (.ref (jA g k)), some (.int (nI n)), some (.long (lN t)), none, some (.int (nI a)), some (.int (nI b))] [] M := by
        intro hq
        refine j_inc5 (n := 41) dX6_findSecond_38 rfl (Nat.le_of_ble_eq_true rfl) rfl ?_
        refine j_goto 6 dX6_findSecond_41 (by decide) ?_
        refine ih (by omega) (fun j hj => ?_)
        by_cases q : j = b
        · rw [q]; exact hq
        · exact hno j (by omega)
      refine j_lload_n2 (n := 16) dX6_findSecond_15 rfl ?_
      refine j_iload5 (n := 18) dX6_findSecond_16 rfl ?_
      refine j_fnS2 (n := 21) (con_X5_isOne (by omega) (by omega)) dX6_findSecond_18 rfl cal_X5_isOne ml_X6_21 (Nat.le_of_ble_eq_true rfl) (Nat.le_of_ble_eq_true rfl) ?_
      refine j_bif_eq (n := 24) 38 dX6_findSecond_21 rfl (by decide) (fun e1 => ?_) (fun e1 => ?_)
      · exact next (by simp [pB, e1])
      refine j_aload_n0 (n := 25) dX6_findSecond_24 rfl ?_
      refine j_lload_n2 (n := 26) dX6_findSecond_25 rfl ?_
      refine j_iload4 (n := 28) dX6_findSecond_26 rfl ?_
      refine j_iload5 (n := 30) dX6_findSecond_28 rfl ?_
      refine j_cV3 (n := 33) (con_X6_findZeros hk hk2 hkc hn ht ha hb) dX6_findSecond_30 rfl cal_X6_findZeros ml_X6_29 (Nat.le_of_ble_eq_true rfl) (by omega) rfl rfl (Nat.le_of_ble_eq_true rfl) hk ?_
      rintro _ M2 ⟨rfl, hM2⟩
      rcases hM2 with ⟨e2, rfl⟩ | ⟨e2, f2, rfl, hw⟩
      · refine j_bif_eq (n := 36) 38 dX6_findSecond_33 rfl (by decide) (fun _ => ?_) (fun z => ?_)
        · exact next (by simp [pB, e2])
        · rw [e2] at z; cases z
      · refine j_bif_eq (n := 36) 38 dX6_findSecond_33 rfl (by decide) (fun z => ?_) (fun _ => ?_)
        · rw [e2] at z; cases z
        have hyes : pB n t a b = true := by simp [pB, e1, e2, hab]
        have hh : decide (wB n t a < 2 ^ n) = true := dec_first_t hno hyes hb
        have hwb : wB n t a = b := first_at hno hyes _ hb
        refine j_iconst (n := 37) (nI 1) dX6_findSecond_36 rfl (by decide) ?_
        refine j_ret1 hh dX6_findSecond_37 rfl ⟨rfl, Or.inr ⟨hh, f2, rfl, ?_⟩⟩
        rw [hwb]
        exact hw
  refine key (a + 1) (by omega) (by omega) (fun j hj => ?_)
  simp [pB, show ¬ a < j by omega]
set_option maxRecDepth 100000 in
theorem con_X6_find {g : jG} {M : jMem} {k n t : Nat} {f : Nat → Int32} (hk : M k = .inr (5, oWit g (k + 1))) (hk2 : M (k + 1) = iA g 4 f) (hkc : k < 50) (hn : n ≤ 5) (ht : t < 2 ^ 32) : Con g jX6_find 3 [.ref (jA g k), .int (nI n), .long (lN t)] M (fun v M2 => v = some (.int (jB (!isG n t))) ∧ ((isG n t = true ∧ M2 = M) ∨ (isG n t = false ∧ ∃ f2, M2 = va_up M (k + 1) (iA g 4 f2) ∧ witF f2 (wA n t) (wB n t (wA n t)) (wC n t (wA n t) (wB n t (wA n t))) (wD n t (wA n t) (wB n t (wA n t)))))) := by
  have h5 := pw5 hn
  refine con_of (l := [some (.ref (jA g k)), some (.int (nI n)), some (.long (lN t)), none, none]) (by decide) (Nat.le_of_ble_eq_true rfl) rfl ?_
  refine j_iconst (n := 1) (nI 0) dX6_find_0 rfl (by decide) ?_
  refine j_istore4 (n := 3) dX6_find_1 rfl (Nat.le_of_ble_eq_true rfl) rfl ?_
  have key : ∀ a, a ≤ 2 ^ n → (∀ j, j < a → pA n t j = false) → J g jX6_find 3 (fun v M2 => v = some (.int (jB (!isG n t))) ∧ ((isG n t = true ∧ M2 = M) ∨ (isG n t = false ∧ ∃ f2, M2 = va_up M (k + 1) (iA g 4 f2) ∧ witF f2 (wA n t) (wB n t (wA n t)) (wC n t (wA n t) (wB n t (wA n t))) (wD n t (wA n t) (wB n t (wA n t)))))) 3 [some (.ref (jA g k)), some (.int (nI n)), some (.long (lN t)), none, some (.int (nI a))] [] M := by
    refine j_for ?_ ?_
    · intro hno
      refine j_iload4 (n := 5) dX6_find_3 rfl ?_
      refine j_iload_n1 (n := 6) dX6_find_5 rfl ?_
      refine j_fnS1 (n := 9) (con_X5_number (by omega)) dX6_find_6 rfl cal_X5_number ml_X6_15 (Nat.le_of_ble_eq_true rfl) (Nat.le_of_ble_eq_true rfl) ?_
      refine j_nicmp_ge (n := 12) 40 dX6_find_9 rfl (by decide) (by omega) (by omega) (fun h => ?_) (fun h => ?_)
      rotate_left
      · omega
      have hf : isG n t = true := by unfold isG; rw [dec_first_f hno]; rfl
      refine j_iconst (n := 41) (nI 0) dX6_find_40 rfl (by decide) ?_
      refine j_ret0 ?_ dX6_find_41 rfl ⟨rfl, Or.inl ⟨hf, rfl⟩⟩
      rw [hf]; rfl
    · intro a ha ih hno
      refine j_iload4 (n := 5) dX6_find_3 rfl ?_
      refine j_iload_n1 (n := 6) dX6_find_5 rfl ?_
      refine j_fnS1 (n := 9) (con_X5_number (by omega)) dX6_find_6 rfl cal_X5_number ml_X6_15 (Nat.le_of_ble_eq_true rfl) (Nat.le_of_ble_eq_true rfl) ?_
      refine j_nicmp_ge (n := 12) 40 dX6_find_9 rfl (by decide) (by omega) (by omega) (fun h => ?_) (fun h => ?_)
      · omega
      have next : pA n t a = false → J g jX6_find 3 (fun v M2 => v = some (.int (jB (!isG n t))) ∧ ((isG n t = true ∧ M2 = M) ∨ (isG n t = false ∧ ∃ f2, M2 = va_up M (k + 1) (iA g 4 f2) ∧ witF f2 (wA n t) (wB n t (wA n t)) (wC n t (wA n t) (wB n t (wA n t))) (wD n t (wA n t) (wB n t (wA n t)))))) 34 [some (.ref (jA g k)), some (.int (nI n)), some (.long (lN t)), none, some (.int (nI a))] [] M := by
        intro hq
        refine j_inc4 (n := 37) dX6_find_34 rfl (Nat.le_of_ble_eq_true rfl) rfl ?_
        refine j_goto 3 dX6_find_37 (by decide) ?_
        refine ih (fun j hj => ?_)
        by_cases q : j = a
        · rw [q]; exact hq
        · exact hno j (by omega)
      refine j_lload_n2 (n := 13) dX6_find_12 rfl ?_
      refine j_iload4 (n := 15) dX6_find_13 rfl ?_
      refine j_fnS2 (n := 18) (con_X5_isOne (by omega) (by omega)) dX6_find_15 rfl cal_X5_isOne ml_X6_21 (Nat.le_of_ble_eq_true rfl) (Nat.le_of_ble_eq_true rfl) ?_
      refine j_bif_eq (n := 21) 34 dX6_find_18 rfl (by decide) (fun e1 => ?_) (fun e1 => ?_)
      · exact next (by simp [pA, e1])
      refine j_aload_n0 (n := 22) dX6_find_21 rfl ?_
      refine j_iload_n1 (n := 23) dX6_find_22 rfl ?_
      refine j_lload_n2 (n := 24) dX6_find_23 rfl ?_
      refine j_iload4 (n := 26) dX6_find_24 rfl ?_
      refine j_cV3 (n := 29) (con_X6_findSecond hk hk2 hkc hn ht ha) dX6_find_26 rfl cal_X6_findSecond ml_X6_25 (Nat.le_of_ble_eq_true rfl) (by omega) rfl rfl (Nat.le_of_ble_eq_true rfl) hk ?_
      rintro _ M2 ⟨rfl, hM2⟩
      rcases hM2 with ⟨e2, rfl⟩ | ⟨e2, f2, rfl, hw⟩
      · refine j_bif_eq (n := 32) 34 dX6_find_29 rfl (by decide) (fun _ => ?_) (fun z => ?_)
        · refine next ?_
          unfold pA
          have e3 : decide (fa_first (pB n t a) (2 ^ n) < 2 ^ n) = false := e2
          rw [e3]
          simp
        · rw [e2] at z; cases z
      · refine j_bif_eq (n := 32) 34 dX6_find_29 rfl (by decide) (fun z => ?_) (fun _ => ?_)
        · rw [e2] at z; cases z
        have hyes : pA n t a = true := by
          unfold pA
          have e3 : decide (fa_first (pB n t a) (2 ^ n) < 2 ^ n) = true := e2
          rw [e3, e1]
          rfl
        have hh : isG n t = false := by unfold isG; rw [dec_first_t hno hyes ha]; rfl
        have hwa : wA n t = a := first_at hno hyes _ ha
        refine j_iconst (n := 33) (nI 1) dX6_find_32 rfl (by decide) ?_
        refine j_ret1 ?_ dX6_find_33 rfl ⟨rfl, Or.inr ⟨hh, f2, rfl, ?_⟩⟩
        · rw [hh]; rfl
        · rw [hwa]; exact hw
  exact key 0 (Nat.zero_le _) (fun j hj => absurd hj (Nat.not_lt_zero j))
