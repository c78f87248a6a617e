/-- s stands ahead of v, from input 0 on -/
def vlt (n : Nat) (s v : Nat → Nat) : Prop := ∃ i, i < n ∧ (∀ j, j < i → s j = v j) ∧ s i < v i
theorem sm_tail {f : Nat → Nat} {m : Nat} : ∀ k, (∀ j, m ≤ j → j < m + k → f j = 0) → fb_sm f (m + k) = fb_sm f m
  | 0, _ => rfl
  | k + 1, h => by
    show fb_sm f (m + k) + f (m + k) = _
    rw [sm_tail k (fun j h1 h2 => h j h1 (by omega)), h (m + k) (by omega) (by omega)]
    rfl
theorem sm_to {f : Nat → Nat} {m n : Nat} (hmn : m ≤ n) (h : ∀ j, m ≤ j → j < n → f j = 0) : fb_sm f n = fb_sm f m := by
  have := sm_tail (f := f) (m := m) (n - m) (fun j h1 h2 => h j h1 (by omega))
  have e : m + (n - m) = n := by omega
  rw [e] at this
  exact this
theorem sm_up {f : Nat → Nat} : ∀ {m n : Nat}, m ≤ n → fb_sm f m ≤ fb_sm f n := by
  intro m n h
  have := fb_sm_mono f m (n - m)
  have e : m + (n - m) = n := by omega
  rw [e] at this
  exact this
theorem sm_at {f : Nat → Nat} {i n : Nat} (h : i < n) : f i ≤ fb_sm f n := by
  have h1 : fb_sm f (i + 1) = fb_sm f i + f i := rfl
  have h2 := sm_up (f := f) (show i + 1 ≤ n by omega)
  omega
/-- the next one of the same sum: j grows, what lies behind goes to the last -/
def nxt (n j : Nat) (s : Nat → Nat) : Nat → Nat := fun k => if k < j then s k else if k = j then s j + 1 else if k = n - 1 then s (j + 1) - 1 else 0
theorem nxt_sum {n j : Nat} {s : Nat → Nat} (hj : j + 1 < n) (h0 : 0 < s (j + 1)) (hz : ∀ k, j + 1 < k → k < n → s k = 0) : fb_sm (nxt n j s) n = fb_sm s n := by
  obtain ⟨m, rfl⟩ : ∃ m, n = m + 1 := ⟨n - 1, by omega⟩
  have e1 : fb_sm s (m + 1) = fb_sm s (j + 1) + s (j + 1) := sm_to (m := j + 2) (by omega) (fun k h1 h2 => hz k (by omega) h2)
  have e2 : fb_sm (nxt (m + 1) j s) m = fb_sm (nxt (m + 1) j s) (j + 1) := sm_to (by omega) (fun k h1 h2 => by simp [nxt, show ¬ k < j by omega, show ¬ k = j by omega, show ¬ k = m by omega])
  have e3 : fb_sm (nxt (m + 1) j s) j = fb_sm s j := fb_sm_cong (fun k hk => by simp [nxt, hk])
  have e4 : nxt (m + 1) j s j = s j + 1 := by simp [nxt]
  have e5 : nxt (m + 1) j s m = s (j + 1) - 1 := by simp [nxt, show ¬ m < j by omega, show ¬ m = j by omega]
  show fb_sm (nxt (m + 1) j s) m + nxt (m + 1) j s m = _
  rw [e1, e2, e5]
  show fb_sm (nxt (m + 1) j s) j + nxt (m + 1) j s j + (s (j + 1) - 1) = fb_sm s j + s j + s (j + 1)
  rw [e3, e4]
  omega
theorem nxt_lt {n j : Nat} {s : Nat → Nat} (hj : j + 1 < n) : vlt n s (nxt n j s) := ⟨j, by omega, fun k hk => by simp [nxt, hk], by simp [nxt]⟩
theorem nxt_first {n j : Nat} {s v : Nat → Nat} (hj : j + 1 < n) (h0 : 0 < s (j + 1)) (hz : ∀ k, j + 1 < k → k < n → s k = 0) (hv : fb_sm v n = fb_sm s n) (hl : vlt n s v) : ¬ vlt n v (nxt n j s) := by
  obtain ⟨i, hi, ha, hb⟩ := hl
  have e1 : fb_sm s n = fb_sm s (j + 2) := sm_to (by omega) (fun k h1 h2 => hz k (by omega) h2)
  have hij : i ≤ j := by
    rcases Nat.lt_or_ge j i with h | h
    · have h1 : fb_sm v i = fb_sm s i := fb_sm_cong (fun k hk => (ha k hk).symm)
      have h2 : fb_sm v (i + 1) = fb_sm v i + v i := rfl
      have h3 : fb_sm s (i + 1) = fb_sm s i + s i := rfl
      have h4 := sm_up (f := v) (show i + 1 ≤ n by omega)
      have h5 := sm_up (f := s) (show j + 2 ≤ i + 1 by omega)
      omega
    · exact h
  rintro ⟨k, hk, hc, hd⟩
  rcases Nat.lt_or_ge i j with h | h
  · have e2 : nxt n j s i = s i := by simp [nxt, h]
    rcases Nat.lt_trichotomy k i with q | q | q
    · have e3 : nxt n j s k = s k := by simp [nxt, show k < j by omega]
      have := ha k q
      omega
    · subst q
      omega
    · have := hc i q
      omega
  · have e : i = j := by omega
    subst e
    have e2 : nxt n i s i = s i + 1 := by simp [nxt]
    rcases Nat.lt_trichotomy k i with q | q | q
    · have e3 : nxt n i s k = s k := by simp [nxt, q]
      have := ha k q
      omega
    · subst q
      omega
    · have e4 : k = n - 1 := by
        rcases Nat.eq_or_lt_of_le (show k ≤ n - 1 by omega) with z | z
        · exact z
        · have : nxt n i s k = 0 := by simp [nxt, show ¬ k < i by omega, show ¬ k = i by omega, show ¬ k = n - 1 by omega]
          omega
      have h1 : fb_sm v k = fb_sm (nxt n i s) k := fb_sm_cong hc
      have h2 : fb_sm v (k + 1) = fb_sm v k + v k := rfl
      have h3 : fb_sm (nxt n i s) (k + 1) = fb_sm (nxt n i s) k + nxt n i s k := rfl
      have h4 := nxt_sum hj h0 hz
      have e5 : k + 1 = n := by omega
      rw [e5] at h2 h3
      omega
theorem no_next {n : Nat} {s v : Nat → Nat} (hz : ∀ k, 0 < k → k < n → s k = 0) (hv : fb_sm v n = fb_sm s n) : ¬ vlt n s v := by
  rintro ⟨i, hi, ha, hb⟩
  have e1 : fb_sm s n = fb_sm s 1 := sm_to (by omega) (fun k h1 h2 => hz k (by omega) h2)
  have h1 : fb_sm v i = fb_sm s i := fb_sm_cong (fun k hk => (ha k hk).symm)
  have h2 : fb_sm v (i + 1) = fb_sm v i + v i := rfl
  have h3 : fb_sm s (i + 1) = fb_sm s i + s i := rfl
  have h4 := sm_up (f := v) (show i + 1 ≤ n by omega)
  have h5 := sm_up (f := s) (show 1 ≤ i + 1 by omega)
  omega
set_option maxRecDepth 100000 in
set_option maxHeartbeats 1000000 in
theorem con_X8_next {g : jG} {M : jMem} {q : jMq} {n S : Nat} {sz : Nat → Int32} {s : Nat → Nat} (h34 : M 34 = .inr (7, oMod g q)) (h40 : M 40 = iA g 5 sz) (h1 : 1 ≤ n) (hn : n ≤ 5) (hs : ∀ i, i < n → sz i = nI (s i)) (hS : fb_sm s n = S) (h100 : S ≤ 100) : Con g jX8_next 0 [.ref (jA g 34), .int (nI n), .int (nI S)] M (fun v M2 => (v = some (.int (jB false)) ∧ M2 = M ∧ ∀ k, 0 < k → k < n → s k = 0) ∨ (v = some (.int (jB true)) ∧ ∃ j sz2, M2 = va_up M 40 (iA g 5 sz2) ∧ (∀ i, i < n → sz2 i = nI (nxt n j s i)) ∧ j + 1 < n ∧ 0 < s (j + 1) ∧ ∀ k, j + 1 < k → k < n → s k = 0)) := by
  have hsb : ∀ i, i < n → s i ≤ 100 := fun i hi => Nat.le_trans (sm_at hi) (by omega)
  refine con_of (l := [some (.ref (jA g 34)), some (.int (nI n)), some (.int (nI S)), none, none, none, none]) (by decide) (Nat.le_of_ble_eq_true rfl) rfl ?_
  refine j_aload_n0 (n := 1) dX8_next_0 rfl ?_
  refine j_get (n := 4) (k := 8) dX8_next_1 rfl jcl7 (Nat.le_of_ble_eq_true rfl) fl_X8_33 (by first | decide | omega) (by first | assumption | rfl) (by rfl) ?_
  refine j_iload_n1 (n := 5) dX8_next_4 rfl ?_
  refine j_iconst (n := 6) (nI 1) dX8_next_5 rfl (by decide) ?_
  refine j_isub (n := 7) dX8_next_6 rfl ?_
  refine j_topi (nI (n - 1)) (pk_sub h1) ?_
  refine j_iald_n (n := 8) dX8_next_7 rfl (by first | decide | omega) (by first | assumption | rfl) (by decide) (by first | assumption | omega) ?_
  rw [hs (n - 1) (by omega)]
  refine j_istore_n3 (n := 9) dX8_next_8 rfl (Nat.le_of_ble_eq_true rfl) rfl ?_
  refine j_iload_n1 (n := 10) dX8_next_9 rfl ?_
  refine j_iconst (n := 11) (nI 2) dX8_next_10 rfl (by decide) ?_
  refine j_isub (n := 12) dX8_next_11 rfl ?_
  refine j_topi (iI ((n : Int) - 2 - ((0 : Nat) : Int))) (by rw [← iI_nat, ← iI_nat, iI_sub]; simp) ?_
  refine j_istore4 (n := 14) dX8_next_12 rfl (Nat.le_of_ble_eq_true rfl) rfl ?_
  have key : ∀ p, p ≤ n - 1 → (∀ k, n - 1 - p < k → k < n → s k = 0) → J g jX8_next 0 (fun v M2 => (v = some (.int (jB false)) ∧ M2 = M ∧ ∀ k, 0 < k → k < n → s k = 0) ∨ (v = some (.int (jB true)) ∧ ∃ j sz2, M2 = va_up M 40 (iA g 5 sz2) ∧ (∀ i, i < n → sz2 i = nI (nxt n j s i)) ∧ j + 1 < n ∧ 0 < s (j + 1) ∧ ∀ k, j + 1 < k → k < n → s k = 0)) 14 [some (.ref (jA g 34)), some (.int (nI n)), some (.int (nI S)), some (.int (nI (s (n - 1 - p)))), some (.int (iI ((n : Int) - 2 - (p : Int)))), none, none] [] M := by
    refine j_for ?_ ?_
    · intro hz
      refine j_iload4 (n := 16) dX8_next_14 rfl ?_
      refine j_if_lt (n := 19) 39 dX8_next_16 rfl (by decide) (fun e => ?_) (fun e => ?_)
      rotate_left
      · exact absurd ((iI_lt (a := (n : Int) - 2 - ((n - 1 : Nat) : Int)) (b := 0) (by omega) (by omega)).mpr (by omega)) e
      refine j_iload4 (n := 41) dX8_next_39 rfl ?_
      refine j_if_ge (n := 44) 46 dX8_next_41 rfl (by decide) (fun e2 => ?_) (fun e2 => ?_)
      · have q1 := (iI_le (a := 0) (b := (n : Int) - 2 - ((n - 1 : Nat) : Int)) (by omega) (by omega)).mp e2
        omega
      refine j_iconst (n := 45) (nI 0) dX8_next_44 rfl (by decide) ?_
      refine j_ret0 (b := false) rfl dX8_next_45 rfl (Or.inl ⟨rfl, rfl, fun k h2 h3 => hz k (by omega) h3⟩)
    · intro p hp ih hz
      have e1 : iI ((n : Int) - 2 - (p : Int)) = nI (n - 2 - p) := by
        rw [← iI_nat]
        congr 1
        omega
      have hb := hsb (n - 1 - p) (by omega)
      have hb2 := hsb (n - 2 - p) (by omega)
      refine j_iload4 (n := 16) dX8_next_14 rfl ?_
      refine j_if_lt (n := 19) 39 dX8_next_16 rfl (by decide) (fun e => ?_) (fun e => ?_)
      · have := (iI_lt (a := (n : Int) - 2 - (p : Int)) (b := 0) (by omega) (by omega)).mp e
        omega
      refine j_iload_n3 (n := 20) dX8_next_19 rfl ?_
      refine j_if_ne (n := 23) 39 dX8_next_20 rfl (by decide) (fun e2 => ?_) (fun e2 => ?_)
      rotate_left
      · have e3 : s (n - 1 - p) = 0 := (nI_eq (by omega) (by omega)).mp e2
        rw [e1, e3]
        refine j_iload_n3 (n := 24) dX8_next_23 rfl ?_
        refine j_aload_n0 (n := 25) dX8_next_24 rfl ?_
        refine j_get (n := 28) (k := 8) dX8_next_25 rfl jcl7 (Nat.le_of_ble_eq_true rfl) fl_X8_33 (by first | decide | omega) (by first | assumption | rfl) (by rfl) ?_
        refine j_iload4 (n := 30) dX8_next_28 rfl ?_
        refine j_iald_n (n := 31) dX8_next_30 rfl (by first | decide | omega) (by first | assumption | rfl) (by decide) (by first | assumption | omega) ?_
        rw [hs (n - 2 - p) (by omega)]
        refine j_iadd (n := 32) dX8_next_31 rfl ?_
        refine j_topi (nI (s (n - 1 - (p + 1)))) (by rw [nI_add, Nat.zero_add]; congr 2; omega) ?_
        refine j_istore_n3 (n := 33) dX8_next_32 rfl (Nat.le_of_ble_eq_true rfl) rfl ?_
        refine j_iinc4 (n := 36) (v := iI ((n : Int) - 2 - ((p + 1 : Nat) : Int))) dX8_next_33 rfl (Nat.le_of_ble_eq_true rfl) rfl ?_ ?_
        · rw [← e1]
          show iI _ + iI (-1) = _
          rw [iI_add]
          congr 1
          omega
        refine j_goto 14 dX8_next_36 (by decide) ?_
        refine ih (fun k h2 h3 => ?_)
        rcases Nat.eq_or_lt_of_le (show n - 1 - p ≤ k by omega) with z | z
        · rw [← z]; exact e3
        · exact hz k z h3
      have e3 : 0 < s (n - 1 - p) := Nat.pos_of_ne_zero (fun z => e2 (by rw [z]; rfl))
      obtain ⟨j, hj⟩ : ∃ j, j = n - 2 - p := ⟨_, rfl⟩
      have hj1 : n - 1 - p = j + 1 := by omega
      rw [hj1] at e3 hb hz ⊢
      rw [e1, ← hj]
      have hjn : j + 1 < n := by omega
      have hSj : fb_sm s (j + 1) + s (j + 1) = S := by
        rw [← hS]
        exact (sm_to (m := j + 2) (by omega) (fun k h2 h3 => hz k (by omega) h3)).symm
      have hsj : fb_sm s (j + 1) = fb_sm s j + s j := rfl
      refine j_iload4 (n := 41) dX8_next_39 rfl ?_
      refine j_if_ge (n := 44) 46 dX8_next_41 rfl (by decide) (fun e4 => ?_) (fun e4 => ?_)
      rotate_left
      · exact absurd ((nI_leI (a := 0) (b := j) (by omega) (by omega)).mpr (Nat.zero_le _)) e4
      refine j_aload_n0 (n := 47) dX8_next_46 rfl ?_
      refine j_get (n := 50) (k := 8) dX8_next_47 rfl jcl7 (Nat.le_of_ble_eq_true rfl) fl_X8_33 (by first | decide | omega) (by first | assumption | rfl) (by rfl) ?_
      refine j_iload4 (n := 52) dX8_next_50 rfl ?_
      refine j_dup2_11 (n := 53) dX8_next_52 rfl rfl rfl ?_
      refine j_iald_n (n := 54) dX8_next_53 rfl (by first | decide | omega) (by first | assumption | rfl) (by decide) (by first | assumption | omega) ?_
      rw [hs j (by omega)]
      refine j_iconst (n := 55) (nI 1) dX8_next_54 rfl (by decide) ?_
      refine j_iadd (n := 56) dX8_next_55 rfl ?_
      refine j_topi (nI (s j + 1)) (nI_add _ 1) ?_
      refine j_iast_n (n := 57) dX8_next_56 rfl (by first | decide | omega) (by first | assumption | rfl) (by decide) (by first | assumption | omega) ?_
      refine j_iload_n2 (n := 58) dX8_next_57 rfl ?_
      refine j_istore5 (n := 60) dX8_next_58 rfl (Nat.le_of_ble_eq_true rfl) rfl ?_
      refine j_iconst (n := 61) (nI 0) dX8_next_60 rfl (by decide) ?_
      refine j_istore6 (n := 63) dX8_next_61 rfl (Nat.le_of_ble_eq_true rfl) rfl ?_
      have hs1 : ∀ i, i < n → upd sz j (nI (s j + 1)) i = nI (va_up s j (s j + 1) i) := by
        intro i hi
        by_cases z : i = j
        · rw [z, pk_us]
          simp [va_up]
        · rw [pk_un z, hs i hi]
          simp [va_up, z]
      have loop3 : ∀ i, i ≤ n - 1 → j + 1 ≤ i → ∀ f : Nat → Int32, (∀ k, k < n → (k < i ∨ k ≤ j) → f k = nI (if k ≤ j then va_up s j (s j + 1) k else 0)) → J g jX8_next 0 (fun v M2 => (v = some (.int (jB false)) ∧ M2 = M ∧ ∀ k, 0 < k → k < n → s k = 0) ∨ (v = some (.int (jB true)) ∧ ∃ j sz2, M2 = va_up M 40 (iA g 5 sz2) ∧ (∀ i, i < n → sz2 i = nI (nxt n j s i)) ∧ j + 1 < n ∧ 0 < s (j + 1) ∧ ∀ k, j + 1 < k → k < n → s k = 0)) 94 [some (.ref (jA g 34)), some (.int (nI n)), some (.int (nI S)), some (.int (nI (s (j + 1)))), some (.int (nI j)), some (.int (nI (s (j + 1) - 1))), some (.int (nI i))] [] (va_up M 40 (iA g 5 f)) := by
        refine j_for ?_ ?_
        · intro _ f hf
          refine j_iload6 (n := 96) dX8_next_94 rfl ?_
          refine j_iload_n1 (n := 97) dX8_next_96 rfl ?_
          refine j_iconst (n := 98) (nI 1) dX8_next_97 rfl (by decide) ?_
          refine j_isub (n := 99) dX8_next_98 rfl ?_
          refine j_topi (nI (n - 1)) (pk_sub h1) ?_
          refine j_nicmp_ge (n := 102) 116 dX8_next_99 rfl (by decide) (by omega) (by omega) (fun h => ?_) (fun h => ?_)
          rotate_left
          · omega
          refine j_aload_n0 (n := 117) dX8_next_116 rfl ?_
          refine j_get (n := 120) (k := 8) dX8_next_117 rfl jcl7 (Nat.le_of_ble_eq_true rfl) fl_X8_33 (by first | decide | omega) (by first | assumption | rfl) (by rfl) ?_
          refine j_iload_n1 (n := 121) dX8_next_120 rfl ?_
          refine j_iconst (n := 122) (nI 1) dX8_next_121 rfl (by decide) ?_
          refine j_isub (n := 123) dX8_next_122 rfl ?_
          refine j_topi (nI (n - 1)) (pk_sub h1) ?_
          refine j_iload5 (n := 125) dX8_next_123 rfl ?_
          refine j_iast_n (n := 126) dX8_next_125 rfl (by first | decide | omega) (by first | assumption | rfl) (by decide) (by first | assumption | omega) ?_
          rw [va_uu]
          refine j_iconst (n := 127) (nI 1) dX8_next_126 rfl (by decide) ?_
          refine j_ret1 (b := true) rfl dX8_next_127 rfl (Or.inr ⟨rfl, j, _, rfl, fun i hi => ?_, hjn, e3, hz⟩)
          by_cases z : i = n - 1
          · rw [z, pk_us]
            simp [nxt, show ¬ n - 1 < j by omega, show ¬ n - 1 = j by omega]
          · rw [pk_un z, hf i hi (by omega)]
            rcases Nat.lt_trichotomy i j with y | y | y
            · simp [nxt, va_up, y, Nat.le_of_lt y, show ¬ i = j by omega]
            · simp [nxt, va_up, y]
            · simp [nxt, show ¬ i ≤ j by omega, show ¬ i < j by omega, show ¬ i = j by omega, z]
        · intro i hi ih3 hji f hf
          refine j_iload6 (n := 96) dX8_next_94 rfl ?_
          refine j_iload_n1 (n := 97) dX8_next_96 rfl ?_
          refine j_iconst (n := 98) (nI 1) dX8_next_97 rfl (by decide) ?_
          refine j_isub (n := 99) dX8_next_98 rfl ?_
          refine j_topi (nI (n - 1)) (pk_sub h1) ?_
          refine j_nicmp_ge (n := 102) 116 dX8_next_99 rfl (by decide) (by omega) (by omega) (fun h => ?_) (fun h => ?_)
          · omega
          refine j_aload_n0 (n := 103) dX8_next_102 rfl ?_
          refine j_get (n := 106) (k := 8) dX8_next_103 rfl jcl7 (Nat.le_of_ble_eq_true rfl) fl_X8_33 (by first | decide | omega) (by first | assumption | rfl) (by rfl) ?_
          refine j_iload6 (n := 108) dX8_next_106 rfl ?_
          refine j_iconst (n := 109) (nI 0) dX8_next_108 rfl (by decide) ?_
          refine j_iast_n (n := 110) dX8_next_109 rfl (by first | decide | omega) (by first | assumption | rfl) (by decide) (by first | assumption | omega) ?_
          refine j_inc6 (n := 113) dX8_next_110 rfl (Nat.le_of_ble_eq_true rfl) rfl ?_
          refine j_goto 94 dX8_next_113 (by decide) ?_
          rw [va_uu]
          refine ih3 (by omega) _ (fun k hk hk2 => ?_)
          by_cases z : k = i
          · rw [z, pk_us, if_neg (by omega)]
          · rw [pk_un z]
            exact hf k hk (by omega)
      have loop2 : ∀ i, i ≤ j + 1 → J g jX8_next 0 (fun v M2 => (v = some (.int (jB false)) ∧ M2 = M ∧ ∀ k, 0 < k → k < n → s k = 0) ∨ (v = some (.int (jB true)) ∧ ∃ j sz2, M2 = va_up M 40 (iA g 5 sz2) ∧ (∀ i, i < n → sz2 i = nI (nxt n j s i)) ∧ j + 1 < n ∧ 0 < s (j + 1) ∧ ∀ k, j + 1 < k → k < n → s k = 0)) 63 [some (.ref (jA g 34)), some (.int (nI n)), some (.int (nI S)), some (.int (nI (s (j + 1)))), some (.int (nI j)), some (.int (iI ((S : Int) - (fb_sm (va_up s j (s j + 1)) i : Nat)))), some (.int (nI i))] [] (va_up M 40 (iA g 5 (upd sz j (nI (s j + 1))))) := by
        refine j_for ?_ ?_
        · refine j_iload6 (n := 65) dX8_next_63 rfl ?_
          refine j_iload4 (n := 67) dX8_next_65 rfl ?_
          refine j_nicmp_gt (n := 70) 88 dX8_next_67 rfl (by decide) (by omega) (by omega) (fun h => ?_) (fun h => ?_)
          rotate_left
          · omega
          have e5 : fb_sm (va_up s j (s j + 1)) (j + 1) = fb_sm s (j + 1) + 1 := by
            show fb_sm (va_up s j (s j + 1)) j + va_up s j (s j + 1) j = _
            rw [fb_sm_cong (g := s) (fun k hk => by simp [va_up, show ¬ k = j by omega])]
            simp [va_up]
            omega
          have e6 : iI ((S : Int) - (fb_sm (va_up s j (s j + 1)) (j + 1) : Nat)) = nI (s (j + 1) - 1) := by
            rw [← iI_nat, e5]
            congr 1
            omega
          rw [e6]
          refine j_iload4 (n := 90) dX8_next_88 rfl ?_
          refine j_iconst (n := 91) (nI 1) dX8_next_90 rfl (by decide) ?_
          refine j_iadd (n := 92) dX8_next_91 rfl ?_
          refine j_topi (nI (j + 1)) (nI_add j 1) ?_
          refine j_istore6 (n := 94) dX8_next_92 rfl (Nat.le_of_ble_eq_true rfl) rfl ?_
          refine loop3 (j + 1) (by omega) (Nat.le_refl _) _ (fun k hk hk2 => ?_)
          rw [hs1 k hk, if_pos (by omega)]
        · intro i hi ih2
          refine j_iload6 (n := 65) dX8_next_63 rfl ?_
          refine j_iload4 (n := 67) dX8_next_65 rfl ?_
          refine j_nicmp_gt (n := 70) 88 dX8_next_67 rfl (by decide) (by omega) (by omega) (fun h => ?_) (fun h => ?_)
          · omega
          refine j_iload5 (n := 72) dX8_next_70 rfl ?_
          refine j_aload_n0 (n := 73) dX8_next_72 rfl ?_
          refine j_get (n := 76) (k := 8) dX8_next_73 rfl jcl7 (Nat.le_of_ble_eq_true rfl) fl_X8_33 (by first | decide | omega) (by first | assumption | rfl) (by rfl) ?_
          refine j_iload6 (n := 78) dX8_next_76 rfl ?_
          refine j_iald_n (n := 79) dX8_next_78 rfl (by first | decide | omega) (by first | assumption | rfl) (by decide) (by first | assumption | omega) ?_
          rw [hs1 i (by omega)]
          refine j_isub (n := 80) dX8_next_79 rfl ?_
          refine j_topi (iI ((S : Int) - (fb_sm (va_up s j (s j + 1)) (i + 1) : Nat))) ?_ ?_
          · rw [← iI_nat, iI_sub]
            congr 1
            show _ = (S : Int) - ((fb_sm (va_up s j (s j + 1)) i + va_up s j (s j + 1) i : Nat) : Int)
            omega
          refine j_istore5 (n := 82) dX8_next_80 rfl (Nat.le_of_ble_eq_true rfl) rfl ?_
          refine j_inc6 (n := 85) dX8_next_82 rfl (Nat.le_of_ble_eq_true rfl) rfl ?_
          refine j_goto 63 dX8_next_85 (by decide) ?_
          exact ih2
      have h0 := loop2 0 (Nat.zero_le _)
      have e7 : iI ((S : Int) - (fb_sm (va_up s j (s j + 1)) 0 : Nat)) = nI S := by
        rw [← iI_nat]
        congr 1
      rw [e7] at h0
      exact h0
  exact key 0 (Nat.zero_le _) (fun k h2 h3 => absurd h2 (by omega))
