def rsumB (w : Nat → Int) (on : Nat → Bool) : Nat → Int
  | 0 => 0
  | i + 1 => rsumB w on i + (if on i then w i else 0)
theorem rsumB_r {w : Nat → Int} {on : Nat → Bool} {r : Nat} : ∀ i, (∀ j, j < i → on j = r.testBit j) → rsumB w on i = rsum w r i
  | 0, _ => rfl
  | i + 1, h => by
    show rsumB w on i + _ = rsum w r i + _
    rw [rsumB_r i (fun j hj => h j (by omega)), h i (by omega)]
def onR (n gt r i : Nat) : Bool := if i < n then r.testBit i else gt.testBit r
theorem xsum_B (w : Nat → Int) (n gt r : Nat) : rsumB w (onR n gt r) (n + 1) = xsum w n gt r := by
  show rsumB w (onR n gt r) n + (if onR n gt r n then w n else 0) = rsum w r n + (if gt.testBit r then w n else 0)
  rw [rsumB_r (on := onR n gt r) (r := r) n (fun j hj => if_pos hj), show onR n gt r n = gt.testBit r from if_neg (Nat.lt_irrefl n)]
theorem rsumB_bd {w : Nat → Int} {on : Nat → Bool} : ∀ i : Nat, (∀ j, j < i → -3 ≤ w j ∧ w j ≤ 3) → -(3 * (i : Int)) ≤ rsumB w on i ∧ rsumB w on i ≤ 3 * (i : Int)
  | 0, _ => by simp [rsumB]
  | i + 1, h => by
    have h1 := rsumB_bd (on := on) i (fun j hj => h j (by omega))
    have h2 := h i (by omega)
    unfold rsumB
    split <;> omega
theorem wK_bd (k i : Nat) : -3 ≤ wK k i ∧ wK k i ≤ 3 := by
  unfold wK
  omega
theorem xsum_bd {k n gt r : Nat} (hn : n ≤ 3) : -12 ≤ xsum (wK k) n gt r ∧ xsum (wK k) n gt r ≤ 12 := by
  have h := rsumB_bd (w := wK k) (on := onR n gt r) (n + 1) (fun j _ => wK_bd k j)
  rw [xsum_B] at h
  omega
theorem ff_no {p : Nat → Bool} {N : Nat} (h : ∀ k, k < N → p k = false) : decide (fa_first p N < N) = false := by
  rw [decide_eq_false_iff_not]
  intro z
  have := fa_first_yes p N z
  rw [h _ z] at this
  cases this
theorem ff_yes {p : Nat → Bool} {N k : Nat} (hk : k < N) (h : p k = true) : fa_first p N < N := by
  have h1 := fa_first_le p N
  rcases Nat.eq_or_lt_of_le h1 with z | z
  · have := fa_first_no p N k (by omega)
    rw [h] at this
    cases this
  · exact z
theorem ff_at {p : Nat → Bool} {N k : Nat} (hk : k < N) (h : p k = true) (hno : ∀ j, j < k → p j = false) : fa_first p N = k := by
  have h1 := ff_yes hk h
  have h2 := fa_first_yes p N h1
  rcases Nat.lt_trichotomy (fa_first p N) k with z | z | z
  · rw [hno _ z] at h2; cases h2
  · exact z
  · have := fa_first_no p N k z
    rw [h] at this; cases this
theorem pw7n {i : Nat} (h : i ≤ 4) : 7 ^ i ≤ 2401 := Nat.le_trans (Nat.pow_le_pow_right (n := 7) (by omega) h) (by decide)
theorem pw8 {n : Nat} (h : n ≤ 3) : 2 ^ n ≤ 8 := Nat.le_trans (Nat.pow_le_pow_right (n := 2) (by omega) h) (by decide)
set_option maxRecDepth 100000 in
theorem con_X8_isSecond {g : jG} {M : jMem} {n t gt : Nat} (hn : n ≤ 3) (ht : t < 2 ^ 31) (hg : gt < 2 ^ 31) : Fn g jX8_isSecond 0 [.ref (jA g 34), .int (nI t), .int (nI n), .int (nI gt)] M (.int (jB (secB n t gt))) := by
  have h8 := pw8 hn
  have h7 := pw7n (i := n + 1) (by omega)
  refine con_of (l := [some (.ref (jA g 34)), some (.int (nI t)), some (.int (nI n)), some (.int (nI gt)), none, none, none, none, none, none, none, none, none]) (by decide) (Nat.le_of_ble_eq_true rfl) rfl ?_
  refine j_iconst (n := 1) (nI 1) dX8_isSecond_0 rfl (by decide) ?_
  refine j_istore4 (n := 3) dX8_isSecond_1 rfl (Nat.le_of_ble_eq_true rfl) rfl ?_
  refine j_iconst (n := 4) (nI 0) dX8_isSecond_3 rfl (by decide) ?_
  refine j_istore5 (n := 6) dX8_isSecond_4 rfl (Nat.le_of_ble_eq_true rfl) rfl ?_
  have lp1 : ∀ i, i ≤ n + 1 → J g jX8_isSecond 0 (fun v M2 => v = some (.int (jB (secB n t gt))) ∧ M2 = M) 6 [some (.ref (jA g 34)), some (.int (nI t)), some (.int (nI n)), some (.int (nI gt)), some (.int (nI (7 ^ i))), some (.int (nI i)), none, none, none, none, none, none, none] [] M := by
    refine j_for ?_ ?_
    rotate_left
    · intro i hi ih
      refine j_iload5 (n := 8) dX8_isSecond_6 rfl ?_
      refine j_iload_n2 (n := 9) dX8_isSecond_8 rfl ?_
      refine j_nicmp_gt (n := 12) 25 dX8_isSecond_9 rfl (by decide) (by omega) (by omega) (fun h => ?_) (fun h => ?_)
      · omega
      refine j_iload4 (n := 14) dX8_isSecond_12 rfl ?_
      refine j_bipush (n := 16) (nI 7) dX8_isSecond_14 rfl (by decide) ?_
      refine j_imul (n := 17) dX8_isSecond_16 rfl ?_
      refine j_topi (nI (7 ^ (i + 1))) (by rw [pk_mul, Nat.pow_succ]) ?_
      refine j_istore4 (n := 19) dX8_isSecond_17 rfl (Nat.le_of_ble_eq_true rfl) rfl ?_
      refine j_inc5 (n := 22) dX8_isSecond_19 rfl (Nat.le_of_ble_eq_true rfl) rfl ?_
      refine j_goto 6 dX8_isSecond_22 (by decide) ?_
      exact ih
    · refine j_iload5 (n := 8) dX8_isSecond_6 rfl ?_
      refine j_iload_n2 (n := 9) dX8_isSecond_8 rfl ?_
      refine j_nicmp_gt (n := 12) 25 dX8_isSecond_9 rfl (by decide) (by omega) (by omega) (fun h => ?_) (fun h => ?_)
      rotate_left
      · omega
      refine j_iconst (n := 26) (nI 0) dX8_isSecond_25 rfl (by decide) ?_
      refine j_istore5 (n := 28) dX8_isSecond_26 rfl (Nat.le_of_ble_eq_true rfl) rfl ?_
      have lp2 : ∀ k, k ≤ 7 ^ (n + 1) → ∀ (x6 x7 x8 x9 x10 x11 x12 : Option Value), (∀ k2, k2 < k → sepK n t gt k2 = false) → J g jX8_isSecond 0 (fun v M2 => v = some (.int (jB (secB n t gt))) ∧ M2 = M) 28 [some (.ref (jA g 34)), some (.int (nI t)), some (.int (nI n)), some (.int (nI gt)), some (.int (nI (7 ^ (n + 1)))), some (.int (nI k)), x6, x7, x8, x9, x10, x11, x12] [] M := by
        refine j_for ?_ ?_
        · intro x6 x7 x8 x9 x10 x11 x12 hno
          refine j_iload5 (n := 30) dX8_isSecond_28 rfl ?_
          refine j_iload4 (n := 32) dX8_isSecond_30 rfl ?_
          refine j_nicmp_ge (n := 35) 214 dX8_isSecond_32 rfl (by decide) (by omega) (by omega) (fun h => ?_) (fun h => ?_)
          rotate_left
          · omega
          refine j_iconst (n := 215) (nI 0) dX8_isSecond_214 rfl (by decide) ?_
          exact j_ret0 (ff_no hno) dX8_isSecond_215 rfl ⟨rfl, rfl⟩
        · intro k hk ih x6 x7 x8 x9 x10 x11 x12 hno
          refine j_iload5 (n := 30) dX8_isSecond_28 rfl ?_
          refine j_iload4 (n := 32) dX8_isSecond_30 rfl ?_
          refine j_nicmp_ge (n := 35) 214 dX8_isSecond_32 rfl (by decide) (by omega) (by omega) (fun h => ?_) (fun h => ?_)
          · omega
          refine j_sipush (n := 38) (nI 1000) dX8_isSecond_35 rfl (by decide) ?_
          refine j_istore6 (n := 40) dX8_isSecond_38 rfl (Nat.le_of_ble_eq_true rfl) rfl ?_
          refine j_sipush (n := 43) (-1000) dX8_isSecond_40 rfl (by decide) ?_
          refine j_istore7 (n := 45) dX8_isSecond_43 rfl (Nat.le_of_ble_eq_true rfl) rfl ?_
          refine j_iconst (n := 46) (nI 0) dX8_isSecond_45 rfl (by decide) ?_
          refine j_istore8 (n := 48) dX8_isSecond_46 rfl (Nat.le_of_ble_eq_true rfl) rfl ?_
          have hxb : ∀ r, -12 ≤ xsum (wK k) n gt r ∧ xsum (wK k) n gt r ≤ 12 := fun r => xsum_bd hn
          have lp3 : ∀ r, r ≤ 2 ^ n → ∀ (x9 x10 x11 x12 : Option Value), J g jX8_isSecond 0 (fun v M2 => v = some (.int (jB (secB n t gt))) ∧ M2 = M) 48 [some (.ref (jA g 34)), some (.int (nI t)), some (.int (nI n)), some (.int (nI gt)), some (.int (nI (7 ^ (n + 1)))), some (.int (nI k)), some (.int (iI (mLow t (xsum (wK k) n gt) r))), some (.int (iI (mHi t (xsum (wK k) n gt) r))), some (.int (nI r)), x9, x10, x11, x12] [] M := by
            refine j_for ?_ ?_
            · intro x9 x10 x11 x12
              have hlo := mLow_bd (t := t) (x := xsum (wK k) n gt) (2 ^ n) (fun j _ => by have := hxb j; omega)
              have hhi := mHi_bd (t := t) (x := xsum (wK k) n gt) (2 ^ n) (fun j _ => by have := hxb j; omega)
              refine j_iload8 (n := 50) dX8_isSecond_48 rfl ?_
              refine j_iconst (n := 51) (nI 1) dX8_isSecond_50 rfl (by decide) ?_
              refine j_iload_n2 (n := 52) dX8_isSecond_51 rfl ?_
              refine j_ishl (n := 53) dX8_isSecond_52 rfl ?_
              refine j_topi (nI (2 ^ n)) (ai_shl1 (by omega)) ?_
              refine j_nicmp_ge (n := 56) 199 dX8_isSecond_53 rfl (by decide) (by omega) (by omega) (fun h2 => ?_) (fun h2 => ?_)
              rotate_left
              · omega
              refine j_iload6 (n := 201) dX8_isSecond_199 rfl ?_
              refine j_iload7 (n := 203) dX8_isSecond_201 rfl ?_
              refine j_zicmp_le (n := 206) 208 dX8_isSecond_203 rfl (by decide) (by omega) (by omega) (fun e => ?_) (fun e => ?_)
              · refine j_inc5 (n := 211) dX8_isSecond_208 rfl (Nat.le_of_ble_eq_true rfl) rfl ?_
                refine j_goto 28 dX8_isSecond_211 (by decide) ?_
                refine ih _ _ _ _ _ _ _ (fun k2 hk2 => ?_)
                rcases Nat.eq_or_lt_of_le (show k2 ≤ k by omega) with z | z
                · rw [z]
                  unfold sepK
                  rw [decide_eq_false_iff_not]
                  omega
                · exact hno k2 z
              · refine j_iconst (n := 207) (nI 1) dX8_isSecond_206 rfl (by decide) ?_
                refine j_ret1 (b := secB n t gt) ?_ dX8_isSecond_207 rfl ⟨rfl, rfl⟩
                unfold secB
                rw [decide_eq_true_eq]
                refine ff_yes hk ?_
                unfold sepK
                rw [decide_eq_true_eq]
                omega
            · intro r hr ih3 x9 x10 x11 x12
              have hlo := mLow_bd (t := t) (x := xsum (wK k) n gt) r (fun j _ => by have := hxb j; omega)
              have hhi := mHi_bd (t := t) (x := xsum (wK k) n gt) r (fun j _ => by have := hxb j; omega)
              have hxr := hxb r
              refine j_iload8 (n := 50) dX8_isSecond_48 rfl ?_
              refine j_iconst (n := 51) (nI 1) dX8_isSecond_50 rfl (by decide) ?_
              refine j_iload_n2 (n := 52) dX8_isSecond_51 rfl ?_
              refine j_ishl (n := 53) dX8_isSecond_52 rfl ?_
              refine j_topi (nI (2 ^ n)) (ai_shl1 (by omega)) ?_
              refine j_nicmp_ge (n := 56) 199 dX8_isSecond_53 rfl (by decide) (by omega) (by omega) (fun h2 => ?_) (fun h2 => ?_)
              · omega
              refine j_iload5 (n := 58) dX8_isSecond_56 rfl ?_
              refine j_istore9 (n := 60) dX8_isSecond_58 rfl (Nat.le_of_ble_eq_true rfl) rfl ?_
              refine j_iconst (n := 61) (nI 0) dX8_isSecond_60 rfl (by decide) ?_
              refine j_istore10 (n := 63) dX8_isSecond_61 rfl (Nat.le_of_ble_eq_true rfl) rfl ?_
              refine j_iconst (n := 64) (nI 0) dX8_isSecond_63 rfl (by decide) ?_
              refine j_istore11 (n := 66) dX8_isSecond_64 rfl (Nat.le_of_ble_eq_true rfl) rfl ?_
              have lp4 : ∀ i, i ≤ n + 1 → ∀ x12 : Option Value, J g jX8_isSecond 0 (fun v M2 => v = some (.int (jB (secB n t gt))) ∧ M2 = M) 66 [some (.ref (jA g 34)), some (.int (nI t)), some (.int (nI n)), some (.int (nI gt)), some (.int (nI (7 ^ (n + 1)))), some (.int (nI k)), some (.int (iI (mLow t (xsum (wK k) n gt) r))), some (.int (iI (mHi t (xsum (wK k) n gt) r))), some (.int (nI r)), some (.int (nI (k / 7 ^ i))), some (.int (iI (rsumB (wK k) (onR n gt r) i))), some (.int (nI i)), x12] [] M := by
                refine j_for ?_ ?_
                · intro x12
                  rw [xsum_B]
                  refine j_iload11 (n := 68) dX8_isSecond_66 rfl ?_
                  refine j_iload_n2 (n := 69) dX8_isSecond_68 rfl ?_
                  refine j_nicmp_gt (n := 72) 148 dX8_isSecond_69 rfl (by decide) (by omega) (by omega) (fun h3 => ?_) (fun h3 => ?_)
                  rotate_left
                  · omega
                  refine j_iload_n1 (n := 149) dX8_isSecond_148 rfl ?_
                  refine j_iload8 (n := 151) dX8_isSecond_149 rfl ?_
                  refine j_ishr (n := 152) dX8_isSecond_151 rfl ?_
                  refine j_iconst (n := 153) (nI 1) dX8_isSecond_152 rfl (by decide) ?_
                  refine j_iand (n := 154) dX8_isSecond_153 rfl ?_
                  refine j_topi (jB (t.testBit r)) (ai_bit ht (by omega)) ?_
                  refine j_iconst (n := 155) (nI 1) dX8_isSecond_154 rfl (by decide) ?_
                  refine j_icmp_ne (n := 158) 177 dX8_isSecond_155 rfl (by decide) (fun e => ?_) (fun e => ?_)
                  · have e2 : t.testBit r = false := by
                      cases hb : t.testBit r with
                      | false => rfl
                      | true => rw [hb] at e; exact (e rfl).elim
                    have eL : mLow t (xsum (wK k) n gt) (r + 1) = mLow t (xsum (wK k) n gt) r := by
                      show (if t.testBit r then _ else _) = _
                      rw [e2, if_neg Bool.false_ne_true]
                    have eH : mHi t (xsum (wK k) n gt) (r + 1) = if mHi t (xsum (wK k) n gt) r < xsum (wK k) n gt r then xsum (wK k) n gt r else mHi t (xsum (wK k) n gt) r := by
                      show (if t.testBit r then _ else _) = _
                      rw [e2, if_neg Bool.false_ne_true]
                    have ih4 := ih3 (some (.int (nI (k / 7 ^ (n + 1))))) (some (.int (iI (xsum (wK k) n gt r)))) (some (.int (nI (n + 1)))) x12
                    rw [eL, eH] at ih4
                    refine j_iload10 (n := 179) dX8_isSecond_177 rfl ?_
                    refine j_iload7 (n := 181) dX8_isSecond_179 rfl ?_
                    refine j_zicmp_le (n := 184) 189 dX8_isSecond_181 rfl (by decide) (by omega) (by omega) (fun e3 => ?_) (fun e3 => ?_)
                    · rw [if_neg (by omega)] at ih4
                      refine j_iload7 (n := 191) dX8_isSecond_189 rfl ?_
                      refine j_istore7 (n := 193) dX8_isSecond_191 rfl (Nat.le_of_ble_eq_true rfl) rfl ?_
                      refine j_inc8 (n := 196) dX8_isSecond_193 rfl (Nat.le_of_ble_eq_true rfl) rfl ?_
                      refine j_goto 48 dX8_isSecond_196 (by decide) ?_
                      exact ih4
                    · rw [if_pos (by omega)] at ih4
                      refine j_iload10 (n := 186) dX8_isSecond_184 rfl ?_
                      refine j_goto 191 dX8_isSecond_186 (by decide) ?_
                      refine j_istore7 (n := 193) dX8_isSecond_191 rfl (Nat.le_of_ble_eq_true rfl) rfl ?_
                      refine j_inc8 (n := 196) dX8_isSecond_193 rfl (Nat.le_of_ble_eq_true rfl) rfl ?_
                      refine j_goto 48 dX8_isSecond_196 (by decide) ?_
                      exact ih4
                  · have e2 : t.testBit r = true := by
                      cases hb : t.testBit r with
                      | true => rfl
                      | false => rw [hb] at e; exact absurd e (by decide)
                    have eL : mLow t (xsum (wK k) n gt) (r + 1) = if xsum (wK k) n gt r < mLow t (xsum (wK k) n gt) r then xsum (wK k) n gt r else mLow t (xsum (wK k) n gt) r := by
                      show (if t.testBit r then _ else _) = _
                      rw [e2, if_pos rfl]
                    have eH : mHi t (xsum (wK k) n gt) (r + 1) = mHi t (xsum (wK k) n gt) r := by
                      show (if t.testBit r then _ else _) = _
                      rw [e2, if_pos rfl]
                    have ih4 := ih3 (some (.int (nI (k / 7 ^ (n + 1))))) (some (.int (iI (xsum (wK k) n gt r)))) (some (.int (nI (n + 1)))) x12
                    rw [eL, eH] at ih4
                    refine j_iload10 (n := 160) dX8_isSecond_158 rfl ?_
                    refine j_iload6 (n := 162) dX8_isSecond_160 rfl ?_
                    refine j_zicmp_ge (n := 165) 170 dX8_isSecond_162 rfl (by decide) (by omega) (by omega) (fun e3 => ?_) (fun e3 => ?_)
                    · rw [if_neg (by omega)] at ih4
                      refine j_iload6 (n := 172) dX8_isSecond_170 rfl ?_
                      refine j_istore6 (n := 174) dX8_isSecond_172 rfl (Nat.le_of_ble_eq_true rfl) rfl ?_
                      refine j_goto 193 dX8_isSecond_174 (by decide) ?_
                      refine j_inc8 (n := 196) dX8_isSecond_193 rfl (Nat.le_of_ble_eq_true rfl) rfl ?_
                      refine j_goto 48 dX8_isSecond_196 (by decide) ?_
                      exact ih4
                    · rw [if_pos (by omega)] at ih4
                      refine j_iload10 (n := 167) dX8_isSecond_165 rfl ?_
                      refine j_goto 172 dX8_isSecond_167 (by decide) ?_
                      refine j_istore6 (n := 174) dX8_isSecond_172 rfl (Nat.le_of_ble_eq_true rfl) rfl ?_
                      refine j_goto 193 dX8_isSecond_174 (by decide) ?_
                      refine j_inc8 (n := 196) dX8_isSecond_193 rfl (Nat.le_of_ble_eq_true rfl) rfl ?_
                      refine j_goto 48 dX8_isSecond_196 (by decide) ?_
                      exact ih4
                · intro i hi ih5 x12
                  have hkd : k / 7 ^ i < 2 ^ 31 := Nat.lt_of_le_of_lt (Nat.div_le_self _ _) (by omega)
                  have n7 : ¬ nI 7 = 0 := by decide
                  refine j_iload11 (n := 68) dX8_isSecond_66 rfl ?_
                  refine j_iload_n2 (n := 69) dX8_isSecond_68 rfl ?_
                  refine j_nicmp_gt (n := 72) 148 dX8_isSecond_69 rfl (by decide) (by omega) (by omega) (fun h3 => ?_) (fun h3 => ?_)
                  · omega
                  refine j_iload11 (n := 74) dX8_isSecond_72 rfl ?_
                  refine j_iload_n2 (n := 75) dX8_isSecond_74 rfl ?_
                  have h112 : J g jX8_isSecond 0 (fun v M2 => v = some (.int (jB (secB n t gt))) ∧ M2 = M) 112 [some (.ref (jA g 34)), some (.int (nI t)), some (.int (nI n)), some (.int (nI gt)), some (.int (nI (7 ^ (n + 1)))), some (.int (nI k)), some (.int (iI (mLow t (xsum (wK k) n gt) r))), some (.int (iI (mHi t (xsum (wK k) n gt) r))), some (.int (nI r)), some (.int (nI (k / 7 ^ i))), some (.int (iI (rsumB (wK k) (onR n gt r) i))), some (.int (nI i)), x12] [.int (jB (onR n gt r i))] M := by
                    have h132 : J g jX8_isSecond 0 (fun v M2 => v = some (.int (jB (secB n t gt))) ∧ M2 = M) 132 [some (.ref (jA g 34)), some (.int (nI t)), some (.int (nI n)), some (.int (nI gt)), some (.int (nI (7 ^ (n + 1)))), some (.int (nI k)), some (.int (iI (mLow t (xsum (wK k) n gt) r))), some (.int (iI (mHi t (xsum (wK k) n gt) r))), some (.int (nI r)), some (.int (nI (k / 7 ^ i))), some (.int (iI (rsumB (wK k) (onR n gt r) i))), some (.int (nI i)), some (.int (jB (onR n gt r i)))] [.int (iI (if onR n gt r i then wK k i else 0)), .int (iI (rsumB (wK k) (onR n gt r) i))] M := by
                      refine j_iadd (n := 133) dX8_isSecond_132 rfl ?_
                      refine j_topi (iI (rsumB (wK k) (onR n gt r) (i + 1))) (iI_add _ _) ?_
                      refine j_istore10 (n := 135) dX8_isSecond_133 rfl (Nat.le_of_ble_eq_true rfl) rfl ?_
                      refine j_iload9 (n := 137) dX8_isSecond_135 rfl ?_
                      refine j_bipush (n := 139) (nI 7) dX8_isSecond_137 rfl (by decide) ?_
                      refine j_idiv (n := 140) dX8_isSecond_139 rfl (by first | assumption | decide) ?_
                      refine j_topi (nI (k / 7 ^ (i + 1))) (by rw [pk_div hkd (by omega) (by omega), Nat.div_div_eq_div_mul, Nat.pow_succ]) ?_
                      refine j_istore9 (n := 142) dX8_isSecond_140 rfl (Nat.le_of_ble_eq_true rfl) rfl ?_
                      refine j_inc11 (n := 145) dX8_isSecond_142 rfl (Nat.le_of_ble_eq_true rfl) rfl ?_
                      refine j_goto 66 dX8_isSecond_145 (by decide) ?_
                      exact ih5 _
                    refine j_istore12 (n := 114) dX8_isSecond_112 rfl (Nat.le_of_ble_eq_true rfl) rfl ?_
                    refine j_iload10 (n := 116) dX8_isSecond_114 rfl ?_
                    refine j_iload12 (n := 118) dX8_isSecond_116 rfl ?_
                    refine j_bif_eq (n := 121) 131 dX8_isSecond_118 rfl (by decide) (fun e => ?_) (fun e => ?_)
                    · refine j_iconst (n := 132) (nI 0) dX8_isSecond_131 rfl (by decide) ?_
                      rw [e] at h132 ⊢
                      exact h132
                    · refine j_iload9 (n := 123) dX8_isSecond_121 rfl ?_
                      refine j_bipush (n := 125) (nI 7) dX8_isSecond_123 rfl (by decide) ?_
                      refine j_irem (n := 126) dX8_isSecond_125 rfl (by first | assumption | decide) ?_
                      refine j_topi (nI (k / 7 ^ i % 7)) (pk_rem hkd (by omega) (by omega)) ?_
                      refine j_iconst (n := 127) (nI 3) dX8_isSecond_126 rfl (by decide) ?_
                      refine j_isub (n := 128) dX8_isSecond_127 rfl ?_
                      refine j_topi (iI (wK k i)) (by rw [← iI_nat, ← iI_nat, iI_sub]; rfl) ?_
                      refine j_goto 132 dX8_isSecond_128 (by decide) ?_
                      rw [e] at h132 ⊢
                      exact h132
                  refine j_nicmp_ge (n := 78) 97 dX8_isSecond_75 rfl (by decide) (by omega) (by omega) (fun h4 => ?_) (fun h4 => ?_)
                  · have eo : onR n gt r i = gt.testBit r := if_neg (by omega)
                    rw [eo] at h112
                    refine j_iload_n3 (n := 98) dX8_isSecond_97 rfl ?_
                    refine j_iload8 (n := 100) dX8_isSecond_98 rfl ?_
                    refine j_ishr (n := 101) dX8_isSecond_100 rfl ?_
                    refine j_iconst (n := 102) (nI 1) dX8_isSecond_101 rfl (by decide) ?_
                    refine j_iand (n := 103) dX8_isSecond_102 rfl ?_
                    refine j_topi (jB (gt.testBit r)) (ai_bit hg (by omega)) ?_
                    refine j_iconst (n := 104) (nI 1) dX8_isSecond_103 rfl (by decide) ?_
                    cases hb : gt.testBit r
                    · rw [hb] at h112
                      refine j_icmp_ne (n := 107) 111 dX8_isSecond_104 rfl (by decide) (fun e => ?_) (fun e => absurd e (by decide))
                      refine j_iconst (n := 112) (nI 0) dX8_isSecond_111 rfl (by decide) ?_
                      exact h112
                    · rw [hb] at h112
                      refine j_icmp_ne (n := 107) 111 dX8_isSecond_104 rfl (by decide) (fun e => absurd rfl e) (fun e => ?_)
                      refine j_iconst (n := 108) (nI 1) dX8_isSecond_107 rfl (by decide) ?_
                      refine j_goto 112 dX8_isSecond_108 (by decide) ?_
                      exact h112
                  · have eo : onR n gt r i = r.testBit i := if_pos (by omega)
                    rw [eo] at h112
                    refine j_iload8 (n := 80) dX8_isSecond_78 rfl ?_
                    refine j_iload11 (n := 82) dX8_isSecond_80 rfl ?_
                    refine j_ishr (n := 83) dX8_isSecond_82 rfl ?_
                    refine j_iconst (n := 84) (nI 1) dX8_isSecond_83 rfl (by decide) ?_
                    refine j_iand (n := 85) dX8_isSecond_84 rfl ?_
                    refine j_topi (jB (r.testBit i)) (ai_bit (by omega) (by omega)) ?_
                    refine j_iconst (n := 86) (nI 1) dX8_isSecond_85 rfl (by decide) ?_
                    cases hb : r.testBit i
                    · rw [hb] at h112
                      refine j_icmp_ne (n := 89) 93 dX8_isSecond_86 rfl (by decide) (fun e => ?_) (fun e => absurd e (by decide))
                      refine j_iconst (n := 94) (nI 0) dX8_isSecond_93 rfl (by decide) ?_
                      refine j_goto 112 dX8_isSecond_94 (by decide) ?_
                      exact h112
                    · rw [hb] at h112
                      refine j_icmp_ne (n := 89) 93 dX8_isSecond_86 rfl (by decide) (fun e => absurd rfl e) (fun e => ?_)
                      refine j_iconst (n := 90) (nI 1) dX8_isSecond_89 rfl (by decide) ?_
                      refine j_goto 112 dX8_isSecond_90 (by decide) ?_
                      exact h112
              have l0 := lp4 0 (Nat.zero_le _) x12
              rw [Nat.pow_zero, Nat.div_one] at l0
              exact l0
          exact lp3 0 (Nat.zero_le _) x9 x10 x11 x12
      exact lp2 0 (Nat.zero_le _) none none none none none none none (fun k2 hk2 => absurd hk2 (Nat.not_lt_zero k2))
  exact lp1 0 (Nat.zero_le _)
