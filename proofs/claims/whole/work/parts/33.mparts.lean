/-- a row's sum under weights -/
def rsum (w : Nat → Int) (r : Nat) : Nat → Int
  | 0 => 0
  | i + 1 => rsum w r i + (if r.testBit i then w i else 0)
theorem rsum_bd {w : Nat → Int} {r : Nat} {m : Int} (hm : 0 ≤ m) : ∀ i : Nat, (∀ j, j < i → -m ≤ w j ∧ w j ≤ m) → -(m * (i : Int)) ≤ rsum w r i ∧ rsum w r i ≤ m * (i : Int)
  | 0, _ => by simp [rsum]
  | i + 1, h => by
    have h1 := rsum_bd (r := r) hm i (fun j hj => h j (by omega))
    have h2 := h i (by omega)
    have e : m * ((i + 1 : Nat) : Int) = m * (i : Int) + m := by
      rw [Int.natCast_add, Int.mul_add]
      simp
    unfold rsum
    rw [e]
    cases r.testBit i
    · constructor <;> simp <;> omega
    · constructor <;> simp <;> omega
theorem rsum_cong {w w2 : Nat → Int} {r : Nat} : ∀ i : Nat, (∀ j, j < i → w j = w2 j) → rsum w r i = rsum w2 r i
  | 0, _ => rfl
  | i + 1, h => by
    unfold rsum
    rw [rsum_cong i (fun j hj => h j (by omega)), h i (by omega)]
def mLow (t : Nat) (x : Nat → Int) : Nat → Int
  | 0 => 1000
  | r + 1 => if t.testBit r then (if x r < mLow t x r then x r else mLow t x r) else mLow t x r
def mHi (t : Nat) (x : Nat → Int) : Nat → Int
  | 0 => -1000
  | r + 1 => if t.testBit r then mHi t x r else (if mHi t x r < x r then x r else mHi t x r)
def mLe (x : Nat → Int) : Nat → Int
  | 0 => 1000
  | r + 1 => if x r < mLe x r then x r else mLe x r
theorem mLow_bd {t : Nat} {x : Nat → Int} : ∀ r : Nat, (∀ j, j < r → -900 ≤ x j ∧ x j ≤ 900) → -900 ≤ mLow t x r ∧ mLow t x r ≤ 1000
  | 0, _ => by simp [mLow]
  | r + 1, h => by
    have h1 := mLow_bd (t := t) r (fun j hj => h j (by omega))
    have h2 := h r (by omega)
    unfold mLow
    split
    · split <;> omega
    · exact h1
theorem mHi_bd {t : Nat} {x : Nat → Int} : ∀ r : Nat, (∀ j, j < r → -900 ≤ x j ∧ x j ≤ 900) → -1000 ≤ mHi t x r ∧ mHi t x r ≤ 900
  | 0, _ => by simp [mHi]
  | r + 1, h => by
    have h1 := mHi_bd (t := t) r (fun j hj => h j (by omega))
    have h2 := h r (by omega)
    unfold mHi
    split
    · exact h1
    · split <;> omega
theorem mLe_bd {x : Nat → Int} : ∀ r : Nat, (∀ j, j < r → -900 ≤ x j ∧ x j ≤ 900) → -900 ≤ mLe x r ∧ mLe x r ≤ 1000
  | 0, _ => by simp [mLe]
  | r + 1, h => by
    have h1 := mLe_bd r (fun j hj => h j (by omega))
    have h2 := h r (by omega)
    unfold mLe
    split <;> omega
/-- the weights tell the table's ones from its zeros -/
def sepB (n t : Nat) (w : Nat → Int) : Bool := decide (mHi t (fun r => rsum w r n) (2 ^ n) < mLow t (fun r => rsum w r n) (2 ^ n))
def bndW (n t : Nat) (w : Nat → Int) : Int := if mHi t (fun r => rsum w r n) (2 ^ n) = -1000 then mLe (fun r => rsum w r n) (2 ^ n) else mHi t (fun r => rsum w r n) (2 ^ n) + 1
set_option maxRecDepth 100000 in
theorem con_X8_sumOf {g : jG} {M : jMem} {q : jMq} {n r : Nat} {wv : Nat → Int32} {w : Nat → Int} (h34 : M 34 = .inr (7, oMod g q)) (h41 : M 41 = iA g 5 wv) (hn : n ≤ 5) (hr : r < 32) (hw : ∀ i, i < n → wv i = iI (w i)) : Fn g jX8_sumOf 0 [.ref (jA g 34), .int (nI r), .int (nI n)] M (.int (iI (rsum w r n))) := by
  refine con_of (l := [some (.ref (jA g 34)), some (.int (nI r)), some (.int (nI n)), none, none]) (by decide) (Nat.le_of_ble_eq_true rfl) rfl ?_
  refine j_iconst (n := 1) (nI 0) dX8_sumOf_0 rfl (by decide) ?_
  refine j_istore_n3 (n := 2) dX8_sumOf_1 rfl (Nat.le_of_ble_eq_true rfl) rfl ?_
  refine j_iconst (n := 3) (nI 0) dX8_sumOf_2 rfl (by decide) ?_
  refine j_istore4 (n := 5) dX8_sumOf_3 rfl (Nat.le_of_ble_eq_true rfl) rfl ?_
  have key : ∀ i, i ≤ n → J g jX8_sumOf 0 (fun v M2 => v = some (.int (iI (rsum w r n))) ∧ M2 = M) 5 [some (.ref (jA g 34)), some (.int (nI r)), some (.int (nI n)), some (.int (iI (rsum w r i))), some (.int (nI i))] [] M := by
    refine j_for ?_ ?_
    · refine j_iload4 (n := 7) dX8_sumOf_5 rfl ?_
      refine j_iload_n2 (n := 8) dX8_sumOf_7 rfl ?_
      refine j_nicmp_ge (n := 11) 41 dX8_sumOf_8 rfl (by decide) (by omega) (by omega) (fun h => ?_) (fun h => ?_)
      · refine j_iload_n3 (n := 42) dX8_sumOf_41 rfl ?_
        refine j_iret dX8_sumOf_42 rfl ?_
        exact ⟨rfl, rfl⟩
      · omega
    · intro i hi ih
      refine j_iload4 (n := 7) dX8_sumOf_5 rfl ?_
      refine j_iload_n2 (n := 8) dX8_sumOf_7 rfl ?_
      refine j_nicmp_ge (n := 11) 41 dX8_sumOf_8 rfl (by decide) (by omega) (by omega) (fun h => ?_) (fun h => ?_)
      · omega
      refine j_iload_n3 (n := 12) dX8_sumOf_11 rfl ?_
      refine j_iload_n1 (n := 13) dX8_sumOf_12 rfl ?_
      refine j_iload4 (n := 15) dX8_sumOf_13 rfl ?_
      refine j_ishr (n := 16) dX8_sumOf_15 rfl ?_
      refine j_iconst (n := 17) (nI 1) dX8_sumOf_16 rfl (by decide) ?_
      refine j_iand (n := 18) dX8_sumOf_17 rfl ?_
      refine j_topi (jB (r.testBit i)) (ai_bit (by omega) (by omega)) ?_
      refine j_iconst (n := 19) (nI 1) dX8_sumOf_18 rfl (by decide) ?_
      refine j_b1_ne (n := 22) 32 dX8_sumOf_19 rfl (by decide) (fun e => ?_) (fun e => ?_)
      · refine j_iconst (n := 33) (nI 0) dX8_sumOf_32 rfl (by decide) ?_
        refine j_iadd (n := 34) dX8_sumOf_33 rfl ?_
        refine j_topi (iI (rsum w r (i + 1))) (by rw [← iI_nat, iI_add]; simp [rsum, e]) ?_
        refine j_istore_n3 (n := 35) dX8_sumOf_34 rfl (Nat.le_of_ble_eq_true rfl) rfl ?_
        refine j_inc4 (n := 38) dX8_sumOf_35 rfl (Nat.le_of_ble_eq_true rfl) rfl ?_
        refine j_goto 5 dX8_sumOf_38 (by decide) ?_
        exact ih
      · refine j_aload_n0 (n := 23) dX8_sumOf_22 rfl ?_
        refine j_get (n := 26) (k := 9) dX8_sumOf_23 rfl jcl7 (Nat.le_of_ble_eq_true rfl) fl_X8_36 (by first | decide | omega) (by first | assumption | rfl) (by rfl) ?_
        refine j_iload4 (n := 28) dX8_sumOf_26 rfl ?_
        refine j_iald_n (n := 29) dX8_sumOf_28 rfl (by first | decide | omega) (by first | assumption | rfl) (by decide) (by first | assumption | omega) ?_
        rw [hw i hi]
        refine j_goto 33 dX8_sumOf_29 (by decide) ?_
        refine j_iadd (n := 34) dX8_sumOf_33 rfl ?_
        refine j_topi (iI (rsum w r (i + 1))) (by rw [iI_add]; simp [rsum, e]) ?_
        refine j_istore_n3 (n := 35) dX8_sumOf_34 rfl (Nat.le_of_ble_eq_true rfl) rfl ?_
        refine j_inc4 (n := 38) dX8_sumOf_35 rfl (Nat.le_of_ble_eq_true rfl) rfl ?_
        refine j_goto 5 dX8_sumOf_38 (by decide) ?_
        exact ih
  exact key 0 (Nat.zero_le _)
/-- the weights of sizes under signs -/
def wOf (sg : Nat → Bool) (s : Nat → Nat) : Nat → Int := fun i => if sg i then -(s i : Int) else (s i : Int)
theorem wOf_bd {sg : Nat → Bool} {s : Nat → Nat} {i m : Nat} (h : s i ≤ m) : -(m : Int) ≤ wOf sg s i ∧ wOf sg s i ≤ (m : Int) := by
  unfold wOf
  split <;> omega
def qB (q : jMq) (b : Int32) : jMq := (q.1, q.2.1, q.2.2.1, b, q.2.2.2.2)
set_option maxRecDepth 100000 in
set_option maxHeartbeats 1000000 in
theorem con_X8_parts {g : jG} {M : jMem} {q : jMq} {n t sg : Nat} {wv sz : Nat → Int32} {s : Nat → Nat} (h34 : M 34 = .inr (7, oMod g q)) (h40 : M 40 = iA g 5 sz) (h41 : M 41 = iA g 5 wv) (hn : n ≤ 5) (ht : t < 2 ^ 32) (hsg : sg < 32) (hs : ∀ i, i < n → sz i = nI (s i) ∧ s i ≤ 100) : Con g jX8_parts 1 [.ref (jA g 34), .long (lN t), .int (nI n), .int (nI sg)] M (fun v M2 => v = some (.int (jB (sepB n t (wOf sg.testBit s)))) ∧ ∃ wv2, M2 = va_up (va_up M 41 (iA g 5 wv2)) 34 (.inr (7, oMod g (qB q (iI (bndW n t (wOf sg.testBit s)))))) ∧ ∀ i, i < n → wv2 i = iI (wOf sg.testBit s i)) := by
  have h5 := pw5 hn
  have hx : ∀ j, -900 ≤ rsum (wOf sg.testBit s) j n ∧ rsum (wOf sg.testBit s) j n ≤ 900 := by
    intro j
    have := rsum_bd (w := wOf sg.testBit s) (r := j) (m := 100) (by omega) n (fun i hi => wOf_bd (hs i hi).2)
    omega
  refine con_of (l := [some (.ref (jA g 34)), some (.long (lN t)), none, some (.int (nI n)), some (.int (nI sg)), none, none, none, none, none]) (by decide) (Nat.le_of_ble_eq_true rfl) rfl ?_
  refine j_sipush (n := 3) (nI 1000) dX8_parts_0 rfl (by decide) ?_
  refine j_istore5 (n := 5) dX8_parts_3 rfl (Nat.le_of_ble_eq_true rfl) rfl ?_
  refine j_sipush (n := 8) (nI 1000) dX8_parts_5 rfl (by decide) ?_
  refine j_istore6 (n := 10) dX8_parts_8 rfl (Nat.le_of_ble_eq_true rfl) rfl ?_
  refine j_sipush (n := 13) (-1000) dX8_parts_10 rfl (by decide) ?_
  refine j_istore7 (n := 15) dX8_parts_13 rfl (Nat.le_of_ble_eq_true rfl) rfl ?_
  refine j_iconst (n := 16) (nI 0) dX8_parts_15 rfl (by decide) ?_
  refine j_istore8 (n := 18) dX8_parts_16 rfl (Nat.le_of_ble_eq_true rfl) rfl ?_
  have second : ∀ wv2 : Nat → Int32, (∀ i, i < n → wv2 i = iI (wOf sg.testBit s i)) → ∀ r, r ≤ 2 ^ n → ∀ x9 : Option Value, J g jX8_parts 1 (fun v M2 => v = some (.int (jB (sepB n t (wOf sg.testBit s)))) ∧ ∃ wv2, M2 = va_up (va_up M 41 (iA g 5 wv2)) 34 (.inr (7, oMod g (qB q (iI (bndW n t (wOf sg.testBit s)))))) ∧ ∀ i, i < n → wv2 i = iI (wOf sg.testBit s i)) 69 [some (.ref (jA g 34)), some (.long (lN t)), none, some (.int (nI n)), some (.int (nI sg)), some (.int (iI (mLow t (fun r => rsum (wOf sg.testBit s) r n) r))), some (.int (iI (mLe (fun r => rsum (wOf sg.testBit s) r n) r))), some (.int (iI (mHi t (fun r => rsum (wOf sg.testBit s) r n) r))), some (.int (nI r)), x9] [] (va_up M 41 (iA g 5 wv2)) := by
    intro wv2 hwv2
    refine j_for ?_ ?_
    · intro x9
      have b1 := mLow_bd (t := t) (x := fun r => rsum (wOf sg.testBit s) r n) (2 ^ n) (fun j _ => hx j)
      have b2 := mHi_bd (t := t) (x := fun r => rsum (wOf sg.testBit s) r n) (2 ^ n) (fun j _ => hx j)
      have b3 := mLe_bd (x := fun r => rsum (wOf sg.testBit s) r n) (2 ^ n) (fun j _ => hx j)
      refine j_iload8 (n := 71) dX8_parts_69 rfl ?_
      refine j_iconst (n := 72) (nI 1) dX8_parts_71 rfl (by decide) ?_
      refine j_iload_n3 (n := 73) dX8_parts_72 rfl ?_
      refine j_ishl (n := 74) dX8_parts_73 rfl ?_
      refine j_topi (nI (2 ^ n)) (ai_shl1 (by omega)) ?_
      refine j_nicmp_ge (n := 77) 152 dX8_parts_74 rfl (by decide) (by omega) (by omega) (fun h => ?_) (fun h => ?_)
      rotate_left
      · omega
      have fin : ∀ z : Int, z = bndW n t (wOf sg.testBit s) → J g jX8_parts 1 (fun v M2 => v = some (.int (jB (sepB n t (wOf sg.testBit s)))) ∧ ∃ wv2, M2 = va_up (va_up M 41 (iA g 5 wv2)) 34 (.inr (7, oMod g (qB q (iI (bndW n t (wOf sg.testBit s)))))) ∧ ∀ i, i < n → wv2 i = iI (wOf sg.testBit s i)) 170 [some (.ref (jA g 34)), some (.long (lN t)), none, some (.int (nI n)), some (.int (nI sg)), some (.int (iI (mLow t (fun r => rsum (wOf sg.testBit s) r n) (2 ^ n)))), some (.int (iI (mLe (fun r => rsum (wOf sg.testBit s) r n) (2 ^ n)))), some (.int (iI (mHi t (fun r => rsum (wOf sg.testBit s) r n) (2 ^ n)))), some (.int (nI (2 ^ n))), x9] [.int (iI z), .ref (jA g 34)] (va_up M 41 (iA g 5 wv2)) := by
        intro z hz
        refine j_put (n := 173) (k := 10) (fs2 := oMod g (qB q (iI z))) dX8_parts_170 rfl jcl7 tyX8_ok nmX8 (Nat.le_of_ble_eq_true rfl) rfl (tyX8_ok 10 (Nat.le_of_ble_eq_true rfl)) fl_X8_133 (by rfl) (by rfl) (by first | decide | omega) (by first | assumption | rfl) (Nat.le_of_ble_eq_true rfl) (by rfl) ?_
        rw [hz]
        refine j_iload5 (n := 175) dX8_parts_173 rfl ?_
        refine j_iload7 (n := 177) dX8_parts_175 rfl ?_
        refine j_zicmp_le (n := 180) 184 dX8_parts_177 rfl (by decide) (by omega) (by omega) (fun e => ?_) (fun e => ?_)
        · refine j_iconst (n := 185) (nI 0) dX8_parts_184 rfl (by decide) ?_
          exact j_ret0 (decide_eq_false (by omega)) dX8_parts_185 rfl ⟨rfl, wv2, rfl, hwv2⟩
        · refine j_iconst (n := 181) (nI 1) dX8_parts_180 rfl (by decide) ?_
          refine j_goto 185 dX8_parts_181 (by decide) ?_
          exact j_ret1 (decide_eq_true (by omega)) dX8_parts_185 rfl ⟨rfl, wv2, rfl, hwv2⟩
      refine j_aload_n0 (n := 153) dX8_parts_152 rfl ?_
      refine j_iload7 (n := 155) dX8_parts_153 rfl ?_
      refine j_sipush (n := 158) (-1000) dX8_parts_155 rfl (by decide) ?_
      refine j_topi (iI (-1000)) (by decide) ?_
      refine j_zicmp_ne (n := 161) 166 dX8_parts_158 rfl (by decide) (by omega) (by omega) (fun e => ?_) (fun e => ?_)
      · refine j_iload7 (n := 168) dX8_parts_166 rfl ?_
        refine j_iconst (n := 169) (nI 1) dX8_parts_168 rfl (by decide) ?_
        refine j_iadd (n := 170) dX8_parts_169 rfl ?_
        refine j_topi (iI (mHi t (fun r => rsum (wOf sg.testBit s) r n) (2 ^ n) + 1)) (iI_add _ 1) ?_
        exact fin _ (by unfold bndW; rw [if_neg e])
      · refine j_iload6 (n := 163) dX8_parts_161 rfl ?_
        refine j_goto 170 dX8_parts_163 (by decide) ?_
        exact fin _ (by unfold bndW; rw [if_pos e])
    · intro r hr ih x9
      have b1 := mLow_bd (t := t) (x := fun r => rsum (wOf sg.testBit s) r n) r (fun j _ => hx j)
      have b2 := mHi_bd (t := t) (x := fun r => rsum (wOf sg.testBit s) r n) r (fun j _ => hx j)
      have b3 := mLe_bd (x := fun r => rsum (wOf sg.testBit s) r n) r (fun j _ => hx j)
      have b4 := hx r
      refine j_iload8 (n := 71) dX8_parts_69 rfl ?_
      refine j_iconst (n := 72) (nI 1) dX8_parts_71 rfl (by decide) ?_
      refine j_iload_n3 (n := 73) dX8_parts_72 rfl ?_
      refine j_ishl (n := 74) dX8_parts_73 rfl ?_
      refine j_topi (nI (2 ^ n)) (ai_shl1 (by omega)) ?_
      refine j_nicmp_ge (n := 77) 152 dX8_parts_74 rfl (by decide) (by omega) (by omega) (fun h => ?_) (fun h => ?_)
      · omega
      refine j_aload_n0 (n := 78) dX8_parts_77 rfl ?_
      refine j_iload8 (n := 80) dX8_parts_78 rfl ?_
      refine j_iload_n3 (n := 81) dX8_parts_80 rfl ?_
      refine j_fnV2 (n := 84) (con_X8_sumOf (M := va_up M 41 (iA g 5 wv2)) h34 rfl hn (by omega) hwv2) dX8_parts_81 rfl cal_X8_sumOf ml_X8_129 (Nat.le_of_ble_eq_true rfl) (by first | decide | omega) rfl rfl (Nat.le_of_ble_eq_true rfl) (by first | assumption | rfl) ?_
      refine j_istore9 (n := 86) dX8_parts_84 rfl (Nat.le_of_ble_eq_true rfl) rfl ?_
      refine j_iload9 (n := 88) dX8_parts_86 rfl ?_
      refine j_iload6 (n := 90) dX8_parts_88 rfl ?_
      have h100 : ∀ z : Int, z = mLe (fun r => rsum (wOf sg.testBit s) r n) (r + 1) → J g jX8_parts 1 (fun v M2 => v = some (.int (jB (sepB n t (wOf sg.testBit s)))) ∧ ∃ wv2, M2 = va_up (va_up M 41 (iA g 5 wv2)) 34 (.inr (7, oMod g (qB q (iI (bndW n t (wOf sg.testBit s)))))) ∧ ∀ i, i < n → wv2 i = iI (wOf sg.testBit s i)) 100 [some (.ref (jA g 34)), some (.long (lN t)), none, some (.int (nI n)), some (.int (nI sg)), some (.int (iI (mLow t (fun r => rsum (wOf sg.testBit s) r n) r))), some (.int (iI (mLe (fun r => rsum (wOf sg.testBit s) r n) r))), some (.int (iI (mHi t (fun r => rsum (wOf sg.testBit s) r n) r))), some (.int (nI r)), some (.int (iI (rsum (wOf sg.testBit s) r n)))] [.int (iI z)] (va_up M 41 (iA g 5 wv2)) := by
        intro z hz
        refine j_istore6 (n := 102) dX8_parts_100 rfl (Nat.le_of_ble_eq_true rfl) rfl ?_
        refine j_lload_n1 (n := 103) dX8_parts_102 rfl ?_
        refine j_iload8 (n := 105) dX8_parts_103 rfl ?_
        refine j_fnS2 (n := 108) (con_X8_is (by omega) (by omega)) dX8_parts_105 rfl cal_X8_is ml_X8_80 (Nat.le_of_ble_eq_true rfl) (Nat.le_of_ble_eq_true rfl) ?_
        rw [hz]
        refine j_bif_eq (n := 111) 130 dX8_parts_108 rfl (by decide) (fun e1 => ?_) (fun e1 => ?_)
        · have eL : mLow t (fun r => rsum (wOf sg.testBit s) r n) (r + 1) = mLow t (fun r => rsum (wOf sg.testBit s) r n) r := by simp [mLow, e1]
          rw [eL] at ih
          refine j_iload9 (n := 132) dX8_parts_130 rfl ?_
          refine j_iload7 (n := 134) dX8_parts_132 rfl ?_
          refine j_zicmp_le (n := 137) 142 dX8_parts_134 rfl (by decide) (by omega) (by omega) (fun e2 => ?_) (fun e2 => ?_)
          · have eH : mHi t (fun r => rsum (wOf sg.testBit s) r n) (r + 1) = mHi t (fun r => rsum (wOf sg.testBit s) r n) r := by simp [mHi, e1, Int.not_lt.mpr e2]
            rw [eH] at ih
            refine j_iload7 (n := 144) dX8_parts_142 rfl ?_
            refine j_istore7 (n := 146) dX8_parts_144 rfl (Nat.le_of_ble_eq_true rfl) rfl ?_
            refine j_inc8 (n := 149) dX8_parts_146 rfl (Nat.le_of_ble_eq_true rfl) rfl ?_
            refine j_goto 69 dX8_parts_149 (by decide) ?_
            exact ih _
          · have eH : mHi t (fun r => rsum (wOf sg.testBit s) r n) (r + 1) = rsum (wOf sg.testBit s) r n := by simp [mHi, e1, e2]
            rw [eH] at ih
            refine j_iload9 (n := 139) dX8_parts_137 rfl ?_
            refine j_goto 144 dX8_parts_139 (by decide) ?_
            refine j_istore7 (n := 146) dX8_parts_144 rfl (Nat.le_of_ble_eq_true rfl) rfl ?_
            refine j_inc8 (n := 149) dX8_parts_146 rfl (Nat.le_of_ble_eq_true rfl) rfl ?_
            refine j_goto 69 dX8_parts_149 (by decide) ?_
            exact ih _
        · have eH : mHi t (fun r => rsum (wOf sg.testBit s) r n) (r + 1) = mHi t (fun r => rsum (wOf sg.testBit s) r n) r := by simp [mHi, e1]
          rw [eH] at ih
          refine j_iload9 (n := 113) dX8_parts_111 rfl ?_
          refine j_iload5 (n := 115) dX8_parts_113 rfl ?_
          refine j_zicmp_ge (n := 118) 123 dX8_parts_115 rfl (by decide) (by omega) (by omega) (fun e2 => ?_) (fun e2 => ?_)
          · have eL : mLow t (fun r => rsum (wOf sg.testBit s) r n) (r + 1) = mLow t (fun r => rsum (wOf sg.testBit s) r n) r := by simp [mLow, e1, Int.not_lt.mpr e2]
            rw [eL] at ih
            refine j_iload5 (n := 125) dX8_parts_123 rfl ?_
            refine j_istore5 (n := 127) dX8_parts_125 rfl (Nat.le_of_ble_eq_true rfl) rfl ?_
            refine j_goto 146 dX8_parts_127 (by decide) ?_
            refine j_inc8 (n := 149) dX8_parts_146 rfl (Nat.le_of_ble_eq_true rfl) rfl ?_
            refine j_goto 69 dX8_parts_149 (by decide) ?_
            exact ih _
          · have eL : mLow t (fun r => rsum (wOf sg.testBit s) r n) (r + 1) = rsum (wOf sg.testBit s) r n := by simp [mLow, e1, e2]
            rw [eL] at ih
            refine j_iload9 (n := 120) dX8_parts_118 rfl ?_
            refine j_goto 125 dX8_parts_120 (by decide) ?_
            refine j_istore5 (n := 127) dX8_parts_125 rfl (Nat.le_of_ble_eq_true rfl) rfl ?_
            refine j_goto 146 dX8_parts_127 (by decide) ?_
            refine j_inc8 (n := 149) dX8_parts_146 rfl (Nat.le_of_ble_eq_true rfl) rfl ?_
            refine j_goto 69 dX8_parts_149 (by decide) ?_
            exact ih _
      refine j_zicmp_ge (n := 93) 98 dX8_parts_90 rfl (by decide) (by omega) (by omega) (fun e => ?_) (fun e => ?_)
      · refine j_iload6 (n := 100) dX8_parts_98 rfl ?_
        exact h100 _ (by simp [mLe, Int.not_lt.mpr e])
      · refine j_iload9 (n := 95) dX8_parts_93 rfl ?_
        refine j_goto 100 dX8_parts_95 (by decide) ?_
        exact h100 _ (by simp [mLe, e])
  have first : ∀ i, i ≤ n → ∀ f : Nat → Int32, (∀ j, j < i → f j = iI (wOf sg.testBit s j)) → J g jX8_parts 1 (fun v M2 => v = some (.int (jB (sepB n t (wOf sg.testBit s)))) ∧ ∃ wv2, M2 = va_up (va_up M 41 (iA g 5 wv2)) 34 (.inr (7, oMod g (qB q (iI (bndW n t (wOf sg.testBit s)))))) ∧ ∀ i, i < n → wv2 i = iI (wOf sg.testBit s i)) 18 [some (.ref (jA g 34)), some (.long (lN t)), none, some (.int (nI n)), some (.int (nI sg)), some (.int (nI 1000)), some (.int (nI 1000)), some (.int (-1000)), some (.int (nI i)), none] [] (va_up M 41 (iA g 5 f)) := by
    refine j_for ?_ ?_
    · intro f hf
      refine j_iload8 (n := 20) dX8_parts_18 rfl ?_
      refine j_iload_n3 (n := 21) dX8_parts_20 rfl ?_
      refine j_nicmp_ge (n := 24) 66 dX8_parts_21 rfl (by decide) (by omega) (by omega) (fun h => ?_) (fun h => ?_)
      rotate_left
      · omega
      refine j_iconst (n := 67) (nI 0) dX8_parts_66 rfl (by decide) ?_
      refine j_istore8 (n := 69) dX8_parts_67 rfl (Nat.le_of_ble_eq_true rfl) rfl ?_
      exact second f hf 0 (Nat.zero_le _) none
    · intro i hi ih f hf
      have hsi := hs i hi
      refine j_iload8 (n := 20) dX8_parts_18 rfl ?_
      refine j_iload_n3 (n := 21) dX8_parts_20 rfl ?_
      refine j_nicmp_ge (n := 24) 66 dX8_parts_21 rfl (by decide) (by omega) (by omega) (fun h => ?_) (fun h => ?_)
      · omega
      have fin : ∀ z : Int32, z = iI (wOf sg.testBit s i) → J g jX8_parts 1 (fun v M2 => v = some (.int (jB (sepB n t (wOf sg.testBit s)))) ∧ ∃ wv2, M2 = va_up (va_up M 41 (iA g 5 wv2)) 34 (.inr (7, oMod g (qB q (iI (bndW n t (wOf sg.testBit s)))))) ∧ ∀ i, i < n → wv2 i = iI (wOf sg.testBit s i)) 59 [some (.ref (jA g 34)), some (.long (lN t)), none, some (.int (nI n)), some (.int (nI sg)), some (.int (nI 1000)), some (.int (nI 1000)), some (.int (-1000)), some (.int (nI i)), none] [.int z, .int (nI i), .ref (jA g 41)] (va_up M 41 (iA g 5 f)) := by
        intro z hz
        refine j_iast_n (n := 60) dX8_parts_59 rfl (by first | decide | omega) (by first | assumption | rfl) (by decide) (by first | assumption | omega) ?_
        refine j_inc8 (n := 63) dX8_parts_60 rfl (Nat.le_of_ble_eq_true rfl) rfl ?_
        refine j_goto 18 dX8_parts_63 (by decide) ?_
        rw [va_uu]
        refine ih _ (fun j hj => ?_)
        by_cases e : j = i
        · rw [e, pk_us, hz]
        · rw [pk_un e]
          exact hf j (by omega)
      refine j_aload_n0 (n := 25) dX8_parts_24 rfl ?_
      refine j_get (n := 28) (k := 9) dX8_parts_25 rfl jcl7 (Nat.le_of_ble_eq_true rfl) fl_X8_36 (by first | decide | omega) (by first | assumption | rfl) (by rfl) ?_
      refine j_iload8 (n := 30) dX8_parts_28 rfl ?_
      refine j_iload4 (n := 32) dX8_parts_30 rfl ?_
      refine j_iload8 (n := 34) dX8_parts_32 rfl ?_
      refine j_ishr (n := 35) dX8_parts_34 rfl ?_
      refine j_iconst (n := 36) (nI 1) dX8_parts_35 rfl (by decide) ?_
      refine j_iand (n := 37) dX8_parts_36 rfl ?_
      refine j_topi (jB (sg.testBit i)) (ai_bit (by omega) (by omega)) ?_
      refine j_iconst (n := 38) (nI 1) dX8_parts_37 rfl (by decide) ?_
      refine j_b1_ne (n := 41) 52 dX8_parts_38 rfl (by decide) (fun e => ?_) (fun e => ?_)
      · refine j_aload_n0 (n := 53) dX8_parts_52 rfl ?_
        refine j_get (n := 56) (k := 8) dX8_parts_53 rfl jcl7 (Nat.le_of_ble_eq_true rfl) fl_X8_33 (by first | decide | omega) (by first | assumption | rfl) (by rfl) ?_
        refine j_iload8 (n := 58) dX8_parts_56 rfl ?_
        refine j_iald_n (n := 59) dX8_parts_58 rfl (by first | decide | omega) (by first | assumption | rfl) (by decide) (by first | assumption | omega) ?_
        exact fin _ (by rw [hsi.1, ← iI_nat]; simp [wOf, e])
      · refine j_aload_n0 (n := 42) dX8_parts_41 rfl ?_
        refine j_get (n := 45) (k := 8) dX8_parts_42 rfl jcl7 (Nat.le_of_ble_eq_true rfl) fl_X8_33 (by first | decide | omega) (by first | assumption | rfl) (by rfl) ?_
        refine j_iload8 (n := 47) dX8_parts_45 rfl ?_
        refine j_iald_n (n := 48) dX8_parts_47 rfl (by first | decide | omega) (by first | assumption | rfl) (by decide) (by first | assumption | omega) ?_
        refine j_ineg (n := 49) dX8_parts_48 rfl ?_
        refine j_goto 59 dX8_parts_49 (by decide) ?_
        exact fin _ (by rw [hsi.1, ← iI_nat, iI_neg]; simp [wOf, e])
  have h0 := first 0 (Nat.zero_le _) wv (fun j hj => absurd hj (Nat.not_lt_zero j))
  rw [va_self h41] at h0
  exact h0
/-- input i falls somewhere -/
def flp (t i r : Nat) : Bool := !r.testBit i && (t.testBit r && !t.testBit (r ||| 2 ^ i))
def fl (n t i : Nat) : Bool := decide (fa_first (flp t i) (2 ^ n) < 2 ^ n)
theorem first_step (p : Nat → Bool) (r : Nat) : decide (fa_first p (r + 1) < r + 1) = (decide (fa_first p r < r) || p r) := by
  cases hp : p r with
  | true =>
    rw [Bool.or_true]
    apply decide_eq_true
    show (if fa_first p r < r then fa_first p r else if p r then r else r + 1) < r + 1
    rw [hp]
    simp only [if_true]
    split <;> omega
  | false =>
    rw [Bool.or_false]
    apply decide_eq_decide.mpr
    show (if fa_first p r < r then fa_first p r else if p r then r else r + 1) < r + 1 ↔ _
    split
    · omega
    · rw [hp]
      simp
      omega
set_option maxRecDepth 100000 in
theorem con_X8_falling {g : jG} {M : jMem} {q : jMq} {n t : Nat} (h34 : M 34 = .inr (7, oMod g q)) (hn : n ≤ 5) (ht : t < 2 ^ 32) : Fn g jX8_falling 1 [.ref (jA g 34), .long (lN t), .int (nI n)] M (.int (nI (mkT n (fl n t)))) := by
  have h5 := pw5 hn
  refine con_of (l := [some (.ref (jA g 34)), some (.long (lN t)), none, some (.int (nI n)), none, none, none, none]) (by decide) (Nat.le_of_ble_eq_true rfl) rfl ?_
  refine j_iconst (n := 1) (nI 0) dX8_falling_0 rfl (by decide) ?_
  refine j_istore4 (n := 3) dX8_falling_1 rfl (Nat.le_of_ble_eq_true rfl) rfl ?_
  refine j_iconst (n := 4) (nI 0) dX8_falling_3 rfl (by decide) ?_
  refine j_istore5 (n := 6) dX8_falling_4 rfl (Nat.le_of_ble_eq_true rfl) rfl ?_
  have key : ∀ i, i ≤ n → ∀ x6 x7 : Option Value, jNL x6 = true → J g jX8_falling 1 (fun v M2 => v = some (.int (nI (mkT n (fl n t)))) ∧ M2 = M) 6 [some (.ref (jA g 34)), some (.long (lN t)), none, some (.int (nI n)), some (.int (nI (mkT i (fl n t)))), some (.int (nI i)), x6, x7] [] M := by
    refine j_for ?_ ?_
    · intro x6 x7 _
      refine j_iload5 (n := 8) dX8_falling_6 rfl ?_
      refine j_iload_n3 (n := 9) dX8_falling_8 rfl ?_
      refine j_nicmp_ge (n := 12) 93 dX8_falling_9 rfl (by decide) (by omega) (by omega) (fun h => ?_) (fun h => ?_)
      · refine j_iload4 (n := 95) dX8_falling_93 rfl ?_
        refine j_iret dX8_falling_95 rfl ?_
        exact ⟨rfl, rfl⟩
      · omega
    · intro i hi ih x6 x7 hx6
      have h2i : 2 ^ i < 2 ^ 5 := Nat.pow_lt_pow_right (by omega) (by omega)
      refine j_iload5 (n := 8) dX8_falling_6 rfl ?_
      refine j_iload_n3 (n := 9) dX8_falling_8 rfl ?_
      refine j_nicmp_ge (n := 12) 93 dX8_falling_9 rfl (by decide) (by omega) (by omega) (fun h => ?_) (fun h => ?_)
      · omega
      refine j_iconst (n := 13) (nI 0) dX8_falling_12 rfl (by decide) ?_
      refine j_istore6 (n := 15) dX8_falling_13 rfl (Nat.le_of_ble_eq_true rfl) rfl ?_
      have inner : ∀ r, r ≤ 2 ^ n → ∀ x7 : Option Value, J g jX8_falling 1 (fun v M2 => v = some (.int (nI (mkT n (fl n t)))) ∧ M2 = M) 15 [some (.ref (jA g 34)), some (.long (lN t)), none, some (.int (nI n)), some (.int (nI (mkT i (fl n t) ||| (if decide (fa_first (flp t i) r < r) then 2 ^ i else 0)))), some (.int (nI i)), some (.int (nI r)), x7] [] M := by
        refine j_for ?_ ?_
        · intro x7
          refine j_iload6 (n := 17) dX8_falling_15 rfl ?_
          refine j_iconst (n := 18) (nI 1) dX8_falling_17 rfl (by decide) ?_
          refine j_iload_n3 (n := 19) dX8_falling_18 rfl ?_
          refine j_ishl (n := 20) dX8_falling_19 rfl ?_
          refine j_topi (nI (2 ^ n)) (ai_shl1 (by omega)) ?_
          refine j_nicmp_ge (n := 23) 87 dX8_falling_20 rfl (by decide) (by omega) (by omega) (fun h => ?_) (fun h => ?_)
          · refine j_inc5 (n := 90) dX8_falling_87 rfl (Nat.le_of_ble_eq_true rfl) rfl ?_
            refine j_goto 6 dX8_falling_90 (by decide) ?_
            exact ih _ _ rfl
          · omega
        · intro r hr ih2 x7
          have hro : r ||| 2 ^ i < 2 ^ 5 := Nat.or_lt_two_pow (by omega) h2i
          refine j_iload6 (n := 17) dX8_falling_15 rfl ?_
          refine j_iconst (n := 18) (nI 1) dX8_falling_17 rfl (by decide) ?_
          refine j_iload_n3 (n := 19) dX8_falling_18 rfl ?_
          refine j_ishl (n := 20) dX8_falling_19 rfl ?_
          refine j_topi (nI (2 ^ n)) (ai_shl1 (by omega)) ?_
          refine j_nicmp_ge (n := 23) 87 dX8_falling_20 rfl (by decide) (by omega) (by omega) (fun h => ?_) (fun h => ?_)
          · omega
          have fin : ∀ c : Bool, flp t i r = c → J g jX8_falling 1 (fun v M2 => v = some (.int (nI (mkT n (fl n t)))) ∧ M2 = M) 61 [some (.ref (jA g 34)), some (.long (lN t)), none, some (.int (nI n)), some (.int (nI (mkT i (fl n t) ||| (if decide (fa_first (flp t i) r < r) then 2 ^ i else 0)))), some (.int (nI i)), some (.int (nI r)), x7] [.int (jB c)] M := by
            intro c hc
            have hst := first_step (flp t i) r
            rw [hc] at hst
            rw [hst] at ih2
            refine j_istore7 (n := 63) dX8_falling_61 rfl (Nat.le_of_ble_eq_true rfl) rfl ?_
            refine j_iload4 (n := 65) dX8_falling_63 rfl ?_
            refine j_iload7 (n := 67) dX8_falling_65 rfl ?_
            refine j_bif_eq (n := 70) 77 dX8_falling_67 rfl (by decide) (fun e => ?_) (fun e => ?_)
            · refine j_iconst (n := 78) (nI 0) dX8_falling_77 rfl (by decide) ?_
              refine j_ior (n := 79) dX8_falling_78 rfl ?_
              refine j_topi (nI (mkT i (fl n t) ||| (if decide (fa_first (flp t i) r < r) then 2 ^ i else 0))) (by rw [fa_or, Nat.or_zero]) ?_
              refine j_istore4 (n := 81) dX8_falling_79 rfl (Nat.le_of_ble_eq_true rfl) rfl ?_
              refine j_inc6 (n := 84) dX8_falling_81 rfl (Nat.le_of_ble_eq_true rfl) rfl ?_
              refine j_goto 15 dX8_falling_84 (by decide) ?_
              rw [e, Bool.or_false] at ih2
              exact ih2 _
            · refine j_iconst (n := 71) (nI 1) dX8_falling_70 rfl (by decide) ?_
              refine j_iload5 (n := 73) dX8_falling_71 rfl ?_
              refine j_ishl (n := 74) dX8_falling_73 rfl ?_
              refine j_topi (nI (2 ^ i)) (ai_shl1 (by omega)) ?_
              refine j_goto 78 dX8_falling_74 (by decide) ?_
              refine j_ior (n := 79) dX8_falling_78 rfl ?_
              refine j_topi (nI (mkT i (fl n t) ||| 2 ^ i)) ?_ ?_
              · rw [fa_or, Nat.or_assoc]
                congr 2
                split
                · exact Nat.or_self _
                · exact Nat.zero_or _
              refine j_istore4 (n := 81) dX8_falling_79 rfl (Nat.le_of_ble_eq_true rfl) rfl ?_
              refine j_inc6 (n := 84) dX8_falling_81 rfl (Nat.le_of_ble_eq_true rfl) rfl ?_
              refine j_goto 15 dX8_falling_84 (by decide) ?_
              rw [e, Bool.or_true] at ih2
              exact ih2 _
          refine j_iload6 (n := 25) dX8_falling_23 rfl ?_
          refine j_iload5 (n := 27) dX8_falling_25 rfl ?_
          refine j_ishr (n := 28) dX8_falling_27 rfl ?_
          refine j_iconst (n := 29) (nI 1) dX8_falling_28 rfl (by decide) ?_
          refine j_iand (n := 30) dX8_falling_29 rfl ?_
          refine j_topi (jB (r.testBit i)) (ai_bit (by omega) (by omega)) ?_
          refine j_bif_ne (n := 33) 60 dX8_falling_30 rfl (by decide) (fun e1 => ?_) (fun e1 => ?_)
          · refine j_iconst (n := 61) (nI 0) dX8_falling_60 rfl (by decide) ?_
            exact fin false (by simp [flp, e1])
          refine j_lload_n1 (n := 34) dX8_falling_33 rfl ?_
          refine j_iload6 (n := 36) dX8_falling_34 rfl ?_
          refine j_fnS2 (n := 39) (con_X8_is (by omega) (by omega)) dX8_falling_36 rfl cal_X8_is ml_X8_80 (Nat.le_of_ble_eq_true rfl) (Nat.le_of_ble_eq_true rfl) ?_
          refine j_bif_eq (n := 42) 60 dX8_falling_39 rfl (by decide) (fun e2 => ?_) (fun e2 => ?_)
          · refine j_iconst (n := 61) (nI 0) dX8_falling_60 rfl (by decide) ?_
            exact fin false (by simp [flp, e2])
          refine j_lload_n1 (n := 43) dX8_falling_42 rfl ?_
          refine j_iload6 (n := 45) dX8_falling_43 rfl ?_
          refine j_iconst (n := 46) (nI 1) dX8_falling_45 rfl (by decide) ?_
          refine j_iload5 (n := 48) dX8_falling_46 rfl ?_
          refine j_ishl (n := 49) dX8_falling_48 rfl ?_
          refine j_ior (n := 50) dX8_falling_49 rfl ?_
          refine j_topi (nI (r ||| 2 ^ i)) (by rw [ai_shl1 (by omega), fa_or]) ?_
          refine j_fnS2 (n := 53) (con_X8_is (by omega) (by omega)) dX8_falling_50 rfl cal_X8_is ml_X8_80 (Nat.le_of_ble_eq_true rfl) (Nat.le_of_ble_eq_true rfl) ?_
          refine j_bif_ne (n := 56) 60 dX8_falling_53 rfl (by decide) (fun e3 => ?_) (fun e3 => ?_)
          · refine j_iconst (n := 61) (nI 0) dX8_falling_60 rfl (by decide) ?_
            exact fin false (by simp [flp, e3])
          · refine j_iconst (n := 57) (nI 1) dX8_falling_56 rfl (by decide) ?_
            refine j_goto 61 dX8_falling_57 (by decide) ?_
            exact fin true (by simp [flp, e1, e2, e3])
      have h0 := inner 0 (Nat.zero_le _) x7
      have e0 : mkT i (fl n t) ||| (if decide (fa_first (flp t i) 0 < 0) then 2 ^ i else 0) = mkT i (fl n t) := by simp
      rw [e0] at h0
      exact h0
  exact key 0 (Nat.zero_le _) _ _ rfl
