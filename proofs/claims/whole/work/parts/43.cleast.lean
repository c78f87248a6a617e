theorem pu_bd (n t i : Nat) (hn : n ≤ 5) : -64 ≤ pu n t i ∧ pu n t i ≤ 64 := by
  have h5 := pw5 hn
  have h1 := cnt_le t.testBit (2 ^ n)
  have h2 := cnt_le (fun r => t.testBit r && r.testBit i) (2 ^ n)
  unfold pu
  omega
theorem iI_abs {z : Int} (h : -100000000 ≤ z ∧ z ≤ 100000000) : (if 0 ≤ iI z then iI z else 0 - iI z) = nI z.natAbs := by
  by_cases h0 : 0 ≤ z
  · have e : (0 : Int32) ≤ iI z := (iI_le (a := 0) (by omega) (by omega)).mpr h0
    rw [if_pos e, ← iI_nat]
    congr 1
    omega
  · have e : ¬ (0 : Int32) ≤ iI z := fun q => h0 ((iI_le (a := 0) (by omega) (by omega)).mp q)
    rw [if_neg e, ← iI_nat]
    have : (0 : Int32) = iI 0 := rfl
    rw [this, iI_sub]
    congr 1
    omega
/-- the sizes of an input and of one before it keep the order of their pulls -/
def badO (A p : Nat → Nat) (i part o : Nat) : Prop := (A i < A o ∧ p o ≤ part) ∨ (A o < A i ∧ part ≤ p o)
def ordP (A p : Nat → Nat) (i part : Nat) : Prop := ∀ o, o < i → ¬ badO A p i part o
set_option maxRecDepth 100000 in
theorem con_X2_keepsOrder {g : jG} {M : jMem} {b sz nn : Int32} {bits : Int64} {n t i part : Nat} {wt pl : Nat → Int32} {z : Nat → Int} {p : Nat → Nat} (h5 : M 5 = .inr (2, oLeast g b sz nn bits)) (h6 : M 6 = iA g 5 wt) (h7 : M 7 = iA g 5 pl) (hn : n ≤ 5) (hi : i < n) (hpl : ∀ j, j < n → pl j = iI (pu n t j)) (hwt : ∀ j, j < i → wt j = iI (z j)) (hz : ∀ j, j < i → (z j).natAbs = p j) (hp : ∀ j, j < i → p j ≤ 100) (hpart : part ≤ 100) : Con g jX2_keepsOrder 1 [.ref (jA g 5), .int (nI i), .int (nI part)] M (fun v M2 => M2 = M ∧ ∃ r : Bool, v = some (.int (jB r)) ∧ (r = true ↔ ordP (fun o => (pu n t o).natAbs) p i part)) := by
  have hpb := fun o => pu_bd n t o hn
  refine con_of (l := [some (.ref (jA g 5)), some (.int (nI i)), some (.int (nI part)), none, none, none, none]) (by decide) (Nat.le_of_ble_eq_true rfl) rfl ?_
  refine j_aload_n0 (n := 1) dX2_keepsOrder_0 rfl ?_
  refine j_get (n := 4) (k := 5) dX2_keepsOrder_1 rfl jcl2 (Nat.le_of_ble_eq_true rfl) fl_X2_15 (by first | decide | omega) (by first | assumption | rfl) (by rfl) ?_
  refine j_iload_n1 (n := 5) dX2_keepsOrder_4 rfl ?_
  refine j_iald_n (n := 6) dX2_keepsOrder_5 rfl (by first | decide | omega) (by first | assumption | rfl) (by decide) (by first | assumption | omega) ?_
  rw [hpl i hi]
  refine j_mabs (n := 9) dX2_keepsOrder_6 rfl ml_X2_63 mw_abs (Nat.le_of_ble_eq_true rfl) (Nat.le_of_ble_eq_true rfl) ?_
  refine j_topi _ (iI_abs (by have := hpb i; omega)) ?_
  refine j_istore_n3 (n := 10) dX2_keepsOrder_9 rfl (Nat.le_of_ble_eq_true rfl) rfl ?_
  refine j_iconst (n := 11) (nI 0) dX2_keepsOrder_10 rfl (by decide) ?_
  refine j_istore4 (n := 13) dX2_keepsOrder_11 rfl (Nat.le_of_ble_eq_true rfl) rfl ?_
  have key : ∀ o, o ≤ i → ∀ x5 x6 : Option Value, jNL x5 = true → jNL x6 = true → (∀ o2, o2 < o → ¬ badO (fun o => (pu n t o).natAbs) p i part o2) → J g jX2_keepsOrder 1 (fun v M2 => M2 = M ∧ ∃ r : Bool, v = some (.int (jB r)) ∧ (r = true ↔ ordP (fun o => (pu n t o).natAbs) p i part)) 13 [some (.ref (jA g 5)), some (.int (nI i)), some (.int (nI part)), some (.int (nI (pu n t i).natAbs)), some (.int (nI o)), x5, x6] [] M := by
    refine j_for ?_ ?_
    · intro x5 x6 hx5 hx6 hno
      refine j_iload4 (n := 15) dX2_keepsOrder_13 rfl ?_
      refine j_iload_n1 (n := 16) dX2_keepsOrder_15 rfl ?_
      refine j_nicmp_ge (n := 19) 75 dX2_keepsOrder_16 rfl (by decide) (by omega) (by omega) (fun h => ?_) (fun h => ?_)
      rotate_left
      · omega
      refine j_iconst (n := 76) (nI 1) dX2_keepsOrder_75 rfl (by decide) ?_
      exact j_ret1 (b := true) rfl dX2_keepsOrder_76 rfl ⟨rfl, true, rfl, fun _ => hno, fun _ => rfl⟩
    · intro o ho ih x5 x6 hx5 hx6 hno
      have hbo := hpb o
      have hbi := hpb i
      have hpo := hp o ho
      have hzo := hz o ho
      refine j_iload4 (n := 15) dX2_keepsOrder_13 rfl ?_
      refine j_iload_n1 (n := 16) dX2_keepsOrder_15 rfl ?_
      refine j_nicmp_ge (n := 19) 75 dX2_keepsOrder_16 rfl (by decide) (by omega) (by omega) (fun h => ?_) (fun h => ?_)
      · omega
      refine j_aload_n0 (n := 20) dX2_keepsOrder_19 rfl ?_
      refine j_get (n := 23) (k := 5) dX2_keepsOrder_20 rfl jcl2 (Nat.le_of_ble_eq_true rfl) fl_X2_15 (by first | decide | omega) (by first | assumption | rfl) (by rfl) ?_
      refine j_iload4 (n := 25) dX2_keepsOrder_23 rfl ?_
      refine j_iald_n (n := 26) dX2_keepsOrder_25 rfl (by first | decide | omega) (by first | assumption | rfl) (by decide) (by first | assumption | omega) ?_
      rw [hpl o (by omega)]
      refine j_mabs (n := 29) dX2_keepsOrder_26 rfl ml_X2_63 mw_abs (Nat.le_of_ble_eq_true rfl) (Nat.le_of_ble_eq_true rfl) ?_
      refine j_topi _ (iI_abs (by omega)) ?_
      refine j_istore5 (n := 31) dX2_keepsOrder_29 rfl (Nat.le_of_ble_eq_true rfl) rfl ?_
      refine j_aload_n0 (n := 32) dX2_keepsOrder_31 rfl ?_
      refine j_get (n := 35) (k := 0) dX2_keepsOrder_32 rfl jcl2 (Nat.le_of_ble_eq_true rfl) fl_X2_9 (by first | decide | omega) (by first | assumption | rfl) (by rfl) ?_
      refine j_iload4 (n := 37) dX2_keepsOrder_35 rfl ?_
      refine j_iald_n (n := 38) dX2_keepsOrder_37 rfl (by first | decide | omega) (by first | assumption | rfl) (by decide) (by first | assumption | omega) ?_
      rw [hwt o ho]
      refine j_mabs (n := 41) dX2_keepsOrder_38 rfl ml_X2_63 mw_abs (Nat.le_of_ble_eq_true rfl) (Nat.le_of_ble_eq_true rfl) ?_
      refine j_topi _ (iI_abs (by omega)) ?_
      rw [hzo]
      refine j_istore6 (n := 43) dX2_keepsOrder_41 rfl (Nat.le_of_ble_eq_true rfl) rfl ?_
      refine j_iload5 (n := 45) dX2_keepsOrder_43 rfl ?_
      refine j_iload_n3 (n := 46) dX2_keepsOrder_45 rfl ?_
      have next : ¬ badO (fun o => (pu n t o).natAbs) p i part o → J g jX2_keepsOrder 1 (fun v M2 => M2 = M ∧ ∃ r : Bool, v = some (.int (jB r)) ∧ (r = true ↔ ordP (fun o => (pu n t o).natAbs) p i part)) 69 [some (.ref (jA g 5)), some (.int (nI i)), some (.int (nI part)), some (.int (nI (pu n t i).natAbs)), some (.int (nI o)), some (.int (nI (pu n t o).natAbs)), some (.int (nI (p o)))] [] M := by
        intro hq
        refine j_inc4 (n := 72) dX2_keepsOrder_69 rfl (Nat.le_of_ble_eq_true rfl) rfl ?_
        refine j_goto 13 dX2_keepsOrder_72 (by decide) ?_
        refine ih _ _ rfl rfl (fun o2 ho2 => ?_)
        by_cases q : o2 = o
        · rw [q]; exact hq
        · exact hno o2 (by omega)
      have bad : badO (fun o => (pu n t o).natAbs) p i part o → J g jX2_keepsOrder 1 (fun v M2 => M2 = M ∧ ∃ r : Bool, v = some (.int (jB r)) ∧ (r = true ↔ ordP (fun o => (pu n t o).natAbs) p i part)) 67 [some (.ref (jA g 5)), some (.int (nI i)), some (.int (nI part)), some (.int (nI (pu n t i).natAbs)), some (.int (nI o)), some (.int (nI (pu n t o).natAbs)), some (.int (nI (p o)))] [] M := by
        intro hq
        refine j_iconst (n := 68) (nI 0) dX2_keepsOrder_67 rfl (by decide) ?_
        exact j_ret0 (b := false) rfl dX2_keepsOrder_68 rfl ⟨rfl, false, rfl, fun z => (Bool.false_ne_true z).elim, fun z => (z o ho hq).elim⟩
      have sec : ¬ ((pu n t i).natAbs < (pu n t o).natAbs ∧ p o ≤ part) → J g jX2_keepsOrder 1 (fun v M2 => M2 = M ∧ ∃ r : Bool, v = some (.int (jB r)) ∧ (r = true ↔ ordP (fun o => (pu n t o).natAbs) p i part)) 55 [some (.ref (jA g 5)), some (.int (nI i)), some (.int (nI part)), some (.int (nI (pu n t i).natAbs)), some (.int (nI o)), some (.int (nI (pu n t o).natAbs)), some (.int (nI (p o)))] [] M := by
        intro hq
        refine j_iload5 (n := 57) dX2_keepsOrder_55 rfl ?_
        refine j_iload_n3 (n := 58) dX2_keepsOrder_57 rfl ?_
        refine j_nicmp_ge (n := 61) 69 dX2_keepsOrder_58 rfl (by decide) (by omega) (by omega) (fun e1 => ?_) (fun e1 => ?_)
        · refine next (fun z => ?_)
          rcases z with z | z
          · exact hq z
          · have : (pu n t o).natAbs < (pu n t i).natAbs := z.1
            omega
        refine j_iload6 (n := 63) dX2_keepsOrder_61 rfl ?_
        refine j_iload_n2 (n := 64) dX2_keepsOrder_63 rfl ?_
        refine j_nicmp_lt (n := 67) 69 dX2_keepsOrder_64 rfl (by decide) (by omega) (by omega) (fun e2 => ?_) (fun e2 => ?_)
        · refine next (fun z => ?_)
          rcases z with z | z
          · exact hq z
          · have := z.2
            omega
        · exact bad (Or.inr ⟨e1, e2⟩)
      refine j_nicmp_le (n := 49) 55 dX2_keepsOrder_46 rfl (by decide) (by omega) (by omega) (fun e1 => ?_) (fun e1 => ?_)
      · exact sec (fun z => by omega)
      refine j_iload6 (n := 51) dX2_keepsOrder_49 rfl ?_
      refine j_iload_n2 (n := 52) dX2_keepsOrder_51 rfl ?_
      refine j_nicmp_le (n := 55) 67 dX2_keepsOrder_52 rfl (by decide) (by omega) (by omega) (fun e2 => ?_) (fun e2 => ?_)
      · exact bad (Or.inl ⟨e1, e2⟩)
      · exact sec (fun z => by omega)
  exact key 0 (Nat.zero_le _) _ _ rfl rfl (fun o2 ho2 => absurd ho2 (Nat.not_lt_zero o2))
/-- the least weighing's cells -/
def LM (g : jG) (M : jMem) (sz : Int32) (n t : Nat) (b : Int32) (wt sm : Nat → Int32) (lo gz : Int32) : jMem := va_up (va_up (va_up (va_up M 5 (.inr (2, oLeast g b sz (nI n) (lN t)))) 6 (iA g 5 wt)) 9 (.inr (4, oSums g 10 lo gz))) 10 (iA g 32 sm)
section LMS
variable {g : jG} {M : jMem} {sz b lo gz : Int32} {n t : Nat} {wt sm : Nat → Int32}
theorem LM_5 : LM g M sz n t b wt sm lo gz 5 = .inr (2, oLeast g b sz (nI n) (lN t)) := rfl
theorem LM_6 : LM g M sz n t b wt sm lo gz 6 = iA g 5 wt := rfl
theorem LM_7 : LM g M sz n t b wt sm lo gz 7 = M 7 := rfl
theorem LM_8 : LM g M sz n t b wt sm lo gz 8 = M 8 := rfl
theorem LM_9 : LM g M sz n t b wt sm lo gz 9 = .inr (4, oSums g 10 lo gz) := rfl
theorem LM_10 : LM g M sz n t b wt sm lo gz 10 = iA g 32 sm := rfl
theorem LM_k {k : Nat} (h1 : k ≠ 5) (h2 : k ≠ 6) (h3 : k ≠ 9) (h4 : k ≠ 10) : LM g M sz n t b wt sm lo gz k = M k := by
  unfold LM
  rw [va_at_ne h4, va_at_ne h3, va_at_ne h2, va_at_ne h1]
theorem LM_eq {M2 : jMem} (h5 : M2 5 = .inr (2, oLeast g b sz (nI n) (lN t))) (h6 : M2 6 = iA g 5 wt) (h9 : M2 9 = .inr (4, oSums g 10 lo gz)) (h10 : M2 10 = iA g 32 sm) (hk : ∀ k, k ≠ 5 → k ≠ 6 → k ≠ 9 → k ≠ 10 → M2 k = M k) : M2 = LM g M sz n t b wt sm lo gz := by
  funext k
  by_cases e1 : k = 5
  · rw [e1]; exact h5
  by_cases e2 : k = 6
  · rw [e2]; exact h6
  by_cases e3 : k = 9
  · rw [e3]; exact h9
  by_cases e4 : k = 10
  · rw [e4]; exact h10
  rw [LM_k e1 e2 e3 e4]
  exact hk k e1 e2 e3 e4
theorem LM_u5 {b2 : Int32} : va_up (LM g M sz n t b wt sm lo gz) 5 (.inr (2, oLeast g b2 sz (nI n) (lN t))) = LM g M sz n t b2 wt sm lo gz := by
  refine LM_eq va_at_eq rfl rfl rfl (fun k h1 h2 h3 h4 => ?_)
  rw [va_at_ne h1, LM_k h1 h2 h3 h4]
theorem LM_u6 {wt2 : Nat → Int32} : va_up (LM g M sz n t b wt sm lo gz) 6 (iA g 5 wt2) = LM g M sz n t b wt2 sm lo gz := by
  refine LM_eq rfl va_at_eq rfl rfl (fun k h1 h2 h3 h4 => ?_)
  rw [va_at_ne h2, LM_k h1 h2 h3 h4]
theorem LM_u9 {lo2 gz2 : Int32} : va_up (LM g M sz n t b wt sm lo gz) 9 (.inr (4, oSums g 10 lo2 gz2)) = LM g M sz n t b wt sm lo2 gz2 := by
  refine LM_eq rfl rfl va_at_eq rfl (fun k h1 h2 h3 h4 => ?_)
  rw [va_at_ne h3, LM_k h1 h2 h3 h4]
theorem LM_u10 {sm2 : Nat → Int32} : va_up (LM g M sz n t b wt sm lo gz) 10 (iA g 32 sm2) = LM g M sz n t b wt sm2 lo gz := by
  refine LM_eq rfl rfl rfl va_at_eq (fun k h1 h2 h3 h4 => ?_)
  rw [va_at_ne h4, LM_k h1 h2 h3 h4]
end LMS
/-- what the class takes for the bound -/
theorem bndW_e {n t : Nat} {w : Nat → Int} (h1 : 1 ≤ n) (ht : t < 2 ^ 2 ^ n) (hb : ∀ r, -900 ≤ rsum w r n ∧ rsum w r n ≤ 900) : bndW n t w = if t = 2 ^ 2 ^ n - 1 then eLo t (fun r => rsum w r n) (2 ^ n) else eHi t (fun r => rsum w r n) (2 ^ n) + 1 := by
  unfold bndW
  rcases eHi_m (t := t) (x := fun r => rsum w r n) (2 ^ n) (fun j _ => hb j) with ⟨q1, q2, q3⟩ | ⟨q1, q2, r0, q3, q4⟩
  · have e : t = 2 ^ 2 ^ n - 1 := by
      rw [← mkT_self ht, ← mkT_true]
      exact mkT_ext (fun r hr => q3 r hr)
    rw [if_pos q2, if_pos e]
    have : ∀ R, R ≤ 2 ^ n → mLow t (fun r => rsum w r n) R = mLe (fun r => rsum w r n) R := by
      intro R
      induction R with
      | zero => intro _; rfl
      | succ R ih =>
        intro hR
        unfold mLow mLe
        rw [q3 R (by omega), ih (by omega)]
        rfl
    rw [← this (2 ^ n) (Nat.le_refl _)]
    rcases eLo_m (t := t) (x := fun r => rsum w r n) (2 ^ n) (fun j _ => hb j) with ⟨p1, p2, p3⟩ | ⟨p1, p2⟩
    · have z1 := p3 0 (Nat.two_pow_pos n)
      have z2 := q3 0 (Nat.two_pow_pos n)
      rw [z1] at z2
      cases z2
    · exact p1.symm
  · have e : ¬ t = 2 ^ 2 ^ n - 1 := by
      intro z
      rw [z, ← mkT_true, mkT_bit] at q4
      simp [q3] at q4
    rw [if_neg e, if_neg (by omega), q1]
theorem sepB_e {n t : Nat} {w : Nat → Int} (hb : ∀ r, -900 ≤ rsum w r n ∧ rsum w r n ≤ 900) : sepB n t w = decide (eHi t (fun r => rsum w r n) (2 ^ n) < eLo t (fun r => rsum w r n) (2 ^ n)) := by
  unfold sepB
  apply decide_eq_decide.mpr
  have b1 := mLow_bd (t := t) (x := fun r => rsum w r n) (2 ^ n) (fun j _ => hb j)
  have b2 := mHi_bd (t := t) (x := fun r => rsum w r n) (2 ^ n) (fun j _ => hb j)
  rcases eHi_m (t := t) (x := fun r => rsum w r n) (2 ^ n) (fun j _ => hb j) with ⟨q1, q2, q3⟩ | ⟨q1, q2, r0, q3, q4⟩ <;> rcases eLo_m (t := t) (x := fun r => rsum w r n) (2 ^ n) (fun j _ => hb j) with ⟨p1, p2, p3⟩ | ⟨p1, p2⟩ <;> omega
set_option maxRecDepth 100000 in
theorem con_X2_separates {g : jG} {M : jMem} {sz b lo gz : Int32} {n t : Nat} {wt sm : Nat → Int32} {w : Nat → Int} (h1 : 1 ≤ n) (hn : n ≤ 5) (ht : t < 2 ^ 2 ^ n) (hsm : ∀ j, j < 2 ^ n → sm j = iI (rsum w j n)) (hb : ∀ r, -900 ≤ rsum w r n ∧ rsum w r n ≤ 900) : Con g jX2_separates 2 [.ref (jA g 5)] (LM g M sz n t b wt sm lo gz) (fun v M2 => v = some (.int (jB (sepB n t w))) ∧ ∃ b2 lo2 gz2, M2 = LM g M sz n t b2 wt sm lo2 gz2 ∧ (sepB n t w = true → b2 = iI (bndW n t w))) := by
  have ht32 : t < 2 ^ 32 := Nat.lt_of_lt_of_le ht (Nat.pow_le_pow_right (by omega) (pw5 hn))
  have rl := eLo_rg (t := t) (x := fun r => rsum w r n) (2 ^ n) (fun j _ => hb j)
  have rh := eHi_rg (t := t) (x := fun r => rsum w r n) (2 ^ n) (fun j _ => hb j)
  have hsb := sepB_e (n := n) (t := t) (w := w) hb
  have hbw := bndW_e h1 ht hb
  have m5 : LM g M sz n t b wt sm lo gz 5 = .inr (2, oLeast g b sz (nI n) (lN t)) := rfl
  have m9 : LM g M sz n t b wt sm lo gz 9 = .inr (4, oSums g 10 lo gz) := rfl
  refine con_of (l := [some (.ref (jA g 5)), none]) (by decide) (Nat.le_of_ble_eq_true rfl) rfl ?_
  refine j_aload_n0 (n := 1) dX2_separates_0 rfl ?_
  refine j_get (n := 4) (k := 7) dX2_separates_1 rfl jcl2 (Nat.le_of_ble_eq_true rfl) fl_X2_24 (by first | decide | omega) (by first | assumption | rfl) (by rfl) ?_
  refine j_aload_n0 (n := 5) dX2_separates_4 rfl ?_
  refine j_get (n := 8) (k := 3) dX2_separates_5 rfl jcl2 (Nat.le_of_ble_eq_true rfl) fl_X2_28 (by first | decide | omega) (by first | assumption | rfl) (by rfl) ?_
  refine j_aload_n0 (n := 9) dX2_separates_8 rfl ?_
  refine j_get (n := 12) (k := 4) dX2_separates_9 rfl jcl2 (Nat.le_of_ble_eq_true rfl) fl_X2_32 (by first | decide | omega) (by first | assumption | rfl) (by rfl) ?_
  refine j_cV2 (n := 15) (con_X4_findEnds (k := 9) LM_9 LM_10 (by omega) hn ht32 hsm (fun j _ => hb j)) dX2_separates_12 rfl cal_X4_findEnds ml_X2_84 (Nat.le_of_ble_eq_true rfl) (by first | decide | omega) rfl rfl (Nat.le_of_ble_eq_true rfl) (by first | assumption | rfl) ?_
  rintro _ M2 ⟨rfl, rfl⟩
  rw [LM_u9]
  have m5 : LM g M sz n t b wt sm (iI (eLo t (fun r => rsum w r n) (2 ^ n))) (iI (eHi t (fun r => rsum w r n) (2 ^ n))) 5 = .inr (2, oLeast g b sz (nI n) (lN t)) := rfl
  have m9 : LM g M sz n t b wt sm (iI (eLo t (fun r => rsum w r n) (2 ^ n))) (iI (eHi t (fun r => rsum w r n) (2 ^ n))) 9 = .inr (4, oSums g 10 (iI (eLo t (fun r => rsum w r n) (2 ^ n))) (iI (eHi t (fun r => rsum w r n) (2 ^ n)))) := rfl
  refine j_aload_n0 (n := 16) dX2_separates_15 rfl ?_
  refine j_get (n := 19) (k := 7) dX2_separates_16 rfl jcl2 (Nat.le_of_ble_eq_true rfl) fl_X2_24 (by first | decide | omega) (by first | assumption | rfl) (by rfl) ?_
  refine j_get (n := 22) (k := 2) dX2_separates_19 rfl jcl4 (Nat.le_of_ble_eq_true rfl) fl_X2_88 (by first | decide | omega) (by first | assumption | rfl) (by rfl) ?_
  refine j_aload_n0 (n := 23) dX2_separates_22 rfl ?_
  refine j_get (n := 26) (k := 7) dX2_separates_23 rfl jcl2 (Nat.le_of_ble_eq_true rfl) fl_X2_24 (by first | decide | omega) (by first | assumption | rfl) (by rfl) ?_
  refine j_get (n := 29) (k := 1) dX2_separates_26 rfl jcl4 (Nat.le_of_ble_eq_true rfl) fl_X2_91 (by first | decide | omega) (by first | assumption | rfl) (by rfl) ?_
  refine j_zicmp_lt (n := 32) 34 dX2_separates_29 rfl (by decide) (by omega) (by omega) (fun e1 => ?_) (fun e1 => ?_)
  rotate_left
  · have hf : sepB n t w = false := by
      rw [hsb]
      exact decide_eq_false (by omega)
    refine j_iconst (n := 33) (nI 0) dX2_separates_32 rfl (by decide) ?_
    exact j_ret0 hf dX2_separates_33 rfl ⟨rfl, _, _, _, rfl, fun z => by rw [hf] at z; cases z⟩
  have hf : sepB n t w = true := by
    rw [hsb]
    exact decide_eq_true e1
  refine j_aload_n0 (n := 35) dX2_separates_34 rfl ?_
  refine j_get (n := 38) (k := 4) dX2_separates_35 rfl jcl2 (Nat.le_of_ble_eq_true rfl) fl_X2_32 (by first | decide | omega) (by first | assumption | rfl) (by rfl) ?_
  refine j_aload_n0 (n := 39) dX2_separates_38 rfl ?_
  refine j_get (n := 42) (k := 3) dX2_separates_39 rfl jcl2 (Nat.le_of_ble_eq_true rfl) fl_X2_28 (by first | decide | omega) (by first | assumption | rfl) (by rfl) ?_
  refine j_fnS1 (n := 45) (con_X5_all (by omega)) dX2_separates_42 rfl cal_X5_all ml_X2_94 (Nat.le_of_ble_eq_true rfl) (Nat.le_of_ble_eq_true rfl) ?_
  refine j_lcmp (n := 46) dX2_separates_45 rfl ?_
  have hall : (2 : Nat) ^ 2 ^ n - 1 < 2 ^ 62 := by
    have := Nat.pow_le_pow_right (n := 2) (by omega) (pw5 hn)
    omega
  refine j_lif_eq (n := 49) 53 dX2_separates_46 rfl (by decide) (fun e2 => ?_) (fun e2 => ?_)
  · have e3 : t = 2 ^ 2 ^ n - 1 := (fb_lN_inj (by omega) (by omega)).mp e2
    refine j_iconst (n := 54) (nI 0) dX2_separates_53 rfl (by decide) ?_
    refine j_istore_n1 (n := 55) dX2_separates_54 rfl (Nat.le_of_ble_eq_true rfl) rfl ?_
    refine j_aload_n0 (n := 56) dX2_separates_55 rfl ?_
    refine j_iload_n1 (n := 57) dX2_separates_56 rfl ?_
    refine j_bif_eq (b := false) (n := 60) 72 dX2_separates_57 rfl (by decide) (fun _ => ?_) (fun z => (Bool.false_ne_true z).elim)
    refine j_aload_n0 (n := 73) dX2_separates_72 rfl ?_
    refine j_get (n := 76) (k := 7) dX2_separates_73 rfl jcl2 (Nat.le_of_ble_eq_true rfl) fl_X2_24 (by first | decide | omega) (by first | assumption | rfl) (by rfl) ?_
    refine j_get (n := 79) (k := 1) dX2_separates_76 rfl jcl4 (Nat.le_of_ble_eq_true rfl) fl_X2_91 (by first | decide | omega) (by first | assumption | rfl) (by rfl) ?_
    rw [if_pos e3] at hbw
    rw [← hbw]
    refine j_put (n := 82) (k := 1) (fs2 := oLeast g (iI (bndW n t w)) sz (nI n) (lN t)) dX2_separates_79 rfl jcl2 tyX2_ok nmX2 (Nat.le_of_ble_eq_true rfl) rfl (tyX2_ok 1 (Nat.le_of_ble_eq_true rfl)) fl_X2_98 (by rfl) (by rfl) (by first | decide | omega) (by first | assumption | rfl) (Nat.le_of_ble_eq_true rfl) (by rfl) ?_
    rw [LM_u5]
    refine j_iconst (n := 83) (nI 1) dX2_separates_82 rfl (by decide) ?_
    exact j_ret1 hf dX2_separates_83 rfl ⟨rfl, _, _, _, rfl, fun _ => rfl⟩
  · have e3 : ¬ t = 2 ^ 2 ^ n - 1 := fun z => e2 (by rw [← z])
    refine j_iconst (n := 50) (nI 1) dX2_separates_49 rfl (by decide) ?_
    refine j_goto 54 dX2_separates_50 (by decide) ?_
    refine j_istore_n1 (n := 55) dX2_separates_54 rfl (Nat.le_of_ble_eq_true rfl) rfl ?_
    refine j_aload_n0 (n := 56) dX2_separates_55 rfl ?_
    refine j_iload_n1 (n := 57) dX2_separates_56 rfl ?_
    refine j_bif_eq (b := true) (n := 60) 72 dX2_separates_57 rfl (by decide) (fun z => (Bool.false_ne_true z.symm).elim) (fun _ => ?_)
    refine j_aload_n0 (n := 61) dX2_separates_60 rfl ?_
    refine j_get (n := 64) (k := 7) dX2_separates_61 rfl jcl2 (Nat.le_of_ble_eq_true rfl) fl_X2_24 (by first | decide | omega) (by first | assumption | rfl) (by rfl) ?_
    refine j_get (n := 67) (k := 2) dX2_separates_64 rfl jcl4 (Nat.le_of_ble_eq_true rfl) fl_X2_88 (by first | decide | omega) (by first | assumption | rfl) (by rfl) ?_
    refine j_iconst (n := 68) (nI 1) dX2_separates_67 rfl (by decide) ?_
    refine j_iadd (n := 69) dX2_separates_68 rfl ?_
    rw [if_neg e3] at hbw
    refine j_topi (iI (bndW n t w)) (by rw [hbw, ← iI_nat, iI_add]; rfl) ?_
    refine j_goto 79 dX2_separates_69 (by decide) ?_
    refine j_put (n := 82) (k := 1) (fs2 := oLeast g (iI (bndW n t w)) sz (nI n) (lN t)) dX2_separates_79 rfl jcl2 tyX2_ok nmX2 (Nat.le_of_ble_eq_true rfl) rfl (tyX2_ok 1 (Nat.le_of_ble_eq_true rfl)) fl_X2_98 (by rfl) (by rfl) (by first | decide | omega) (by first | assumption | rfl) (Nat.le_of_ble_eq_true rfl) (by rfl) ?_
    rw [LM_u5]
    refine j_iconst (n := 83) (nI 1) dX2_separates_82 rfl (by decide) ?_
    exact j_ret1 hf dX2_separates_83 rfl ⟨rfl, _, _, _, rfl, fun _ => rfl⟩
