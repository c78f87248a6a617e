def SZo (j : Nat) : Nat := [1, 2, 4, 1, 4, 2, 2, 1, 4, 2, 4, 1, 4, 1, 2, 4, 2, 1, 2, 3, 4, 2, 4, 3, 3, 2, 4, 3, 4, 2, 4, 2, 3, 4, 3, 2].getD j 0
theorem SZ_v : ∀ j, j < 36 → (jSt 4).2.2.2.2.2 j = .int (nI (SZo j)) := by
  have h : ∀ j, j < 36 → ([1, 2, 4, 1, 4, 2, 2, 1, 4, 2, 4, 1, 4, 1, 2, 4, 2, 1, 2, 3, 4, 2, 4, 3, 3, 2, 4, 3, 4, 2, 4, 2, 3, 4, 3, 2].getD j 0 : Int32) = nI (SZo j) := by decide +kernel
  intro j hj
  exact congrArg Value.int (h j hj)
theorem SZ_le : ∀ j, SZo j ≤ 4 := by
  intro j
  by_cases h : j < 36
  · exact (by decide +kernel : ∀ j, j < 36 → SZo j ≤ 4) j h
  · unfold SZo
    rw [List.getD_eq_getElem?_getD, List.getElem?_eq_none (by simpa using Nat.not_lt.mp h)]
    decide
/-- the weights of an order of the rows -/
def oW (k i : Nat) : Int := if (k % 8).testBit i then -(SZo (k / 8 * 3 + i) : Int) else (SZo (k / 8 * 3 + i) : Int)
theorem oW_bd (k i : Nat) : -4 ≤ oW k i ∧ oW k i ≤ 4 := by
  have := SZ_le (k / 8 * 3 + i)
  unfold oW
  split <;> omega
theorem rsum_0 {w : Nat → Int} : ∀ i, rsum w 0 i = 0
  | 0 => rfl
  | i + 1 => by
    show rsum w 0 i + (if (0 : Nat).testBit i then w i else 0) = 0
    rw [rsum_0 i, Nat.zero_testBit]
    rfl
theorem osum_bd {k r n : Nat} (hn : n ≤ 3) : -12 ≤ rsum (oW k) r n ∧ rsum (oW k) r n ≤ 12 := by
  have h := rsum_bd (w := oW k) (r := r) (m := 4) (by omega) n (fun j _ => oW_bd k j)
  omega
set_option maxRecDepth 100000 in
theorem con_X0_weighRows {g : jG} {M : jMem} {n k : Nat} {lo gz : Int32} {f : Nat → Int32} (h12 : M 12 = .inr (0, oPair g)) (h15 : M 15 = .inr (4, oSums g 16 lo gz)) (h16 : M 16 = iA g 32 f) (hf : f 0 = iI 0) (hn : n ≤ 3) (hk : k < 96) : Con g jX0_weighRows 2 [.ref (jA g 12), .int (nI n), .int (nI k)] M (fun v M2 => v = none ∧ ∃ f2, M2 = va_up M 16 (iA g 32 f2) ∧ ∀ j, j < 2 ^ n → f2 j = iI (rsum (oW k) j n)) := by
  have n8 : ¬ nI 8 = 0 := by decide
  refine con_of (l := [some (.ref (jA g 12)), some (.int (nI n)), some (.int (nI k)), none, none, none]) (by decide) (Nat.le_of_ble_eq_true rfl) rfl ?_
  refine j_iload_n2 (n := 1) dX0_weighRows_0 rfl ?_
  refine j_bipush (n := 3) (nI 8) dX0_weighRows_1 rfl (by decide) ?_
  refine j_idiv (n := 4) dX0_weighRows_3 rfl (by first | assumption | decide) ?_
  refine j_topi (nI (k / 8)) (pk_div (by omega) (by omega) (by omega)) ?_
  refine j_iconst (n := 5) (nI 3) dX0_weighRows_4 rfl (by decide) ?_
  refine j_imul (n := 6) dX0_weighRows_5 rfl ?_
  refine j_topi (nI (k / 8 * 3)) (pk_mul _ _) ?_
  refine j_istore_n3 (n := 7) dX0_weighRows_6 rfl (Nat.le_of_ble_eq_true rfl) rfl ?_
  refine j_iconst (n := 8) (nI 0) dX0_weighRows_7 rfl (by decide) ?_
  refine j_istore4 (n := 10) dX0_weighRows_8 rfl (Nat.le_of_ble_eq_true rfl) rfl ?_
  have key : ∀ i, i ≤ n → ∀ (f : Nat → Int32) (x5 : Option Value), (∀ j, j < 2 ^ i → f j = iI (rsum (oW k) j i)) → J g jX0_weighRows 2 (fun v M2 => v = none ∧ ∃ f2, M2 = va_up M 16 (iA g 32 f2) ∧ ∀ j, j < 2 ^ n → f2 j = iI (rsum (oW k) j n)) 10 [some (.ref (jA g 12)), some (.int (nI n)), some (.int (nI k)), some (.int (nI (k / 8 * 3))), some (.int (nI i)), x5] [] (va_up M 16 (iA g 32 f)) := by
    refine j_for ?_ ?_
    · intro f x5 hf
      refine j_iload4 (n := 12) dX0_weighRows_10 rfl ?_
      refine j_iload_n1 (n := 13) dX0_weighRows_12 rfl ?_
      refine j_nicmp_ge (n := 16) 61 dX0_weighRows_13 rfl (by decide) (by omega) (by omega) (fun h => ?_) (fun h => ?_)
      rotate_left
      · omega
      refine j_vret dX0_weighRows_61 rfl ?_
      exact ⟨rfl, f, rfl, hf⟩
    · intro i hi ih f x5 hf
      have m12 : va_up M 16 (iA g 32 f) 12 = .inr (0, oPair g) := h12
      have m15 : va_up M 16 (iA g 32 f) 15 = .inr (4, oSums g (15 + 1) lo gz) := h15
      have m16 : va_up M 16 (iA g 32 f) (15 + 1) = iA g 32 f := va_at_eq
      have hsz := SZ_le (k / 8 * 3 + i)
      refine j_iload4 (n := 12) dX0_weighRows_10 rfl ?_
      refine j_iload_n1 (n := 13) dX0_weighRows_12 rfl ?_
      refine j_nicmp_ge (n := 16) 61 dX0_weighRows_13 rfl (by decide) (by omega) (by omega) (fun h => ?_) (fun h => ?_)
      · omega
      refine j_gets (n := 19) (kz := 4) dX0_weighRows_16 rfl (Nat.le_of_ble_eq_true rfl) fl_X0_55 ?_
      refine j_iload_n3 (n := 20) dX0_weighRows_19 rfl ?_
      refine j_iload4 (n := 22) dX0_weighRows_20 rfl ?_
      refine j_iadd (n := 23) dX0_weighRows_22 rfl ?_
      refine j_topi (nI (k / 8 * 3 + i)) (nI_add _ _) ?_
      refine j_tild_n (n := 24) (v := nI (SZo (k / 8 * 3 + i))) dX0_weighRows_23 rfl (Nat.le_of_ble_eq_true rfl) rfl (by decide) (show k / 8 * 3 + i < 36 by omega) (SZ_v _ (by omega)) ?_
      refine j_istore5 (n := 26) dX0_weighRows_24 rfl (Nat.le_of_ble_eq_true rfl) rfl ?_
      refine j_aload_n0 (n := 27) dX0_weighRows_26 rfl ?_
      refine j_get (n := 30) (k := 1) dX0_weighRows_27 rfl jcl0 (Nat.le_of_ble_eq_true rfl) fl_X0_21 (by first | decide | omega) (by first | assumption | rfl) (by rfl) ?_
      refine j_iload4 (n := 32) dX0_weighRows_30 rfl ?_
      refine j_iload_n2 (n := 33) dX0_weighRows_32 rfl ?_
      refine j_bipush (n := 35) (nI 8) dX0_weighRows_33 rfl (by decide) ?_
      refine j_irem (n := 36) dX0_weighRows_35 rfl (by first | assumption | decide) ?_
      refine j_topi (nI (k % 8)) (pk_rem (by omega) (by omega) (by omega)) ?_
      refine j_iload4 (n := 38) dX0_weighRows_36 rfl ?_
      refine j_fnS2 (n := 41) (con_X5_hasInput (by omega) (by omega)) dX0_weighRows_38 rfl cal_X5_hasInput ml_X0_59 (Nat.le_of_ble_eq_true rfl) (Nat.le_of_ble_eq_true rfl) ?_
      have h52 : J g jX0_weighRows 2 (fun v M2 => v = none ∧ ∃ f2, M2 = va_up M 16 (iA g 32 f2) ∧ ∀ j, j < 2 ^ n → f2 j = iI (rsum (oW k) j n)) 52 [some (.ref (jA g 12)), some (.int (nI n)), some (.int (nI k)), some (.int (nI (k / 8 * 3))), some (.int (nI i)), some (.int (nI (SZo (k / 8 * 3 + i))))] [.int (iI (oW k i)), .int (nI i), .ref (jA g 15)] (va_up M 16 (iA g 32 f)) := by
        refine j_cV2 (n := 55) (con_X4_setWeight (k := 15) (w := oW k) m15 m16 (by decide) (by omega) hf) dX0_weighRows_52 rfl cal_X4_setWeight ml_X0_63 (Nat.le_of_ble_eq_true rfl) (by first | decide | omega) rfl rfl (Nat.le_of_ble_eq_true rfl) (by first | assumption | rfl) ?_
        rintro _ M2 ⟨rfl, f2, rfl, hf2⟩
        rw [va_uu]
        refine j_inc4 (n := 58) dX0_weighRows_55 rfl (Nat.le_of_ble_eq_true rfl) rfl ?_
        refine j_goto 10 dX0_weighRows_58 (by decide) ?_
        exact ih f2 _ hf2
      refine j_bif_eq (n := 44) 50 dX0_weighRows_41 rfl (by decide) (fun e => ?_) (fun e => ?_)
      · refine j_iload5 (n := 52) dX0_weighRows_50 rfl ?_
        refine j_topi (iI (oW k i)) ?_ h52
        unfold oW
        rw [e, if_neg Bool.false_ne_true, iI_nat]
      · refine j_iload5 (n := 46) dX0_weighRows_44 rfl ?_
        refine j_ineg (n := 47) dX0_weighRows_46 rfl ?_
        refine j_goto 52 dX0_weighRows_47 (by decide) ?_
        refine j_topi (iI (oW k i)) ?_ h52
        unfold oW
        rw [e, if_pos rfl, ← iI_nat, iI_neg]
  have l0 := key 0 (Nat.zero_le _) f none (fun j hj => by rw [show j = 0 by omega, hf]; rfl)
  rw [va_self h16] at l0
  exact l0
def WO (n t k : Nat) (r : Nat) : Bool := t.testBit r && decide (rsum (oW k) r n < eHi t (fun r => rsum (oW k) r n) (2 ^ n))
def WZ (n t k : Nat) (r : Nat) : Bool := !t.testBit r && decide (eLo t (fun r => rsum (oW k) r n) (2 ^ n) < rsum (oW k) r n)
def WM (g : jG) (M : jMem) (lo gz : Int32) (fz fo : Nat → Int64) : jMem := va_up (va_up (va_up M 15 (.inr (4, oSums g 16 lo gz))) 17 (lA g 96 fz)) 18 (lA g 96 fo)
section WMS
variable {g : jG} {M : jMem} {lo gz : Int32} {fz fo : Nat → Int64}
theorem WM_k {k : Nat} (h1 : k ≠ 15) (h2 : k ≠ 17) (h3 : k ≠ 18) : WM g M lo gz fz fo k = M k := by
  unfold WM
  rw [va_at_ne h3, va_at_ne h2, va_at_ne h1]
theorem WM_eq {M2 : jMem} (a : M2 15 = .inr (4, oSums g 16 lo gz)) (b : M2 17 = lA g 96 fz) (c : M2 18 = lA g 96 fo) (hk : ∀ k, k ≠ 15 → k ≠ 17 → k ≠ 18 → M2 k = M k) : M2 = WM g M lo gz fz fo := by
  funext k
  by_cases e1 : k = 15
  · rw [e1]; exact a
  by_cases e2 : k = 17
  · rw [e2]; exact b
  by_cases e3 : k = 18
  · rw [e3]; exact c
  rw [WM_k e1 e2 e3]
  exact hk k e1 e2 e3
theorem WM_17 {f2 : Nat → Int64} : va_up (WM g M lo gz fz fo) 17 (lA g 96 f2) = WM g M lo gz f2 fo := by
  refine WM_eq rfl va_at_eq rfl (fun k h1 h2 h3 => ?_)
  rw [va_at_ne h2, WM_k h1 h2 h3]
theorem WM_18 {f2 : Nat → Int64} : va_up (WM g M lo gz fz fo) 18 (lA g 96 f2) = WM g M lo gz fz f2 := by
  refine WM_eq rfl rfl va_at_eq (fun k h1 h2 h3 => ?_)
  rw [va_at_ne h3, WM_k h1 h2 h3]
end WMS
theorem updL_eq {f : Nat → Int64} {i : Nat} {x : Int64} : vp_updL f i x i = x := by
  unfold vp_updL
  rw [if_pos rfl]
theorem updL_ne {f : Nat → Int64} {i j : Nat} {x : Int64} (h : j ≠ i) : vp_updL f i x j = f j := by
  unfold vp_updL
  rw [if_neg h]
theorem or_step (r : Nat) (p : Nat → Bool) (h : p r = true) : lN (mkT r p) ||| lN (2 ^ r) = lN (mkT (r + 1) p) := by
  rw [fb_orL]
  show _ = lN (mkT r p ||| (if p r then 2 ^ r else 0))
  rw [h, if_pos rfl]
theorem no_step (r : Nat) (p : Nat → Bool) (h : p r = false) : mkT (r + 1) p = mkT r p := by
  show (mkT r p ||| (if p r then 2 ^ r else 0)) = mkT r p
  rw [h, if_neg Bool.false_ne_true, Nat.or_zero]
set_option maxRecDepth 100000 in
theorem con_X0_findWrongRows {g : jG} {M : jMem} {n t k : Nat} {lo gz : Int32} {f : Nat → Int32} {fz fo : Nat → Int64} (h12 : M 12 = .inr (0, oPair g)) (h15 : M 15 = .inr (4, oSums g 16 lo gz)) (h16 : M 16 = iA g 32 f) (h17 : M 17 = lA g 96 fz) (h18 : M 18 = lA g 96 fo) (hn : n ≤ 3) (ht : t < 2 ^ 32) (hk : k < 96) (hf : ∀ j, j < 2 ^ n → f j = iI (rsum (oW k) j n)) : Con g jX0_findWrongRows 2 [.ref (jA g 12), .int (nI n), .long (lN t), .int (nI k)] M (fun v M2 => v = none ∧ ∃ lo2 gz2 fz2 fo2, M2 = WM g M lo2 gz2 fz2 fo2 ∧ fz2 k = lN (mkT (2 ^ n) (WZ n t k)) ∧ fo2 k = lN (mkT (2 ^ n) (WO n t k)) ∧ (∀ j, j ≠ k → fz2 j = fz j) ∧ ∀ j, j ≠ k → fo2 j = fo j) := by
  have h8 := pw8 hn
  have hb : ∀ j, -900 ≤ rsum (oW k) j n ∧ rsum (oW k) j n ≤ 900 := fun j => by have := osum_bd (k := k) (r := j) hn; omega
  have m16' : M (15 + 1) = iA g 32 f := h16
  refine con_of (l := [some (.ref (jA g 12)), some (.int (nI n)), some (.long (lN t)), none, some (.int (nI k)), none, none]) (by decide) (Nat.le_of_ble_eq_true rfl) rfl ?_
  refine j_aload_n0 (n := 1) dX0_findWrongRows_0 rfl ?_
  refine j_get (n := 4) (k := 1) dX0_findWrongRows_1 rfl jcl0 (Nat.le_of_ble_eq_true rfl) fl_X0_21 (by first | decide | omega) (by first | assumption | rfl) (by rfl) ?_
  refine j_iload_n1 (n := 5) dX0_findWrongRows_4 rfl ?_
  refine j_lload_n2 (n := 6) dX0_findWrongRows_5 rfl ?_
  refine j_cV2 (n := 9) (con_X4_findEnds (k := 15) (x := fun r => rsum (oW k) r n) h15 m16' (by decide) (by omega) ht hf (fun j _ => hb j)) dX0_findWrongRows_6 rfl cal_X4_findEnds ml_X0_66 (Nat.le_of_ble_eq_true rfl) (by first | decide | omega) rfl rfl (Nat.le_of_ble_eq_true rfl) (by first | assumption | rfl) ?_
  rintro _ M2 ⟨rfl, rfl⟩
  obtain ⟨L, hL⟩ : ∃ L, L = eLo t (fun r => rsum (oW k) r n) (2 ^ n) := ⟨_, rfl⟩
  obtain ⟨H, hH⟩ : ∃ H, H = eHi t (fun r => rsum (oW k) r n) (2 ^ n) := ⟨_, rfl⟩
  have hLr := eLo_rg (t := t) (x := fun r => rsum (oW k) r n) (2 ^ n) (fun j _ => hb j)
  have hHr := eHi_rg (t := t) (x := fun r => rsum (oW k) r n) (2 ^ n) (fun j _ => hb j)
  rw [← hL] at hLr
  rw [← hH] at hHr
  rw [← hL, ← hH]
  have eM : va_up M 15 (.inr (4, oSums g (15 + 1) (iI L) (iI H))) = WM g M (iI L) (iI H) fz fo := WM_eq va_at_eq ((va_at_ne (by decide)).trans h17) ((va_at_ne (by decide)).trans h18) (fun k h1 _ _ => va_at_ne h1)
  rw [eM]
  have m12 : WM g M (iI L) (iI H) fz fo 12 = .inr (0, oPair g) := h12
  have m17 : WM g M (iI L) (iI H) fz fo 17 = lA g 96 fz := rfl
  refine j_aload_n0 (n := 10) dX0_findWrongRows_9 rfl ?_
  refine j_get (n := 13) (k := 2) dX0_findWrongRows_10 rfl jcl0 (Nat.le_of_ble_eq_true rfl) fl_X0_25 (by first | decide | omega) (by first | assumption | rfl) (by rfl) ?_
  refine j_iload4 (n := 15) dX0_findWrongRows_13 rfl ?_
  refine j_lconst (n := 16) (lN 0) dX0_findWrongRows_15 rfl rfl ?_
  refine j_last_n (n := 17) dX0_findWrongRows_16 rfl (by first | decide | omega) (by first | assumption | rfl) (by decide) (by first | assumption | omega) ?_
  rw [WM_17]
  have m12 : WM g M (iI L) (iI H) (vp_updL fz k (lN 0)) fo 12 = .inr (0, oPair g) := h12
  have m18 : WM g M (iI L) (iI H) (vp_updL fz k (lN 0)) fo 18 = lA g 96 fo := rfl
  refine j_aload_n0 (n := 18) dX0_findWrongRows_17 rfl ?_
  refine j_get (n := 21) (k := 3) dX0_findWrongRows_18 rfl jcl0 (Nat.le_of_ble_eq_true rfl) fl_X0_29 (by first | decide | omega) (by first | assumption | rfl) (by rfl) ?_
  refine j_iload4 (n := 23) dX0_findWrongRows_21 rfl ?_
  refine j_lconst (n := 24) (lN 0) dX0_findWrongRows_23 rfl rfl ?_
  refine j_last_n (n := 25) dX0_findWrongRows_24 rfl (by first | decide | omega) (by first | assumption | rfl) (by decide) (by first | assumption | omega) ?_
  rw [WM_18]
  refine j_iconst (n := 26) (nI 0) dX0_findWrongRows_25 rfl (by decide) ?_
  refine j_istore5 (n := 28) dX0_findWrongRows_26 rfl (Nat.le_of_ble_eq_true rfl) rfl ?_
  have key : ∀ r, r ≤ 2 ^ n → ∀ (fz2 fo2 : Nat → Int64) (x6 : Option Value), fz2 k = lN (mkT r (WZ n t k)) → fo2 k = lN (mkT r (WO n t k)) → (∀ j, j ≠ k → fz2 j = fz j) → (∀ j, j ≠ k → fo2 j = fo j) → J g jX0_findWrongRows 2 (fun v M2 => v = none ∧ ∃ lo2 gz2 fz2 fo2, M2 = WM g M lo2 gz2 fz2 fo2 ∧ fz2 k = lN (mkT (2 ^ n) (WZ n t k)) ∧ fo2 k = lN (mkT (2 ^ n) (WO n t k)) ∧ (∀ j, j ≠ k → fz2 j = fz j) ∧ ∀ j, j ≠ k → fo2 j = fo j) 28 [some (.ref (jA g 12)), some (.int (nI n)), some (.long (lN t)), none, some (.int (nI k)), some (.int (nI r)), x6] [] (WM g M (iI L) (iI H) fz2 fo2) := by
    refine j_for ?_ ?_
    · intro fz2 fo2 x6 q1 q2 q3 q4
      refine j_iload5 (n := 30) dX0_findWrongRows_28 rfl ?_
      refine j_iload_n1 (n := 31) dX0_findWrongRows_30 rfl ?_
      refine j_fnS1 (n := 34) (con_X5_number (by omega)) dX0_findWrongRows_31 rfl cal_X5_number ml_X0_70 (Nat.le_of_ble_eq_true rfl) (Nat.le_of_ble_eq_true rfl) ?_
      refine j_nicmp_ge (n := 37) 132 dX0_findWrongRows_34 rfl (by decide) (by omega) (by omega) (fun h => ?_) (fun h => ?_)
      rotate_left
      · omega
      refine j_vret dX0_findWrongRows_132 rfl ?_
      exact ⟨rfl, _, _, fz2, fo2, rfl, q1, q2, q3, q4⟩
    · intro r hr ih fz2 fo2 x6 q1 q2 q3 q4
      have hxr := osum_bd (k := k) (r := r) hn
      have m12 : WM g M (iI L) (iI H) fz2 fo2 12 = .inr (0, oPair g) := h12
      have m15 : WM g M (iI L) (iI H) fz2 fo2 15 = .inr (4, oSums g 16 (iI L) (iI H)) := rfl
      have m16 : WM g M (iI L) (iI H) fz2 fo2 16 = iA g 32 f := h16
      have m17 : WM g M (iI L) (iI H) fz2 fo2 17 = lA g 96 fz2 := rfl
      have m18 : WM g M (iI L) (iI H) fz2 fo2 18 = lA g 96 fo2 := rfl
      refine j_iload5 (n := 30) dX0_findWrongRows_28 rfl ?_
      refine j_iload_n1 (n := 31) dX0_findWrongRows_30 rfl ?_
      refine j_fnS1 (n := 34) (con_X5_number (by omega)) dX0_findWrongRows_31 rfl cal_X5_number ml_X0_70 (Nat.le_of_ble_eq_true rfl) (Nat.le_of_ble_eq_true rfl) ?_
      refine j_nicmp_ge (n := 37) 132 dX0_findWrongRows_34 rfl (by decide) (by omega) (by omega) (fun h => ?_) (fun h => ?_)
      · omega
      refine j_lload_n2 (n := 38) dX0_findWrongRows_37 rfl ?_
      refine j_iload5 (n := 40) dX0_findWrongRows_38 rfl ?_
      refine j_fnS2 (n := 43) (con_X5_isOne (by omega) (by omega)) dX0_findWrongRows_40 rfl cal_X5_isOne ml_X0_74 (Nat.le_of_ble_eq_true rfl) (Nat.le_of_ble_eq_true rfl) ?_
      refine j_istore6 (n := 45) dX0_findWrongRows_43 rfl (Nat.le_of_ble_eq_true rfl) rfl ?_
      refine j_iload6 (n := 47) dX0_findWrongRows_45 rfl ?_
      -- neither
      have h126 : WZ n t k r = false → WO n t k r = false → J g jX0_findWrongRows 2 (fun v M2 => v = none ∧ ∃ lo2 gz2 fz2 fo2, M2 = WM g M lo2 gz2 fz2 fo2 ∧ fz2 k = lN (mkT (2 ^ n) (WZ n t k)) ∧ fo2 k = lN (mkT (2 ^ n) (WO n t k)) ∧ (∀ j, j ≠ k → fz2 j = fz j) ∧ ∀ j, j ≠ k → fo2 j = fo j) 126 [some (.ref (jA g 12)), some (.int (nI n)), some (.long (lN t)), none, some (.int (nI k)), some (.int (nI r)), some (.int (jB (t.testBit r)))] [] (WM g M (iI L) (iI H) fz2 fo2) := by
        intro z1 z2
        refine j_inc5 (n := 129) dX0_findWrongRows_126 rfl (Nat.le_of_ble_eq_true rfl) rfl ?_
        refine j_goto 28 dX0_findWrongRows_129 (by decide) ?_
        exact ih fz2 fo2 _ (by rw [no_step r _ z1]; exact q1) (by rw [no_step r _ z2]; exact q2) q3 q4
      refine j_bif_eq (n := 50) 87 dX0_findWrongRows_47 rfl (by decide) (fun e1 => ?_) (fun e1 => ?_)
      · -- a zero
        refine j_iload6 (n := 89) dX0_findWrongRows_87 rfl ?_
        rw [e1] at h126
        have zo : WO n t k r = false := by unfold WO; rw [e1]; rfl
        refine j_if_ne (n := 92) 126 dX0_findWrongRows_89 rfl (by decide) (fun e => ?_) (fun _ => ?_)
        · rw [e1] at e
          exact absurd rfl e
        refine j_aload_n0 (n := 93) dX0_findWrongRows_92 rfl ?_
        refine j_get (n := 96) (k := 1) dX0_findWrongRows_93 rfl jcl0 (Nat.le_of_ble_eq_true rfl) fl_X0_21 (by first | decide | omega) (by first | assumption | rfl) (by rfl) ?_
        refine j_get (n := 99) (k := 0) dX0_findWrongRows_96 rfl jcl4 (Nat.le_of_ble_eq_true rfl) fl_X0_78 (by first | decide | omega) (by first | assumption | rfl) (by rfl) ?_
        refine j_iload5 (n := 101) dX0_findWrongRows_99 rfl ?_
        refine j_iald_n (n := 102) dX0_findWrongRows_101 rfl (by first | decide | omega) (by first | assumption | rfl) (by decide) (by first | assumption | omega) ?_
        rw [hf r hr]
        refine j_aload_n0 (n := 103) dX0_findWrongRows_102 rfl ?_
        refine j_get (n := 106) (k := 1) dX0_findWrongRows_103 rfl jcl0 (Nat.le_of_ble_eq_true rfl) fl_X0_21 (by first | decide | omega) (by first | assumption | rfl) (by rfl) ?_
        refine j_get (n := 109) (k := 1) dX0_findWrongRows_106 rfl jcl4 (Nat.le_of_ble_eq_true rfl) fl_X0_85 (by first | decide | omega) (by first | assumption | rfl) (by rfl) ?_
        refine j_zicmp_le (n := 112) 126 dX0_findWrongRows_109 rfl (by decide) (by omega) (by omega) (fun e2 => ?_) (fun e2 => ?_)
        · rw [e1]
          refine h126 ?_ zo
          unfold WZ
          rw [e1, ← hL, decide_eq_false (by omega)]
          rfl
        · have wz : WZ n t k r = true := by
            unfold WZ
            rw [e1, ← hL, decide_eq_true (by omega)]
            rfl
          refine j_aload_n0 (n := 113) dX0_findWrongRows_112 rfl ?_
          refine j_get (n := 116) (k := 2) dX0_findWrongRows_113 rfl jcl0 (Nat.le_of_ble_eq_true rfl) fl_X0_25 (by first | decide | omega) (by first | assumption | rfl) (by rfl) ?_
          refine j_iload4 (n := 118) dX0_findWrongRows_116 rfl ?_
          refine j_dup2_11 (n := 119) dX0_findWrongRows_118 rfl rfl rfl ?_
          refine j_lald_n (n := 120) dX0_findWrongRows_119 rfl (by first | decide | omega) (by first | assumption | rfl) (by decide) (by first | assumption | omega) ?_
          rw [q1]
          refine j_lconst (n := 121) (lN 1) dX0_findWrongRows_120 rfl rfl ?_
          refine j_iload5 (n := 123) dX0_findWrongRows_121 rfl ?_
          refine j_lshl (n := 124) dX0_findWrongRows_123 rfl ?_
          refine j_topl (lN (2 ^ r)) (al_shl1 (by omega)) ?_
          refine j_lor (n := 125) dX0_findWrongRows_124 rfl ?_
          refine j_topl _ (or_step r _ wz) ?_
          refine j_last_n (n := 126) dX0_findWrongRows_125 rfl (by first | decide | omega) (by first | assumption | rfl) (by decide) (by first | assumption | omega) ?_
          rw [WM_17]
          refine j_inc5 (n := 129) dX0_findWrongRows_126 rfl (Nat.le_of_ble_eq_true rfl) rfl ?_
          refine j_goto 28 dX0_findWrongRows_129 (by decide) ?_
          exact ih _ fo2 _ updL_eq (by rw [no_step r _ zo]; exact q2) (fun j hj => (updL_ne hj).trans (q3 j hj)) q4
      · -- a one
        have zz : WZ n t k r = false := by unfold WZ; rw [e1]; rfl
        have h87 : WO n t k r = false → J g jX0_findWrongRows 2 (fun v M2 => v = none ∧ ∃ lo2 gz2 fz2 fo2, M2 = WM g M lo2 gz2 fz2 fo2 ∧ fz2 k = lN (mkT (2 ^ n) (WZ n t k)) ∧ fo2 k = lN (mkT (2 ^ n) (WO n t k)) ∧ (∀ j, j ≠ k → fz2 j = fz j) ∧ ∀ j, j ≠ k → fo2 j = fo j) 87 [some (.ref (jA g 12)), some (.int (nI n)), some (.long (lN t)), none, some (.int (nI k)), some (.int (nI r)), some (.int (jB (t.testBit r)))] [] (WM g M (iI L) (iI H) fz2 fo2) := by
          intro zo
          refine j_iload6 (n := 89) dX0_findWrongRows_87 rfl ?_
          rw [e1] at h126 ⊢
          refine j_if_ne (n := 92) 126 dX0_findWrongRows_89 rfl (by decide) (fun e => h126 zz zo) (fun e => absurd e (by decide))
        refine j_aload_n0 (n := 51) dX0_findWrongRows_50 rfl ?_
        refine j_get (n := 54) (k := 1) dX0_findWrongRows_51 rfl jcl0 (Nat.le_of_ble_eq_true rfl) fl_X0_21 (by first | decide | omega) (by first | assumption | rfl) (by rfl) ?_
        refine j_get (n := 57) (k := 0) dX0_findWrongRows_54 rfl jcl4 (Nat.le_of_ble_eq_true rfl) fl_X0_78 (by first | decide | omega) (by first | assumption | rfl) (by rfl) ?_
        refine j_iload5 (n := 59) dX0_findWrongRows_57 rfl ?_
        refine j_iald_n (n := 60) dX0_findWrongRows_59 rfl (by first | decide | omega) (by first | assumption | rfl) (by decide) (by first | assumption | omega) ?_
        rw [hf r hr]
        refine j_aload_n0 (n := 61) dX0_findWrongRows_60 rfl ?_
        refine j_get (n := 64) (k := 1) dX0_findWrongRows_61 rfl jcl0 (Nat.le_of_ble_eq_true rfl) fl_X0_21 (by first | decide | omega) (by first | assumption | rfl) (by rfl) ?_
        refine j_get (n := 67) (k := 2) dX0_findWrongRows_64 rfl jcl4 (Nat.le_of_ble_eq_true rfl) fl_X0_81 (by first | decide | omega) (by first | assumption | rfl) (by rfl) ?_
        refine j_zicmp_ge (n := 70) 87 dX0_findWrongRows_67 rfl (by decide) (by omega) (by omega) (fun e2 => ?_) (fun e2 => ?_)
        · refine h87 ?_
          unfold WO
          rw [e1, ← hH, decide_eq_false (by omega)]
          rfl
        · have wo : WO n t k r = true := by
            unfold WO
            rw [e1, ← hH, decide_eq_true (by omega)]
            rfl
          refine j_aload_n0 (n := 71) dX0_findWrongRows_70 rfl ?_
          refine j_get (n := 74) (k := 3) dX0_findWrongRows_71 rfl jcl0 (Nat.le_of_ble_eq_true rfl) fl_X0_29 (by first | decide | omega) (by first | assumption | rfl) (by rfl) ?_
          refine j_iload4 (n := 76) dX0_findWrongRows_74 rfl ?_
          refine j_dup2_11 (n := 77) dX0_findWrongRows_76 rfl rfl rfl ?_
          refine j_lald_n (n := 78) dX0_findWrongRows_77 rfl (by first | decide | omega) (by first | assumption | rfl) (by decide) (by first | assumption | omega) ?_
          rw [q2]
          refine j_lconst (n := 79) (lN 1) dX0_findWrongRows_78 rfl rfl ?_
          refine j_iload5 (n := 81) dX0_findWrongRows_79 rfl ?_
          refine j_lshl (n := 82) dX0_findWrongRows_81 rfl ?_
          refine j_topl (lN (2 ^ r)) (al_shl1 (by omega)) ?_
          refine j_lor (n := 83) dX0_findWrongRows_82 rfl ?_
          refine j_topl _ (or_step r _ wo) ?_
          refine j_last_n (n := 84) dX0_findWrongRows_83 rfl (by first | decide | omega) (by first | assumption | rfl) (by decide) (by first | assumption | omega) ?_
          rw [WM_18]
          refine j_goto 126 dX0_findWrongRows_84 (by decide) ?_
          refine j_inc5 (n := 129) dX0_findWrongRows_126 rfl (Nat.le_of_ble_eq_true rfl) rfl ?_
          refine j_goto 28 dX0_findWrongRows_129 (by decide) ?_
          exact ih fz2 _ _ (by rw [no_step r _ zz]; exact q1) updL_eq q3 (fun j hj => (updL_ne hj).trans (q4 j hj))
  exact key 0 (Nat.zero_le _) _ _ none updL_eq updL_eq (fun j hj => updL_ne hj) (fun j hj => updL_ne hj)
