set_option maxRecDepth 100000 in
theorem con_J7_fill_53178 {g : jG} {M : jMem} {kc N : Nat} {f : Nat → Int32} {v : Int32} (hk : kc < 52) (hN : N < 1000) (hM : M kc = iA g N f) : Con g jJ7_fill_53178 0 [.ref (jA g kc), .int v] M (fun r M2 => r = none ∧ ∃ f2, M2 = va_up M kc (iA g N f2) ∧ ∀ k, k < N → f2 k = v) := by
  refine con_of (l := [some (.ref (jA g kc)), some (.int v), none, none]) (by decide) (Nat.le_of_ble_eq_true rfl) rfl ?_
  refine j_iconst (n := 1) (nI 0) dJ7_fill_53178_0 rfl (by decide) ?_
  refine j_istore_n2 (n := 2) dJ7_fill_53178_1 rfl (Nat.le_of_ble_eq_true rfl) rfl ?_
  refine j_aload_n0 (n := 3) dJ7_fill_53178_2 rfl ?_
  refine j_alen (n := 4) dJ7_fill_53178_3 rfl hk hM ?_
  refine j_istore_n3 (n := 5) dJ7_fill_53178_4 rfl (Nat.le_of_ble_eq_true rfl) rfl ?_
  have key : ∀ i, i ≤ N → ∀ f2 : Nat → Int32, (∀ k, k < i → f2 k = v) → J g jJ7_fill_53178 0 (fun r M2 => r = none ∧ ∃ f2, M2 = va_up M kc (iA g N f2) ∧ ∀ k, k < N → f2 k = v) 5 [some (.ref (jA g kc)), some (.int v), some (.int (nI i)), some (.int (nI N))] [] (va_up M kc (iA g N f2)) := by
    refine j_for ?_ ?_
    · intro f2 hf
      refine j_iload_n2 (n := 6) dJ7_fill_53178_5 rfl ?_
      refine j_iload_n3 (n := 7) dJ7_fill_53178_6 rfl ?_
      refine j_nicmp_ge (n := 10) 20 dJ7_fill_53178_7 rfl (by decide) (by omega) (by omega) (fun h => ?_) (fun h => ?_)
      · refine j_vret dJ7_fill_53178_20 rfl ?_
        exact ⟨rfl, f2, rfl, hf⟩
      · omega
    · intro i hi ih f2 hf
      refine j_iload_n2 (n := 6) dJ7_fill_53178_5 rfl ?_
      refine j_iload_n3 (n := 7) dJ7_fill_53178_6 rfl ?_
      refine j_nicmp_ge (n := 10) 20 dJ7_fill_53178_7 rfl (by decide) (by omega) (by omega) (fun h => ?_) (fun h => ?_)
      · omega
      refine j_aload_n0 (n := 11) dJ7_fill_53178_10 rfl ?_
      refine j_iload_n2 (n := 12) dJ7_fill_53178_11 rfl ?_
      refine j_iload_n1 (n := 13) dJ7_fill_53178_12 rfl ?_
      refine j_iast_n (n := 14) dJ7_fill_53178_13 rfl hk va_at_eq (by omega) hi ?_
      rw [va_uu]
      refine j_inc2 (n := 17) dJ7_fill_53178_14 rfl (Nat.le_of_ble_eq_true rfl) rfl ?_
      refine j_goto 5 dJ7_fill_53178_17 (by decide) ?_
      refine ih _ (fun k hk => ?_)
      by_cases e : k = i
      · rw [e, pk_us]
      · rw [pk_un e]
        exact hf k (by omega)
  have h0 := key 0 (Nat.zero_le _) f (fun k hk => absurd hk (Nat.not_lt_zero k))
  rw [va_self hM] at h0
  exact h0
/-- the rows of weights, by the outer array -/
def wO (g : jG) : va_E := .inl (jc g 3, 9, .inr (.inr (.inr (.inr (fun i => if i < 9 then some (jA g (23 + i)) else none)))))
set_option maxRecDepth 100000 in
theorem con_X3_sumAt {g : jG} {M : jMem} {ni ng o r ka : Nat} {wr : Nat → Int32} {al : Nat → Int64} {w : Nat → Int} {T : Nat → Nat} (h19 : M 19 = .inr (3, oNet g (nI ni) (nI ng))) (h22 : M 22 = wO g) (hw : M (23 + o) = iA g 12 wr) (hwr : ∀ k, k < ni + o → wr k = iI (w k)) (ho : o < 8) (hni : ni ≤ 4) (hka : ka < 52) (ha : M ka = lA g 8 al) (hal : ∀ j, j < o → al j = lN (T j) ∧ T j < 2 ^ 16) (hr : r < 16) : Fn g jX3_sumAt 1 [.ref (jA g 19), .int (nI r), .int (nI o), .ref (jA g ka)] M (.int (iI (nSum ni w T r (ni + o)))) := by
  have h22 : M 22 = .inl (jc g 3, 9, .inr (.inr (.inr (.inr (fun i => if i < 9 then some (jA g (23 + i)) else none))))) := h22
  refine con_of (l := [some (.ref (jA g 19)), some (.int (nI r)), some (.int (nI o)), some (.ref (jA g ka)), none, none]) (by decide) (Nat.le_of_ble_eq_true rfl) rfl ?_
  refine j_iconst (n := 1) (nI 0) dX3_sumAt_0 rfl (by decide) ?_
  refine j_istore4 (n := 3) dX3_sumAt_1 rfl (Nat.le_of_ble_eq_true rfl) rfl ?_
  refine j_iconst (n := 4) (nI 0) dX3_sumAt_3 rfl (by decide) ?_
  refine j_istore5 (n := 6) dX3_sumAt_4 rfl (Nat.le_of_ble_eq_true rfl) rfl ?_
  have second : ∀ i, i ≤ o → J g jX3_sumAt 1 (fun v M2 => v = some (.int (iI (nSum ni w T r (ni + o)))) ∧ M2 = M) 47 [some (.ref (jA g 19)), some (.int (nI r)), some (.int (nI o)), some (.ref (jA g ka)), some (.int (iI (nSum ni w T r (ni + i)))), some (.int (nI i))] [] M := by
    refine j_for ?_ ?_
    · refine j_iload5 (n := 49) dX3_sumAt_47 rfl ?_
      refine j_iload_n2 (n := 50) dX3_sumAt_49 rfl ?_
      refine j_nicmp_ge (n := 53) 89 dX3_sumAt_50 rfl (by decide) (by omega) (by omega) (fun h => ?_) (fun h => ?_)
      · refine j_iload4 (n := 91) dX3_sumAt_89 rfl ?_
        refine j_iret dX3_sumAt_91 rfl ?_
        exact ⟨rfl, rfl⟩
      · omega
    · intro i hi ih
      have hb := hal i hi
      have hs : nSum ni w T r (ni + (i + 1)) = nSum ni w T r (ni + i) + (if (T i).testBit r then w (ni + i) else 0) := by
        show nSum ni w T r (ni + i + 1) = _
        simp [nSum, show ¬ (ni + i < ni) by omega]
      refine j_iload5 (n := 49) dX3_sumAt_47 rfl ?_
      refine j_iload_n2 (n := 50) dX3_sumAt_49 rfl ?_
      refine j_nicmp_ge (n := 53) 89 dX3_sumAt_50 rfl (by decide) (by omega) (by omega) (fun h => ?_) (fun h => ?_)
      · omega
      refine j_aload_n3 (n := 54) dX3_sumAt_53 rfl ?_
      refine j_iload5 (n := 56) dX3_sumAt_54 rfl ?_
      refine j_lald_n (n := 57) dX3_sumAt_56 rfl hka ha (by decide) (by omega) ?_
      rw [hb.1]
      refine j_iload_n1 (n := 58) dX3_sumAt_57 rfl ?_
      refine j_fnS2 (n := 61) (con_X5_isOne (by omega) (by omega)) dX3_sumAt_58 rfl cal_X5_isOne ml_X3_68 (Nat.le_of_ble_eq_true rfl) (Nat.le_of_ble_eq_true rfl) ?_
      refine j_bif_eq (n := 64) 83 dX3_sumAt_61 rfl (by decide) (fun e => ?_) (fun e => ?_)
      · rw [e] at hs
        rw [hs] at ih
        simp at ih
        refine j_inc5 (n := 86) dX3_sumAt_83 rfl (Nat.le_of_ble_eq_true rfl) rfl ?_
        refine j_goto 47 dX3_sumAt_86 (by decide) ?_
        exact ih
      · refine j_iload4 (n := 66) dX3_sumAt_64 rfl ?_
        refine j_aload_n0 (n := 67) dX3_sumAt_66 rfl ?_
        refine j_get (n := 70) (k := 4) dX3_sumAt_67 rfl jcl3 (Nat.le_of_ble_eq_true rfl) fl_X3_25 (Nat.le_of_ble_eq_true rfl) (by first | assumption | rfl) (by rfl) ?_
        refine j_iload_n2 (n := 71) dX3_sumAt_70 rfl ?_
        refine j_aald_n (n := 72) dX3_sumAt_71 rfl (by first | decide | omega) (by first | assumption | rfl) (by decide) (by first | assumption | omega) (by first | rfl | exact if_pos (by omega)) ?_
        refine j_aload_n0 (n := 73) dX3_sumAt_72 rfl ?_
        refine j_get (n := 76) (k := 0) dX3_sumAt_73 rfl jcl3 (Nat.le_of_ble_eq_true rfl) fl_X3_9 (Nat.le_of_ble_eq_true rfl) (by first | assumption | rfl) (by rfl) ?_
        refine j_iload5 (n := 78) dX3_sumAt_76 rfl ?_
        refine j_iadd (n := 79) dX3_sumAt_78 rfl ?_
        refine j_topi (nI (ni + i)) (nI_add ni i) ?_
        refine j_iald_n (n := 80) dX3_sumAt_79 rfl (by first | decide | omega) (by first | assumption | rfl) (by decide) (by first | assumption | omega) ?_
        rw [hwr (ni + i) (by omega)]
        refine j_iadd (n := 81) dX3_sumAt_80 rfl ?_
        refine j_topi (iI (nSum ni w T r (ni + (i + 1)))) (by rw [iI_add, hs, e]; rfl) ?_
        refine j_istore4 (n := 83) dX3_sumAt_81 rfl (Nat.le_of_ble_eq_true rfl) rfl ?_
        refine j_inc5 (n := 86) dX3_sumAt_83 rfl (Nat.le_of_ble_eq_true rfl) rfl ?_
        refine j_goto 47 dX3_sumAt_86 (by decide) ?_
        exact ih
  have first : ∀ i, i ≤ ni → J g jX3_sumAt 1 (fun v M2 => v = some (.int (iI (nSum ni w T r (ni + o)))) ∧ M2 = M) 6 [some (.ref (jA g 19)), some (.int (nI r)), some (.int (nI o)), some (.ref (jA g ka)), some (.int (iI (nSum ni w T r i))), some (.int (nI i))] [] M := by
    refine j_for ?_ ?_
    · refine j_iload5 (n := 8) dX3_sumAt_6 rfl ?_
      refine j_aload_n0 (n := 9) dX3_sumAt_8 rfl ?_
      refine j_get (n := 12) (k := 0) dX3_sumAt_9 rfl jcl3 (Nat.le_of_ble_eq_true rfl) fl_X3_9 (Nat.le_of_ble_eq_true rfl) (by first | assumption | rfl) (by rfl) ?_
      refine j_nicmp_ge (n := 15) 44 dX3_sumAt_12 rfl (by decide) (by omega) (by omega) (fun h => ?_) (fun h => ?_)
      · refine j_iconst (n := 45) (nI 0) dX3_sumAt_44 rfl (by decide) ?_
        refine j_istore5 (n := 47) dX3_sumAt_45 rfl (Nat.le_of_ble_eq_true rfl) rfl ?_
        exact second 0 (Nat.zero_le _)
      · omega
    · intro i hi ih
      have hs : nSum ni w T r (i + 1) = nSum ni w T r i + (if r.testBit i then w i else 0) := by simp [nSum, hi]
      refine j_iload5 (n := 8) dX3_sumAt_6 rfl ?_
      refine j_aload_n0 (n := 9) dX3_sumAt_8 rfl ?_
      refine j_get (n := 12) (k := 0) dX3_sumAt_9 rfl jcl3 (Nat.le_of_ble_eq_true rfl) fl_X3_9 (Nat.le_of_ble_eq_true rfl) (by first | assumption | rfl) (by rfl) ?_
      refine j_nicmp_ge (n := 15) 44 dX3_sumAt_12 rfl (by decide) (by omega) (by omega) (fun h => ?_) (fun h => ?_)
      · omega
      refine j_iload_n1 (n := 16) dX3_sumAt_15 rfl ?_
      refine j_iload5 (n := 18) dX3_sumAt_16 rfl ?_
      refine j_fnS2 (n := 21) (con_X5_hasInput (by omega) (by omega)) dX3_sumAt_18 rfl cal_X5_hasInput ml_X3_64 (Nat.le_of_ble_eq_true rfl) (Nat.le_of_ble_eq_true rfl) ?_
      refine j_bif_eq (n := 24) 38 dX3_sumAt_21 rfl (by decide) (fun e => ?_) (fun e => ?_)
      · rw [e] at hs
        rw [hs] at ih
        simp at ih
        refine j_inc5 (n := 41) dX3_sumAt_38 rfl (Nat.le_of_ble_eq_true rfl) rfl ?_
        refine j_goto 6 dX3_sumAt_41 (by decide) ?_
        exact ih
      · refine j_iload4 (n := 26) dX3_sumAt_24 rfl ?_
        refine j_aload_n0 (n := 27) dX3_sumAt_26 rfl ?_
        refine j_get (n := 30) (k := 4) dX3_sumAt_27 rfl jcl3 (Nat.le_of_ble_eq_true rfl) fl_X3_25 (Nat.le_of_ble_eq_true rfl) (by first | assumption | rfl) (by rfl) ?_
        refine j_iload_n2 (n := 31) dX3_sumAt_30 rfl ?_
        refine j_aald_n (n := 32) dX3_sumAt_31 rfl (by first | decide | omega) (by first | assumption | rfl) (by decide) (by first | assumption | omega) (by first | rfl | exact if_pos (by omega)) ?_
        refine j_iload5 (n := 34) dX3_sumAt_32 rfl ?_
        refine j_iald_n (n := 35) dX3_sumAt_34 rfl (by first | decide | omega) (by first | assumption | rfl) (by decide) (by first | assumption | omega) ?_
        rw [hwr i (by omega)]
        refine j_iadd (n := 36) dX3_sumAt_35 rfl ?_
        refine j_topi (iI (nSum ni w T r (i + 1))) (by rw [iI_add, hs, e]; rfl) ?_
        refine j_istore4 (n := 38) dX3_sumAt_36 rfl (Nat.le_of_ble_eq_true rfl) rfl ?_
        refine j_inc5 (n := 41) dX3_sumAt_38 rfl (Nat.le_of_ble_eq_true rfl) rfl ?_
        refine j_goto 6 dX3_sumAt_41 (by decide) ?_
        exact ih
  exact first 0 (Nat.zero_le _)
set_option maxRecDepth 100000 in
theorem con_X3_toldBy {g : jG} {M : jMem} {ni ng o ka : Nat} {wr bd : Nat → Int32} {al : Nat → Int64} {w : Nat → Int} {T : Nat → Nat} {b : Int} (h19 : M 19 = .inr (3, oNet g (nI ni) (nI ng))) (h22 : M 22 = wO g) (hw : M (23 + o) = iA g 12 wr) (hwr : ∀ k, k < ni + o → wr k = iI (w k) ∧ -9 ≤ w k ∧ w k ≤ 9) (h32 : M 32 = iA g 8 bd) (hbd : bd o = iI b ∧ -99 ≤ b ∧ b ≤ 99) (ho : o < 8) (hni : ni ≤ 4) (hka : ka < 52) (ha : M ka = lA g 8 al) (hal : ∀ j, j < o → al j = lN (T j) ∧ T j < 2 ^ 16) : Fn g jX3_toldBy 2 [.ref (jA g 19), .int (nI o), .ref (jA g ka)] M (.long (lN (mkT (2 ^ ni) (fun r => decide (b ≤ nSum ni w T r (ni + o)))))) := by
  have h16 : 2 ^ ni ≤ 2 ^ 4 := Nat.pow_le_pow_right (by omega) hni
  refine con_of (l := [some (.ref (jA g 19)), some (.int (nI o)), some (.ref (jA g ka)), none, none, none]) (by decide) (Nat.le_of_ble_eq_true rfl) rfl ?_
  refine j_lconst (n := 1) (lN 0) dX3_toldBy_0 rfl rfl ?_
  refine j_lstore_n3 (n := 2) dX3_toldBy_1 rfl (Nat.le_of_ble_eq_true rfl) rfl ?_
  refine j_iconst (n := 3) (nI 0) dX3_toldBy_2 rfl (by decide) ?_
  refine j_istore5 (n := 5) dX3_toldBy_3 rfl (Nat.le_of_ble_eq_true rfl) rfl ?_
  have key : ∀ r, r ≤ 2 ^ ni → J g jX3_toldBy 2 (fun v M2 => v = some (.long (lN (mkT (2 ^ ni) (fun r => decide (b ≤ nSum ni w T r (ni + o)))))) ∧ M2 = M) 5 [some (.ref (jA g 19)), some (.int (nI o)), some (.ref (jA g ka)), some (.long (lN (mkT r (fun r => decide (b ≤ nSum ni w T r (ni + o)))))), none, some (.int (nI r))] [] M := by
    refine j_for ?_ ?_
    · refine j_iload5 (n := 7) dX3_toldBy_5 rfl ?_
      refine j_aload_n0 (n := 8) dX3_toldBy_7 rfl ?_
      refine j_get (n := 11) (k := 0) dX3_toldBy_8 rfl jcl3 (Nat.le_of_ble_eq_true rfl) fl_X3_9 (Nat.le_of_ble_eq_true rfl) (by first | assumption | rfl) (by rfl) ?_
      refine j_fnS1 (n := 14) (con_X5_number (by omega)) dX3_toldBy_11 rfl cal_X5_number ml_X3_57 (Nat.le_of_ble_eq_true rfl) (Nat.le_of_ble_eq_true rfl) ?_
      refine j_nicmp_ge (n := 17) 47 dX3_toldBy_14 rfl (by decide) (by omega) (by omega) (fun h => ?_) (fun h => ?_)
      · refine j_lload_n3 (n := 48) dX3_toldBy_47 rfl ?_
        refine j_lret dX3_toldBy_48 rfl ?_
        exact ⟨rfl, rfl⟩
      · omega
    · intro r hr ih
      have hb := nSum_bd (ni := ni) (T := T) (r := r) (ni + o) (fun j hj => (hwr j hj).2)
      refine j_iload5 (n := 7) dX3_toldBy_5 rfl ?_
      refine j_aload_n0 (n := 8) dX3_toldBy_7 rfl ?_
      refine j_get (n := 11) (k := 0) dX3_toldBy_8 rfl jcl3 (Nat.le_of_ble_eq_true rfl) fl_X3_9 (Nat.le_of_ble_eq_true rfl) (by first | assumption | rfl) (by rfl) ?_
      refine j_fnS1 (n := 14) (con_X5_number (by omega)) dX3_toldBy_11 rfl cal_X5_number ml_X3_57 (Nat.le_of_ble_eq_true rfl) (Nat.le_of_ble_eq_true rfl) ?_
      refine j_nicmp_ge (n := 17) 47 dX3_toldBy_14 rfl (by decide) (by omega) (by omega) (fun h => ?_) (fun h => ?_)
      · omega
      refine j_aload_n0 (n := 18) dX3_toldBy_17 rfl ?_
      refine j_iload5 (n := 20) dX3_toldBy_18 rfl ?_
      refine j_iload_n1 (n := 21) dX3_toldBy_20 rfl ?_
      refine j_aload_n2 (n := 22) dX3_toldBy_21 rfl ?_
      refine j_fnV3 (n := 25) (con_X3_sumAt h19 h22 hw (fun k hk => (hwr k hk).1) ho hni hka ha hal (by omega)) dX3_toldBy_22 rfl cal_X3_sumAt ml_X3_60 (Nat.le_of_ble_eq_true rfl) (by first | decide | omega) rfl rfl (Nat.le_of_ble_eq_true rfl) (by first | assumption | rfl) ?_
      refine j_aload_n0 (n := 26) dX3_toldBy_25 rfl ?_
      refine j_get (n := 29) (k := 5) dX3_toldBy_26 rfl jcl3 (Nat.le_of_ble_eq_true rfl) fl_X3_28 (Nat.le_of_ble_eq_true rfl) (by first | assumption | rfl) (by rfl) ?_
      refine j_iload_n1 (n := 30) dX3_toldBy_29 rfl ?_
      refine j_iald_n (n := 31) dX3_toldBy_30 rfl (by first | decide | omega) (by first | assumption | rfl) (by decide) (by first | assumption | omega) ?_
      rw [hbd.1]
      refine j_zicmp_lt (n := 34) 41 dX3_toldBy_31 rfl (by decide) (by omega) (by omega) (fun e => ?_) (fun e => ?_)
      · have e2 : mkT (r + 1) (fun r => decide (b ≤ nSum ni w T r (ni + o))) = mkT r (fun r => decide (b ≤ nSum ni w T r (ni + o))) := by simp [mkT, Int.not_le.mpr e]
        rw [e2] at ih
        refine j_inc5 (n := 44) dX3_toldBy_41 rfl (Nat.le_of_ble_eq_true rfl) rfl ?_
        refine j_goto 5 dX3_toldBy_44 (by decide) ?_
        exact ih
      · refine j_lload_n3 (n := 35) dX3_toldBy_34 rfl ?_
        refine j_lconst (n := 36) (lN 1) dX3_toldBy_35 rfl rfl ?_
        refine j_iload5 (n := 38) dX3_toldBy_36 rfl ?_
        refine j_lshl (n := 39) dX3_toldBy_38 rfl ?_
        refine j_topl (lN (2 ^ r)) (al_shl1 (by omega)) ?_
        refine j_lor (n := 40) dX3_toldBy_39 rfl ?_
        refine j_topl (lN (mkT (r + 1) (fun r => decide (b ≤ nSum ni w T r (ni + o))))) (by rw [fb_orL]; simp [mkT, e]) ?_
        refine j_lstore_n3 (n := 41) dX3_toldBy_40 rfl (Nat.le_of_ble_eq_true rfl) rfl ?_
        refine j_inc5 (n := 44) dX3_toldBy_41 rfl (Nat.le_of_ble_eq_true rfl) rfl ?_
        refine j_goto 5 dX3_toldBy_44 (by decide) ?_
        exact ih
  exact key 0 (Nat.zero_le _)
set_option maxRecDepth 100000 in
theorem con_X3_depthOf {g : jG} {M : jMem} {ni ng o : Nat} {wr dp : Nat → Int32} {w : Nat → Int} {D : Nat → Nat} (h19 : M 19 = .inr (3, oNet g (nI ni) (nI ng))) (h22 : M 22 = wO g) (hw : M (23 + o) = iA g 12 wr) (hwr : ∀ k, k < ni + o → wr k = iI (w k) ∧ -9 ≤ w k ∧ w k ≤ 9) (h21 : M 21 = iA g 8 dp) (hdp : ∀ j, j < o → dp j = nI (D j) ∧ D j ≤ 8) (ho : o < 8) (hni : ni ≤ 4) : Fn g jX3_depthOf 1 [.ref (jA g 19), .int (nI o)] M (.int (nI (nMost ni w D o + 1))) := by
  have h22 : M 22 = .inl (jc g 3, 9, .inr (.inr (.inr (.inr (fun i => if i < 9 then some (jA g (23 + i)) else none))))) := h22
  refine con_of (l := [some (.ref (jA g 19)), some (.int (nI o)), none, none]) (by decide) (Nat.le_of_ble_eq_true rfl) rfl ?_
  refine j_iconst (n := 1) (nI 0) dX3_depthOf_0 rfl (by decide) ?_
  refine j_istore_n2 (n := 2) dX3_depthOf_1 rfl (Nat.le_of_ble_eq_true rfl) rfl ?_
  refine j_iconst (n := 3) (nI 0) dX3_depthOf_2 rfl (by decide) ?_
  refine j_istore_n3 (n := 4) dX3_depthOf_3 rfl (Nat.le_of_ble_eq_true rfl) rfl ?_
  have key : ∀ i, i ≤ o → J g jX3_depthOf 1 (fun v M2 => v = some (.int (nI (nMost ni w D o + 1))) ∧ M2 = M) 4 [some (.ref (jA g 19)), some (.int (nI o)), some (.int (nI (nMost ni w D i))), some (.int (nI i))] [] M := by
    refine j_for ?_ ?_
    · refine j_iload_n3 (n := 5) dX3_depthOf_4 rfl ?_
      refine j_iload_n1 (n := 6) dX3_depthOf_5 rfl ?_
      refine j_nicmp_ge (n := 9) 42 dX3_depthOf_6 rfl (by decide) (by omega) (by omega) (fun h => ?_) (fun h => ?_)
      · refine j_iload_n2 (n := 43) dX3_depthOf_42 rfl ?_
        refine j_iconst (n := 44) (nI 1) dX3_depthOf_43 rfl (by decide) ?_
        refine j_iadd (n := 45) dX3_depthOf_44 rfl ?_
        refine j_topi _ (nI_add _ 1) ?_
        refine j_iret dX3_depthOf_45 rfl ?_
        exact ⟨rfl, rfl⟩
      · omega
    · intro i hi ih
      have hd := hdp i hi
      have hm := nMost_le (ni := ni) (w := w) (D := D) (m := 8) i (fun j hj => (hdp j (by omega)).2)
      have hww := hwr (ni + i) (by omega)
      refine j_iload_n3 (n := 5) dX3_depthOf_4 rfl ?_
      refine j_iload_n1 (n := 6) dX3_depthOf_5 rfl ?_
      refine j_nicmp_ge (n := 9) 42 dX3_depthOf_6 rfl (by decide) (by omega) (by omega) (fun h => ?_) (fun h => ?_)
      · omega
      refine j_aload_n0 (n := 10) dX3_depthOf_9 rfl ?_
      refine j_get (n := 13) (k := 4) dX3_depthOf_10 rfl jcl3 (Nat.le_of_ble_eq_true rfl) fl_X3_25 (Nat.le_of_ble_eq_true rfl) (by first | assumption | rfl) (by rfl) ?_
      refine j_iload_n1 (n := 14) dX3_depthOf_13 rfl ?_
      refine j_aald_n (n := 15) dX3_depthOf_14 rfl (by first | decide | omega) (by first | assumption | rfl) (by decide) (by first | assumption | omega) (by first | rfl | exact if_pos (by omega)) ?_
      refine j_aload_n0 (n := 16) dX3_depthOf_15 rfl ?_
      refine j_get (n := 19) (k := 0) dX3_depthOf_16 rfl jcl3 (Nat.le_of_ble_eq_true rfl) fl_X3_9 (Nat.le_of_ble_eq_true rfl) (by first | assumption | rfl) (by rfl) ?_
      refine j_iload_n3 (n := 20) dX3_depthOf_19 rfl ?_
      refine j_iadd (n := 21) dX3_depthOf_20 rfl ?_
      refine j_topi (nI (ni + i)) (nI_add ni i) ?_
      refine j_iald_n (n := 22) dX3_depthOf_21 rfl (by first | decide | omega) (by first | assumption | rfl) (by decide) (by first | assumption | omega) ?_
      rw [hww.1]
      refine j_if_eq (n := 25) 36 dX3_depthOf_22 rfl (by decide) (fun e => ?_) (fun e => ?_)
      · have e2 : w (ni + i) = 0 := (iI_eq (by omega) (by omega)).mp e
        have e3 : nMost ni w D (i + 1) = nMost ni w D i := by simp [nMost, e2]
        rw [e3] at ih
        refine j_inc3 (n := 39) dX3_depthOf_36 rfl (Nat.le_of_ble_eq_true rfl) rfl ?_
        refine j_goto 4 dX3_depthOf_39 (by decide) ?_
        exact ih
      have e2 : ¬ w (ni + i) = 0 := fun z => e (by rw [z]; rfl)
      refine j_iload_n2 (n := 26) dX3_depthOf_25 rfl ?_
      refine j_aload_n0 (n := 27) dX3_depthOf_26 rfl ?_
      refine j_get (n := 30) (k := 3) dX3_depthOf_27 rfl jcl3 (Nat.le_of_ble_eq_true rfl) fl_X3_19 (Nat.le_of_ble_eq_true rfl) (by first | assumption | rfl) (by rfl) ?_
      refine j_iload_n3 (n := 31) dX3_depthOf_30 rfl ?_
      refine j_iald_n (n := 32) dX3_depthOf_31 rfl (by first | decide | omega) (by first | assumption | rfl) (by decide) (by first | assumption | omega) ?_
      rw [hd.1]
      refine j_mmax (n := 35) dX3_depthOf_32 rfl ml_X3_72 mw_max (Nat.le_of_ble_eq_true rfl) (Nat.le_of_ble_eq_true rfl) ?_
      refine j_topi (nI (nMost ni w D (i + 1))) ?_ ?_
      · by_cases e3 : nMost ni w D i < D i
        · rw [if_pos ((nI_ltI (by omega) (by omega)).mpr e3)]
          simp [nMost, e2, e3]
        · rw [if_neg (fun z => e3 ((nI_ltI (by omega) (by omega)).mp z))]
          simp [nMost, e3]
      refine j_istore_n2 (n := 36) dX3_depthOf_35 rfl (Nat.le_of_ble_eq_true rfl) rfl ?_
      refine j_inc3 (n := 39) dX3_depthOf_36 rfl (Nat.le_of_ble_eq_true rfl) rfl ?_
      refine j_goto 4 dX3_depthOf_39 (by decide) ?_
      exact ih
  exact key 0 (Nat.zero_le _)
