set_option maxRecDepth 100000 in
theorem con_X8_asThree {g : jG} {M : jMem} {n t : Nat} (hn : n ≤ 3) : Con g jX8_asThree 0 [.long (lN t), .int (nI n)] M (fun v M2 => ∃ x, v = some (.int x) ∧ M2 = M ∧ (n = 3 → x = nI t)) := by
  refine con_of (l := [some (.long (lN t)), none, some (.int (nI n)), none, none, none]) (by decide) (Nat.le_of_ble_eq_true rfl) rfl ?_
  refine j_lload_n0 (n := 1) dX8_asThree_0 rfl ?_
  refine j_lstore_n3 (n := 2) dX8_asThree_1 rfl (Nat.le_of_ble_eq_true rfl) rfl ?_
  refine j_iload_n2 (n := 3) dX8_asThree_2 rfl ?_
  refine j_istore5 (n := 5) dX8_asThree_3 rfl (Nat.le_of_ble_eq_true rfl) rfl ?_
  have key : ∀ k, k ≤ 3 → ∀ y : Int64, (n = 3 → y = lN t) → n ≤ k → J g jX8_asThree 0 (fun v M2 => ∃ x, v = some (.int x) ∧ M2 = M ∧ (n = 3 → x = nI t)) 5 [some (.long (lN t)), none, some (.int (nI n)), some (.long y), none, some (.int (nI k))] [] M := by
    refine j_for ?_ ?_
    · intro y hy _
      refine j_iload5 (n := 7) dX8_asThree_5 rfl ?_
      refine j_iconst (n := 8) (nI 3) dX8_asThree_7 rfl (by decide) ?_
      refine j_nicmp_ge (n := 11) 26 dX8_asThree_8 rfl (by decide) (by omega) (by omega) (fun h => ?_) (fun h => ?_)
      rotate_left
      · omega
      refine j_lload_n3 (n := 27) dX8_asThree_26 rfl ?_
      refine j_l2i (n := 28) dX8_asThree_27 rfl ?_
      refine j_iret dX8_asThree_28 rfl ?_
      refine ⟨_, rfl, rfl, fun z => ?_⟩
      rw [hy z]
      exact lN_i t
    · intro k hk ih y hy hnk
      refine j_iload5 (n := 7) dX8_asThree_5 rfl ?_
      refine j_iconst (n := 8) (nI 3) dX8_asThree_7 rfl (by decide) ?_
      refine j_nicmp_ge (n := 11) 26 dX8_asThree_8 rfl (by decide) (by omega) (by omega) (fun h => ?_) (fun h => ?_)
      · omega
      refine j_lload_n3 (n := 12) dX8_asThree_11 rfl ?_
      refine j_lload_n3 (n := 13) dX8_asThree_12 rfl ?_
      refine j_iconst (n := 14) (nI 1) dX8_asThree_13 rfl (by decide) ?_
      refine j_iload5 (n := 16) dX8_asThree_14 rfl ?_
      refine j_ishl (n := 17) dX8_asThree_16 rfl ?_
      refine j_lshl (n := 18) dX8_asThree_17 rfl ?_
      refine j_lor (n := 19) dX8_asThree_18 rfl ?_
      refine j_lstore_n3 (n := 20) dX8_asThree_19 rfl (Nat.le_of_ble_eq_true rfl) rfl ?_
      refine j_inc5 (n := 23) dX8_asThree_20 rfl (Nat.le_of_ble_eq_true rfl) rfl ?_
      refine j_goto 5 dX8_asThree_23 (by decide) ?_
      exact ih _ (fun z => by omega) (by omega)
  exact key n hn (lN t) (fun _ => rfl) (Nat.le_refl _)
/-- while a first gate is sought -/
def fLp (g : jG) (M M2 : jMem) : Prop := (∀ k, k ≠ 37 → k ≠ 38 → k ≠ 39 → k ≠ 46 → M2 k = M k) ∧ (∃ th hf wt, M2 37 = iA g 32 th ∧ M2 38 = zA g 243 hf ∧ M2 39 = iA g 4 wt) ∧ ∃ fs, M2 46 = iA g 256 fs ∧ ∀ k, k < 256 → fs k = -2 ∨ fs k = fstI 3 k
set_option maxRecDepth 100000 in
theorem con_X8_firstOf {g : jG} {M : jMem} {q : jMq} {n t : Nat} (h34 : M 34 = .inr (7, oMod g q)) (hl0 : fLp g M M) (h1 : 1 ≤ n) (hn : n ≤ 3) (ht : t < 2 ^ 2 ^ n) : Con g jX8_firstOf 3 [.ref (jA g 34), .long (lN t), .int (nI n)] M (fun v M2 => v = some (.int (fstI n t)) ∧ fLp g M M2) := by
  have h256 := pw256 hn
  have hpos : 0 < 2 ^ 2 ^ n := Nat.two_pow_pos _
  refine con_of (l := [some (.ref (jA g 34)), some (.long (lN t)), none, some (.int (nI n)), none, none, none]) (by decide) (Nat.le_of_ble_eq_true rfl) rfl ?_
  refine j_lload_n1 (n := 1) dX8_firstOf_0 rfl ?_
  refine j_iload_n3 (n := 2) dX8_firstOf_1 rfl ?_
  refine j_cS2 (n := 5) (con_X8_asThree hn) dX8_firstOf_2 rfl cal_X8_asThree ml_X8_189 (Nat.le_of_ble_eq_true rfl) (Nat.le_of_ble_eq_true rfl) ?_
  rintro _ M2 ⟨ky, rfl, rfl, hky⟩
  refine j_istore4 (n := 7) dX8_firstOf_5 rfl (Nat.le_of_ble_eq_true rfl) rfl ?_
  refine j_iload_n3 (n := 8) dX8_firstOf_7 rfl ?_
  refine j_iconst (n := 9) (nI 3) dX8_firstOf_8 rfl (by decide) ?_
  have h91 : ∀ (M3 : jMem) (x6 : Option Value), fLp g M2 M3 → J g jX8_firstOf 3 (fun v M3 => v = some (.int (fstI n t)) ∧ fLp g M2 M3) 91 [some (.ref (jA g 34)), some (.long (lN t)), none, some (.int (nI n)), some (.int ky), some (.int (fstI n t)), x6] [] M3 := by
    rintro M3 x6 ⟨f1, f2, fs, f3, f4⟩
    have m34 : M3 34 = .inr (7, oMod g q) := (f1 34 (by decide) (by decide) (by decide) (by decide)).trans h34
    refine j_iload_n3 (n := 92) dX8_firstOf_91 rfl ?_
    refine j_iconst (n := 93) (nI 3) dX8_firstOf_92 rfl (by decide) ?_
    refine j_nicmp_ne (n := 96) 105 dX8_firstOf_93 rfl (by decide) (by omega) (by omega) (fun e => ?_) (fun e => ?_)
    · refine j_iload5 (n := 107) dX8_firstOf_105 rfl ?_
      refine j_iret dX8_firstOf_107 rfl ?_
      exact ⟨rfl, f1, f2, fs, f3, f4⟩
    · subst e
      rw [hky rfl]
      have ht2 : t < 256 := ht
      refine j_aload_n0 (n := 97) dX8_firstOf_96 rfl ?_
      refine j_get (n := 100) (k := 18) dX8_firstOf_97 rfl jcl7 (Nat.le_of_ble_eq_true rfl) fl_X8_52 (by first | decide | omega) (by first | assumption | rfl) (by rfl) ?_
      refine j_iload4 (n := 102) dX8_firstOf_100 rfl ?_
      refine j_iload5 (n := 104) dX8_firstOf_102 rfl ?_
      refine j_iast_n (n := 105) dX8_firstOf_104 rfl (by first | decide | omega) (by first | assumption | rfl) (by decide) (by first | assumption | omega) ?_
      refine j_iload5 (n := 107) dX8_firstOf_105 rfl ?_
      refine j_iret dX8_firstOf_107 rfl ?_
      refine ⟨rfl, fun k z1 z2 z3 z4 => (va_at_ne z4).trans (f1 k z1 z2 z3 z4), f2, upd fs t (fstI 3 t), va_at_eq, fun k hk => ?_⟩
      unfold upd
      by_cases z : k = t
      · rw [if_pos z, z]
        exact Or.inr rfl
      · rw [if_neg z]
        exact f4 k hk
  have h32 : J g jX8_firstOf 3 (fun v M3 => v = some (.int (fstI n t)) ∧ fLp g M2 M3) 32 [some (.ref (jA g 34)), some (.long (lN t)), none, some (.int (nI n)), some (.int ky), none, none] [] M2 := by
    refine j_iconst (n := 33) (-1) dX8_firstOf_32 rfl (by decide) ?_
    refine j_istore5 (n := 35) dX8_firstOf_33 rfl (Nat.le_of_ble_eq_true rfl) rfl ?_
    refine j_iconst (n := 36) (nI 0) dX8_firstOf_35 rfl (by decide) ?_
    refine j_istore6 (n := 38) dX8_firstOf_36 rfl (Nat.le_of_ble_eq_true rfl) rfl ?_
    have key : ∀ gt, gt ≤ 2 ^ 2 ^ n → ∀ M3, fLp g M2 M3 → (∀ j, j < gt → fstB n t j = false) → J g jX8_firstOf 3 (fun v M3 => v = some (.int (fstI n t)) ∧ fLp g M2 M3) 38 [some (.ref (jA g 34)), some (.long (lN t)), none, some (.int (nI n)), some (.int ky), some (.int (-1)), some (.int (nI gt))] [] M3 := by
      refine j_for ?_ ?_
      · intro M3 hl hno
        refine j_iload6 (n := 40) dX8_firstOf_38 rfl ?_
        refine j_i2l (n := 41) dX8_firstOf_40 rfl ?_
        refine j_topl (lN (2 ^ 2 ^ n)) (nI_l (by omega)) ?_
        refine j_iload_n3 (n := 42) dX8_firstOf_41 rfl ?_
        refine j_fnS1 (n := 45) (con_X8_whole (by omega)) dX8_firstOf_42 rfl cal_X8_whole ml_X8_94 (Nat.le_of_ble_eq_true rfl) (Nat.le_of_ble_eq_true rfl) ?_
        refine j_lcmp (n := 46) dX8_firstOf_45 rfl ?_
        refine j_lif_gt (n := 49) 91 dX8_firstOf_46 rfl (by decide) (fun e2 => ?_) (fun e2 => ?_)
        rotate_left
        · exact (e2 ((pk_lLT (by omega) (by omega)).mpr (by omega))).elim
        have e3 : fstI n t = -1 := by
          unfold fstI
          rw [if_neg (of_decide_eq_false (ff_no hno))]
        have h := h91 M3 (some (.int (nI (2 ^ 2 ^ n)))) hl
        rw [e3] at h ⊢
        exact h
      · intro gt hgt ih M3 hl hno
        obtain ⟨f1, ⟨th, hf, wt, f2a, f2b, f2c⟩, fs, f3, f4⟩ := id hl
        have m34 : M3 34 = .inr (7, oMod g q) := (f1 34 (by decide) (by decide) (by decide) (by decide)).trans h34
        refine j_iload6 (n := 40) dX8_firstOf_38 rfl ?_
        refine j_i2l (n := 41) dX8_firstOf_40 rfl ?_
        refine j_topl (lN gt) (nI_l (by omega)) ?_
        refine j_iload_n3 (n := 42) dX8_firstOf_41 rfl ?_
        refine j_fnS1 (n := 45) (con_X8_whole (by omega)) dX8_firstOf_42 rfl cal_X8_whole ml_X8_94 (Nat.le_of_ble_eq_true rfl) (Nat.le_of_ble_eq_true rfl) ?_
        refine j_lcmp (n := 46) dX8_firstOf_45 rfl ?_
        refine j_lif_gt (n := 49) 91 dX8_firstOf_46 rfl (by decide) (fun e2 => ?_) (fun e2 => ?_)
        · have := (pk_lLT (by omega) (by omega)).mp e2
          omega
        refine j_iload5 (n := 51) dX8_firstOf_49 rfl ?_
        refine j_if_ge (n := 54) 91 dX8_firstOf_51 rfl (by decide) (fun e => absurd e (by decide)) (fun _ => ?_)
        refine j_aload_n0 (n := 55) dX8_firstOf_54 rfl ?_
        refine j_iload6 (n := 57) dX8_firstOf_55 rfl ?_
        refine j_i2l (n := 58) dX8_firstOf_57 rfl ?_
        refine j_topl (lN gt) (nI_l (by omega)) ?_
        refine j_iload_n3 (n := 59) dX8_firstOf_58 rfl ?_
        refine j_cV2 (n := 62) (con_X8_isGate m34 f2a f2b f2c (by omega) h1 (by omega)) dX8_firstOf_59 rfl cal_X8_isGate ml_X8_139 (Nat.le_of_ble_eq_true rfl) (by first | decide | omega) rfl rfl (Nat.le_of_ble_eq_true rfl) (by first | assumption | rfl) ?_
        rintro _ M4 ⟨rfl, th2, hf2, wt2, rfl, _, _⟩
        have hl4 : fLp g M2 (va_up (va_up (va_up M3 37 (iA g 32 th2)) 38 (zA g 243 hf2)) 39 (iA g 4 wt2)) := by
          refine ⟨fun k z1 z2 z3 z4 => ?_, ⟨th2, hf2, wt2, rfl, rfl, rfl⟩, fs, f3, f4⟩
          rw [va_at_ne z3, va_at_ne z2, va_at_ne z1]
          exact f1 k z1 z2 z3 z4
        have m34b : va_up (va_up (va_up M3 37 (iA g 32 th2)) 38 (zA g 243 hf2)) 39 (iA g 4 wt2) 34 = .inr (7, oMod g q) := m34
        have h82 : fstB n t gt = false → J g jX8_firstOf 3 (fun v M3 => v = some (.int (fstI n t)) ∧ fLp g M2 M3) 82 [some (.ref (jA g 34)), some (.long (lN t)), none, some (.int (nI n)), some (.int ky), some (.int (-1)), some (.int (nI gt))] [] (va_up (va_up (va_up M3 37 (iA g 32 th2)) 38 (zA g 243 hf2)) 39 (iA g 4 wt2)) := by
          intro hz
          refine j_iconst (n := 83) (-1) dX8_firstOf_82 rfl (by decide) ?_
          refine j_istore5 (n := 85) dX8_firstOf_83 rfl (Nat.le_of_ble_eq_true rfl) rfl ?_
          refine j_inc6 (n := 88) dX8_firstOf_85 rfl (Nat.le_of_ble_eq_true rfl) rfl ?_
          refine j_goto 38 dX8_firstOf_88 (by decide) ?_
          refine ih _ hl4 (fun j hj => ?_)
          rcases Nat.eq_or_lt_of_le (show j ≤ gt by omega) with z | z
          · rw [z]; exact hz
          · exact hno j z
        refine j_bif_eq (n := 65) 82 dX8_firstOf_62 rfl (by decide) (fun e3 => ?_) (fun e3 => ?_)
        · exact h82 (by unfold fstB; rw [e3]; rfl)
        refine j_aload_n0 (n := 66) dX8_firstOf_65 rfl ?_
        refine j_lload_n1 (n := 67) dX8_firstOf_66 rfl ?_
        refine j_l2i (n := 68) dX8_firstOf_67 rfl ?_
        refine j_topi (nI t) (lN_i t) ?_
        refine j_iload_n3 (n := 69) dX8_firstOf_68 rfl ?_
        refine j_iload6 (n := 71) dX8_firstOf_69 rfl ?_
        refine j_fnV3 (n := 74) (con_X8_isSecond hn (by omega) (by omega)) dX8_firstOf_71 rfl cal_X8_isSecond ml_X8_192 (Nat.le_of_ble_eq_true rfl) (by first | decide | omega) rfl rfl (Nat.le_of_ble_eq_true rfl) (by first | assumption | rfl) ?_
        refine j_bif_eq (n := 77) 82 dX8_firstOf_74 rfl (by decide) (fun e4 => ?_) (fun e4 => ?_)
        · exact h82 (by unfold fstB; rw [e3, e4]; rfl)
        have hz : fstB n t gt = true := by unfold fstB; rw [e3, e4]; rfl
        have e5 : fstI n t = nI gt := by
          unfold fstI
          rw [if_pos (ff_yes hgt hz), ff_at hgt hz hno]
        have hx := h91 _ (some (.int (nI (gt + 1)))) hl4
        rw [e5] at hx ⊢
        refine j_iload6 (n := 79) dX8_firstOf_77 rfl ?_
        refine j_goto 83 dX8_firstOf_79 (by decide) ?_
        refine j_istore5 (n := 85) dX8_firstOf_83 rfl (Nat.le_of_ble_eq_true rfl) rfl ?_
        refine j_inc6 (n := 88) dX8_firstOf_85 rfl (Nat.le_of_ble_eq_true rfl) rfl ?_
        refine j_goto 38 dX8_firstOf_88 (by decide) ?_
        refine j_iload6 (n := 40) dX8_firstOf_38 rfl ?_
        refine j_i2l (n := 41) dX8_firstOf_40 rfl ?_
        refine j_topl (lN (gt + 1)) (nI_l (by omega)) ?_
        refine j_iload_n3 (n := 42) dX8_firstOf_41 rfl ?_
        refine j_fnS1 (n := 45) (con_X8_whole (by omega)) dX8_firstOf_42 rfl cal_X8_whole ml_X8_94 (Nat.le_of_ble_eq_true rfl) (Nat.le_of_ble_eq_true rfl) ?_
        refine j_lcmp (n := 46) dX8_firstOf_45 rfl ?_
        refine j_lif_gt (n := 49) 91 dX8_firstOf_46 rfl (by decide) (fun e6 => ?_) (fun e6 => ?_)
        · exact hx
        refine j_iload5 (n := 51) dX8_firstOf_49 rfl ?_
        refine j_if_ge (n := 54) 91 dX8_firstOf_51 rfl (by decide) (fun e => hx) (fun e => ?_)
        exact (e ((nI_leI (a := 0) (by omega) (by omega)).mpr (Nat.zero_le _))).elim
    exact key 0 (Nat.zero_le _) M2 hl0 (fun j hj => absurd hj (Nat.not_lt_zero j))
  refine j_nicmp_ne (n := 12) 32 dX8_firstOf_9 rfl (by decide) (by omega) (by omega) (fun e => ?_) (fun e => ?_)
  · exact h32
  · subst e
    obtain ⟨f1, f2, fs, f3, f4⟩ := id hl0
    have ht2 : t < 256 := ht
    have ek := hky rfl
    subst ek
    refine j_aload_n0 (n := 13) dX8_firstOf_12 rfl ?_
    refine j_get (n := 16) (k := 18) dX8_firstOf_13 rfl jcl7 (Nat.le_of_ble_eq_true rfl) fl_X8_52 (by first | decide | omega) (by first | assumption | rfl) (by rfl) ?_
    refine j_iload4 (n := 18) dX8_firstOf_16 rfl ?_
    refine j_iald_n (n := 19) dX8_firstOf_18 rfl (by first | decide | omega) (by first | assumption | rfl) (by decide) (by first | assumption | omega) ?_
    refine j_bipush (n := 21) (-2) dX8_firstOf_19 rfl (by decide) ?_
    refine j_icmp_eq (n := 24) 32 dX8_firstOf_21 rfl (by decide) (fun _ => h32) (fun e2 => ?_)
    refine j_aload_n0 (n := 25) dX8_firstOf_24 rfl ?_
    refine j_get (n := 28) (k := 18) dX8_firstOf_25 rfl jcl7 (Nat.le_of_ble_eq_true rfl) fl_X8_52 (by first | decide | omega) (by first | assumption | rfl) (by rfl) ?_
    refine j_iload4 (n := 30) dX8_firstOf_28 rfl ?_
    refine j_iald_n (n := 31) dX8_firstOf_30 rfl (by first | decide | omega) (by first | assumption | rfl) (by decide) (by first | assumption | omega) ?_
    have e3 : fs t = fstI 3 t := by
      rcases f4 t ht2 with z | z
      · exact (e2 z).elim
      · exact z
    rw [e3]
    refine j_iret dX8_firstOf_31 rfl ?_
    exact ⟨rfl, hl0⟩
set_option maxRecDepth 100000 in
theorem con_X8_inputsGate {g : jG} {M : jMem} {q : jMq} {sn sT : Nat → Nat} (h34 : M 34 = .inr (7, oMod g q)) (hm : mS g M) (hc : cInv g M q) (h35 : M 35 = iA g 8 fun j => nI (sn j)) (h36 : M 36 = lA g 8 fun j => lN (sT j)) (ok : slOK sn sT) {j : Nat} (hj : j < 8) : Con g jX8_inputsGate 5 [.ref (jA g 34), .int (nI j)] M (fun v M2 => v = some (.int (jB (isG (sn j) (sT j)))) ∧ solvedI g M M2 q) := by
  have b2 := ok j hj
  refine con_of (l := [some (.ref (jA g 34)), some (.int (nI j))]) (by decide) (Nat.le_of_ble_eq_true rfl) rfl ?_
  refine j_aload_n0 (n := 1) dX8_inputsGate_0 rfl ?_
  refine j_aload_n0 (n := 2) dX8_inputsGate_1 rfl ?_
  refine j_get (n := 5) (k := 1) dX8_inputsGate_2 rfl jcl7 (Nat.le_of_ble_eq_true rfl) fl_X8_13 (by first | decide | omega) (by first | assumption | rfl) (by rfl) ?_
  refine j_iload_n1 (n := 6) dX8_inputsGate_5 rfl ?_
  refine j_lald_n (n := 7) dX8_inputsGate_6 rfl (by first | decide | omega) (by first | assumption | rfl) (by decide) (by first | assumption | omega) ?_
  refine j_aload_n0 (n := 8) dX8_inputsGate_7 rfl ?_
  refine j_get (n := 11) (k := 0) dX8_inputsGate_8 rfl jcl7 (Nat.le_of_ble_eq_true rfl) fl_X8_7 (by first | decide | omega) (by first | assumption | rfl) (by rfl) ?_
  refine j_iload_n1 (n := 12) dX8_inputsGate_11 rfl ?_
  refine j_iald_n (n := 13) dX8_inputsGate_12 rfl (by first | decide | omega) (by first | assumption | rfl) (by decide) (by first | assumption | omega) ?_
  refine j_cV2 (n := 16) (con_X8_solve h34 hm hc b2.1 b2.2.1 (ok.b hj) (EX_all _ _ b2.1 b2.2.1 b2.2.2)) dX8_inputsGate_13 rfl cal_X8_solve ml_X8_160 (Nat.le_of_ble_eq_true rfl) (by first | decide | omega) rfl rfl (Nat.le_of_ble_eq_true rfl) (by first | assumption | rfl) ?_
  rintro _ M2 ⟨rfl, hsol⟩
  have hI := hsol.I
  obtain ⟨q2, a1, a2, a3, a4, a5, a6, a7, a8⟩ := hsol
  refine j_aload_n0 (n := 17) dX8_inputsGate_16 rfl ?_
  refine j_get (n := 20) (k := 7) dX8_inputsGate_17 rfl jcl7 (Nat.le_of_ble_eq_true rfl) fl_X8_142 (by first | decide | omega) (by first | assumption | rfl) (by rfl) ?_
  rw [a5.1]
  refine j_zret dX8_inputsGate_20 rfl (jB_nar _) ?_
  exact ⟨rfl, hI⟩
def sp_first (sn sT : Nat → Nat) (s : Int32) : Int32 := if isSl s = false then -1 else if 3 < sn s.toNatClampNeg then -3 else if isG (sn s.toNatClampNeg) (sT s.toNatClampNeg) = true then -1000000 else if fstI (sn s.toNatClampNeg) (sT s.toNatClampNeg) < 0 then -1000000 else fstI (sn s.toNatClampNeg) (sT s.toNatClampNeg)
def sp_fewest (sn sT : Nat → Nat) (s : Int32) : Int32 := if isSl s = false then -1 else if 3 < sn s.toNatClampNeg then -3 else if isG (sn s.toNatClampNeg) (sT s.toNatClampNeg) = true then 1 else if fstI (sn s.toNatClampNeg) (sT s.toNatClampNeg) < 0 then 3 else 2
theorem RI_f {g : jG} {M M2 : jMem} {q : jMq} {m : Nat} (ri : RI g M q m) (h : fLp g M M2) : RI g (va_up M2 34 (.inr (7, oMod g (qM1 q)))) (qM1 q) m ∧ rFr M (va_up M2 34 (.inr (7, oMod g (qM1 q)))) := by
  obtain ⟨r1, r2, r3, k1, k2, k3, k4, k5, k6⟩ := ri
  obtain ⟨f1, f2, fs, f3, f4⟩ := h
  refine ⟨⟨va_at_eq, ?_, cInv_m1 rfl, k1, ?_, ?_, ?_, ?_, ⟨fs, f3, f4⟩⟩, rFr.up (fun k hk => f1 k (by omega) (by omega) (by omega) (by omega)) (Or.inl rfl)⟩
  · exact mS_of (M := M) r2 f2 (f1 40 (by decide) (by decide) (by decide) (by decide)) (f1 41 (by decide) (by decide) (by decide) (by decide))
  · rw [show va_up M2 34 (.inr (7, oMod g (qM1 q))) 42 = M 42 from f1 42 (by decide) (by decide) (by decide) (by decide)]
    exact k2
  · rw [show va_up M2 34 (.inr (7, oMod g (qM1 q))) 43 = M 43 from f1 43 (by decide) (by decide) (by decide) (by decide)]
    exact k3
  · rw [show va_up M2 34 (.inr (7, oMod g (qM1 q))) 44 = M 44 from f1 44 (by decide) (by decide) (by decide) (by decide)]
    exact k4
  · rw [show va_up M2 34 (.inr (7, oMod g (qM1 q))) 45 = M 45 from f1 45 (by decide) (by decide) (by decide) (by decide)]
    exact k5
theorem RI.fl {g : jG} {M : jMem} {q : jMq} {m : Nat} (ri : RI g M q m) : fLp g M M := by
  obtain ⟨r1, ⟨th, hf, wt, sz, wv, a1, a2, a3, _, _⟩, r3, k1, k2, k3, k4, k5, k6⟩ := ri
  exact ⟨fun _ _ _ _ _ => rfl, ⟨th, hf, wt, a1, a2, a3⟩, k6⟩
theorem rP.tr {g : jG} {M M2 M3 : jMem} {q q2 : jMq} {m m2 : Nat} (hm : m2 ≤ m) (hq : q2.2.2.2.2.2.2.2 = q.2.2.2.2.2.2.2) (fr : rFr M M2) (h : rP g M2 M3 q2 m2) : rP g M M3 q m := by
  obtain ⟨q3, m3, a1, a2, a3, a4⟩ := h
  exact ⟨q3, m3, by omega, a2, a3.trans hq, fr.tr a4⟩
theorem RI_I2 {g : jG} {M M2 : jMem} {q : jMq} {m : Nat} (ri : RI g M q m) (h : solvedI g M M2 q) : ∃ q2, RI g M2 q2 m ∧ q2.2.2.2.2.2.2.2 = q.2.2.2.2.2.2.2 ∧ rFr M M2 := by
  obtain ⟨r1, r2, r3, k1, k2, k3, k4, k5, k6⟩ := ri
  obtain ⟨q2, a1, a2, a3, a4, a5⟩ := h
  refine ⟨q2, ⟨a1, a3, a5, by rw [a2]; exact k1, ?_, ?_, ?_, ?_, ?_⟩, by rw [a2], fun k hk => a4 k (by omega) (by omega) (by omega) (by omega) (by omega) (by omega)⟩
  all_goals rw [a4 _ (by decide) (by decide) (by decide) (by decide) (by decide) (by decide)]
  · exact k2
  · exact k3
  · exact k4
  · exact k5
  · exact k6
set_option maxRecDepth 100000 in
theorem con_X8_first {g : jG} {M : jMem} {q : jMq} {m : Nat} {sn sT : Nat → Nat} (ri : RI g M q m) (h35 : M 35 = iA g 8 fun j => nI (sn j)) (h36 : M 36 = lA g 8 fun j => lN (sT j)) (ok : slOK sn sT) {s : Int32} : Con g jX8_first 6 [.ref (jA g 34), .int s] M (fun v M2 => v = some (.int (sp_first sn sT s)) ∧ rP g M M2 q m) := by
  obtain ⟨h34, r2, r3, rk⟩ := id ri
  refine con_of (l := [some (.ref (jA g 34)), some (.int s), none]) (by decide) (Nat.le_of_ble_eq_true rfl) rfl ?_
  refine j_iload_n1 (n := 1) dX8_first_0 rfl ?_
  refine j_fnS1 (n := 4) con_X8_isSlot dX8_first_1 rfl cal_X8_isSlot ml_X8_88 (Nat.le_of_ble_eq_true rfl) (Nat.le_of_ble_eq_true rfl) ?_
  refine j_bif_ne (n := 7) 9 dX8_first_4 rfl (by decide) (fun e1 => ?_) (fun e1 => ?_)
  rotate_left
  · refine j_iconst (n := 8) (-1) dX8_first_7 rfl (by decide) ?_
    refine j_iret dX8_first_8 rfl ?_
    exact ⟨by simp [sp_first, e1], rP.rf ri⟩
  obtain ⟨j, hj, rfl⟩ := isSl_of e1
  have c1 := nI_clamp (show j < 2 ^ 31 by omega)
  have b2 := ok j hj
  refine j_aload_n0 (n := 10) dX8_first_9 rfl ?_
  refine j_get (n := 13) (k := 0) dX8_first_10 rfl jcl7 (Nat.le_of_ble_eq_true rfl) fl_X8_7 (by first | decide | omega) (by first | assumption | rfl) (by rfl) ?_
  refine j_iload_n1 (n := 14) dX8_first_13 rfl ?_
  refine j_iald_n (n := 15) dX8_first_14 rfl (by first | decide | omega) (by first | assumption | rfl) (by decide) (by first | assumption | omega) ?_
  refine j_iconst (n := 16) (nI 3) dX8_first_15 rfl (by decide) ?_
  refine j_nicmp_le (n := 19) 22 dX8_first_16 rfl (by decide) (by omega) (by omega) (fun e2 => ?_) (fun e2 => ?_)
  rotate_left
  · refine j_bipush (n := 21) (-3) dX8_first_19 rfl (by decide) ?_
    refine j_iret dX8_first_21 rfl ?_
    exact ⟨by simp [sp_first, e1, c1, show 3 < sn j by omega], rP.rf ri⟩
  refine j_aload_n0 (n := 23) dX8_first_22 rfl ?_
  refine j_iload_n1 (n := 24) dX8_first_23 rfl ?_
  refine j_cV1 (n := 27) (con_X8_inputsGate h34 r2 r3 h35 h36 ok hj) dX8_first_24 rfl cal_X8_inputsGate ml_X8_199 (Nat.le_of_ble_eq_true rfl) (by first | decide | omega) rfl rfl (Nat.le_of_ble_eq_true rfl) (by first | assumption | rfl) ?_
  rintro _ M2 ⟨rfl, hI⟩
  refine j_bif_eq (n := 30) 33 dX8_first_27 rfl (by decide) (fun e3 => ?_) (fun e3 => ?_)
  rotate_left
  · refine j_ldc (n := 32) dX8_first_30 rfl cn_X8_112 ?_
    refine j_iret dX8_first_32 rfl ?_
    exact ⟨by simp [sp_first, e1, c1, e3, show ¬ 3 < sn j by omega], RI_I ri hI⟩
  obtain ⟨q2, ri2, hq2, fr2⟩ := RI_I2 ri hI
  have m34 := ri2.1
  have m35 := (fr2 35 (by decide)).trans h35
  have m36 := (fr2 36 (by decide)).trans h36
  refine j_aload_n0 (n := 34) dX8_first_33 rfl ?_
  refine j_aload_n0 (n := 35) dX8_first_34 rfl ?_
  refine j_get (n := 38) (k := 1) dX8_first_35 rfl jcl7 (Nat.le_of_ble_eq_true rfl) fl_X8_13 (by first | decide | omega) (by first | assumption | rfl) (by rfl) ?_
  refine j_iload_n1 (n := 39) dX8_first_38 rfl ?_
  refine j_lald_n (n := 40) dX8_first_39 rfl (by first | decide | omega) (by first | assumption | rfl) (by decide) (by first | assumption | omega) ?_
  refine j_aload_n0 (n := 41) dX8_first_40 rfl ?_
  refine j_get (n := 44) (k := 0) dX8_first_41 rfl jcl7 (Nat.le_of_ble_eq_true rfl) fl_X8_7 (by first | decide | omega) (by first | assumption | rfl) (by rfl) ?_
  refine j_iload_n1 (n := 45) dX8_first_44 rfl ?_
  refine j_iald_n (n := 46) dX8_first_45 rfl (by first | decide | omega) (by first | assumption | rfl) (by decide) (by first | assumption | omega) ?_
  refine j_cV2 (n := 49) (con_X8_firstOf m34 ri2.fl b2.1 e2 b2.2.2) dX8_first_46 rfl cal_X8_firstOf ml_X8_196 (Nat.le_of_ble_eq_true rfl) (by first | decide | omega) rfl rfl (Nat.le_of_ble_eq_true rfl) (by first | assumption | rfl) ?_
  rintro _ M3 ⟨rfl, hf3⟩
  have m34c : M3 34 = .inr (7, oMod g q2) := (hf3.1 34 (by decide) (by decide) (by decide) (by decide)).trans m34
  obtain ⟨ri4, fr4⟩ := RI_f ri2 hf3
  refine j_istore_n2 (n := 50) dX8_first_49 rfl (Nat.le_of_ble_eq_true rfl) rfl ?_
  refine j_aload_n0 (n := 51) dX8_first_50 rfl ?_
  refine j_ldc2 (n := 54) dX8_first_51 rfl cl_X8_27 ?_
  refine j_put (n := 57) (k := 5) (fs2 := oMod g (qM1 q2)) dX8_first_54 rfl jcl7 tyX8_ok nmX8 (Nat.le_of_ble_eq_true rfl) rfl (tyX8_ok 5 (Nat.le_of_ble_eq_true rfl)) fl_X8_29 (by rfl) (by rfl) (by first | decide | omega) (by first | assumption | rfl) (Nat.le_of_ble_eq_true rfl) (by rfl) ?_
  have hR : rP g M (va_up M3 34 (.inr (7, oMod g (qM1 q2)))) q m := ⟨qM1 q2, m, by omega, ri4, hq2, fr2.tr fr4⟩
  refine j_iload_n2 (n := 58) dX8_first_57 rfl ?_
  refine j_if_ge (n := 61) 66 dX8_first_58 rfl (by decide) (fun e => ?_) (fun e => ?_)
  · refine j_iload_n2 (n := 67) dX8_first_66 rfl ?_
    refine j_iret dX8_first_67 rfl ?_
    exact ⟨by simp [sp_first, e1, c1, e3, show ¬ 3 < sn j by omega]; exact fun z => absurd e (Int32.not_le.mpr z), hR⟩
  · refine j_ldc (n := 63) dX8_first_61 rfl cn_X8_112 ?_
    refine j_goto 67 dX8_first_63 (by decide) ?_
    refine j_iret dX8_first_67 rfl ?_
    exact ⟨by simp [sp_first, e1, c1, e3, show ¬ 3 < sn j by omega]; exact fun z => absurd z e, hR⟩
set_option maxRecDepth 100000 in
theorem con_X8_fewest {g : jG} {M : jMem} {q : jMq} {m : Nat} {sn sT : Nat → Nat} (ri : RI g M q m) (h35 : M 35 = iA g 8 fun j => nI (sn j)) (h36 : M 36 = lA g 8 fun j => lN (sT j)) (ok : slOK sn sT) {s : Int32} : Con g jX8_fewest 6 [.ref (jA g 34), .int s] M (fun v M2 => v = some (.int (sp_fewest sn sT s)) ∧ rP g M M2 q m) := by
  obtain ⟨h34, r2, r3, rk⟩ := id ri
  refine con_of (l := [some (.ref (jA g 34)), some (.int s), none]) (by decide) (Nat.le_of_ble_eq_true rfl) rfl ?_
  refine j_iload_n1 (n := 1) dX8_fewest_0 rfl ?_
  refine j_fnS1 (n := 4) con_X8_isSlot dX8_fewest_1 rfl cal_X8_isSlot ml_X8_88 (Nat.le_of_ble_eq_true rfl) (Nat.le_of_ble_eq_true rfl) ?_
  refine j_bif_ne (n := 7) 9 dX8_fewest_4 rfl (by decide) (fun e1 => ?_) (fun e1 => ?_)
  rotate_left
  · refine j_iconst (n := 8) (-1) dX8_fewest_7 rfl (by decide) ?_
    refine j_iret dX8_fewest_8 rfl ?_
    exact ⟨by simp [sp_fewest, e1], rP.rf ri⟩
  obtain ⟨j, hj, rfl⟩ := isSl_of e1
  have c1 := nI_clamp (show j < 2 ^ 31 by omega)
  have b2 := ok j hj
  refine j_aload_n0 (n := 10) dX8_fewest_9 rfl ?_
  refine j_get (n := 13) (k := 0) dX8_fewest_10 rfl jcl7 (Nat.le_of_ble_eq_true rfl) fl_X8_7 (by first | decide | omega) (by first | assumption | rfl) (by rfl) ?_
  refine j_iload_n1 (n := 14) dX8_fewest_13 rfl ?_
  refine j_iald_n (n := 15) dX8_fewest_14 rfl (by first | decide | omega) (by first | assumption | rfl) (by decide) (by first | assumption | omega) ?_
  refine j_iconst (n := 16) (nI 3) dX8_fewest_15 rfl (by decide) ?_
  refine j_nicmp_le (n := 19) 22 dX8_fewest_16 rfl (by decide) (by omega) (by omega) (fun e2 => ?_) (fun e2 => ?_)
  rotate_left
  · refine j_bipush (n := 21) (-3) dX8_fewest_19 rfl (by decide) ?_
    refine j_iret dX8_fewest_21 rfl ?_
    exact ⟨by simp [sp_fewest, e1, c1, show 3 < sn j by omega], rP.rf ri⟩
  refine j_aload_n0 (n := 23) dX8_fewest_22 rfl ?_
  refine j_aload_n0 (n := 24) dX8_fewest_23 rfl ?_
  refine j_get (n := 27) (k := 1) dX8_fewest_24 rfl jcl7 (Nat.le_of_ble_eq_true rfl) fl_X8_13 (by first | decide | omega) (by first | assumption | rfl) (by rfl) ?_
  refine j_iload_n1 (n := 28) dX8_fewest_27 rfl ?_
  refine j_lald_n (n := 29) dX8_fewest_28 rfl (by first | decide | omega) (by first | assumption | rfl) (by decide) (by first | assumption | omega) ?_
  refine j_aload_n0 (n := 30) dX8_fewest_29 rfl ?_
  refine j_get (n := 33) (k := 0) dX8_fewest_30 rfl jcl7 (Nat.le_of_ble_eq_true rfl) fl_X8_7 (by first | decide | omega) (by first | assumption | rfl) (by rfl) ?_
  refine j_iload_n1 (n := 34) dX8_fewest_33 rfl ?_
  refine j_iald_n (n := 35) dX8_fewest_34 rfl (by first | decide | omega) (by first | assumption | rfl) (by decide) (by first | assumption | omega) ?_
  refine j_cV2 (n := 38) (con_X8_solve h34 r2 r3 b2.1 b2.2.1 (ok.b hj) (EX_all _ _ b2.1 b2.2.1 b2.2.2)) dX8_fewest_35 rfl cal_X8_solve ml_X8_160 (Nat.le_of_ble_eq_true rfl) (by first | decide | omega) rfl rfl (Nat.le_of_ble_eq_true rfl) (by first | assumption | rfl) ?_
  rintro _ M2 ⟨rfl, hsol⟩
  have hI := hsol.I
  obtain ⟨q2, ri2, hq2, fr2⟩ := RI_I2 ri hI
  obtain ⟨q2b, a1, a2, a3, a4, a5, a6, a7, a8⟩ := hsol
  have m35 := (fr2 35 (by decide)).trans h35
  have m36 := (fr2 36 (by decide)).trans h36
  have hfin : ∀ (M3 : jMem) (x : Int32), fLp g M2 M3 → (isG (sn j) (sT j) = false → x = fstI (sn j) (sT j)) → J g jX8_fewest 6 (fun v M2 => v = some (.int (sp_fewest sn sT (nI j))) ∧ rP g M M2 q m) 65 [some (.ref (jA g 34)), some (.int (nI j)), none] [.int x] M3 := by
    intro M3 x hf3 hx
    have m34c : M3 34 = .inr (7, oMod g q2) := (hf3.1 34 (by decide) (by decide) (by decide) (by decide)).trans ri2.1
    obtain ⟨ri4, fr4⟩ := RI_f ri2 hf3
    refine j_istore_n2 (n := 66) dX8_fewest_65 rfl (Nat.le_of_ble_eq_true rfl) rfl ?_
    refine j_aload_n0 (n := 67) dX8_fewest_66 rfl ?_
    refine j_ldc2 (n := 70) dX8_fewest_67 rfl cl_X8_27 ?_
    refine j_put (n := 73) (k := 5) (fs2 := oMod g (qM1 q2)) dX8_fewest_70 rfl jcl7 tyX8_ok nmX8 (Nat.le_of_ble_eq_true rfl) rfl (tyX8_ok 5 (Nat.le_of_ble_eq_true rfl)) fl_X8_29 (by rfl) (by rfl) (by first | decide | omega) (by first | assumption | rfl) (Nat.le_of_ble_eq_true rfl) (by rfl) ?_
    have w35 := (fr4 35 (by decide)).trans m35
    have w36 := (fr4 36 (by decide)).trans m36
    have w34 := ri4.1
    refine j_aload_n0 (n := 74) dX8_fewest_73 rfl ?_
    refine j_iload_n1 (n := 75) dX8_fewest_74 rfl ?_
    refine j_cV1 (n := 78) (con_X8_inputsGate w34 ri4.2.1 ri4.2.2.1 w35 w36 ok hj) dX8_fewest_75 rfl cal_X8_inputsGate ml_X8_199 (Nat.le_of_ble_eq_true rfl) (by first | decide | omega) rfl rfl (Nat.le_of_ble_eq_true rfl) (by first | assumption | rfl) ?_
    rintro _ M5 ⟨rfl, hI5⟩
    have hR : rP g M M5 q m := rP.tr (q2 := qM1 q2) (Nat.le_refl m) hq2 (fr2.tr fr4) (RI_I ri4 hI5)
    refine j_bif_eq (n := 81) 85 dX8_fewest_78 rfl (by decide) (fun e3 => ?_) (fun e3 => ?_)
    · refine j_iload_n2 (n := 86) dX8_fewest_85 rfl ?_
      rw [hx e3]
      refine j_if_ge (n := 89) 93 dX8_fewest_86 rfl (by decide) (fun e => ?_) (fun e => ?_)
      · refine j_iconst (n := 94) (nI 2) dX8_fewest_93 rfl (by decide) ?_
        refine j_iret dX8_fewest_94 rfl ?_
        exact ⟨by simp [sp_fewest, e1, c1, e3, show ¬ 3 < sn j by omega, Int32.not_lt.mpr e]; rfl, hR⟩
      · refine j_iconst (n := 90) (nI 3) dX8_fewest_89 rfl (by decide) ?_
        refine j_goto 94 dX8_fewest_90 (by decide) ?_
        refine j_iret dX8_fewest_94 rfl ?_
        exact ⟨by simp [sp_fewest, e1, c1, e3, show ¬ 3 < sn j by omega, Int32.not_le.mp e]; rfl, hR⟩
    · refine j_iconst (n := 82) (nI 1) dX8_fewest_81 rfl (by decide) ?_
      refine j_goto 94 dX8_fewest_82 (by decide) ?_
      refine j_iret dX8_fewest_94 rfl ?_
      exact ⟨by simp [sp_fewest, e1, c1, e3, show ¬ 3 < sn j by omega]; rfl, hR⟩
  have m34 := ri2.1
  refine j_aload_n0 (n := 39) dX8_fewest_38 rfl ?_
  refine j_get (n := 42) (k := 7) dX8_fewest_39 rfl jcl7 (Nat.le_of_ble_eq_true rfl) fl_X8_142 (by decide) a1 (by rfl) ?_
  rw [a5.1]
  refine j_bif_eq (n := 45) 49 dX8_fewest_42 rfl (by decide) (fun e3 => ?_) (fun e3 => ?_)
  rotate_left
  · refine j_iconst (n := 46) (nI 0) dX8_fewest_45 rfl (by decide) ?_
    refine j_goto 65 dX8_fewest_46 (by decide) ?_
    exact hfin M2 _ ri2.fl (fun z => by rw [e3] at z; cases z)
  refine j_aload_n0 (n := 50) dX8_fewest_49 rfl ?_
  refine j_aload_n0 (n := 51) dX8_fewest_50 rfl ?_
  refine j_get (n := 54) (k := 1) dX8_fewest_51 rfl jcl7 (Nat.le_of_ble_eq_true rfl) fl_X8_13 (by first | decide | omega) (by first | assumption | rfl) (by rfl) ?_
  refine j_iload_n1 (n := 55) dX8_fewest_54 rfl ?_
  refine j_lald_n (n := 56) dX8_fewest_55 rfl (by first | decide | omega) (by first | assumption | rfl) (by decide) (by first | assumption | omega) ?_
  refine j_aload_n0 (n := 57) dX8_fewest_56 rfl ?_
  refine j_get (n := 60) (k := 0) dX8_fewest_57 rfl jcl7 (Nat.le_of_ble_eq_true rfl) fl_X8_7 (by first | decide | omega) (by first | assumption | rfl) (by rfl) ?_
  refine j_iload_n1 (n := 61) dX8_fewest_60 rfl ?_
  refine j_iald_n (n := 62) dX8_fewest_61 rfl (by first | decide | omega) (by first | assumption | rfl) (by decide) (by first | assumption | omega) ?_
  refine j_cV2 (n := 65) (con_X8_firstOf m34 ri2.fl b2.1 e2 b2.2.2) dX8_fewest_62 rfl cal_X8_firstOf ml_X8_196 (Nat.le_of_ble_eq_true rfl) (by first | decide | omega) rfl rfl (Nat.le_of_ble_eq_true rfl) (by first | assumption | rfl) ?_
  rintro _ M3 ⟨rfl, hf3⟩
  exact hfin M3 _ hf3 (fun _ => rfl)
