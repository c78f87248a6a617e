def kLp (g : jG) (M M2 : jMem) (q q2 : jMq) (m a c : Nat) (km : Nat → Int32) : Prop := M2 34 = .inr (7, oMod g q2) ∧ q2.2.2.2.2.2.2.2 = q.2.2.2.2.2.2.2 ∧ q2.2.2.2.2.1 = nI m ∧ (∃ od, M2 42 = iA g 4 od) ∧ (∃ f, M2 43 = iA g 65536 f ∧ mkAll m f) ∧ (∃ th hf wt, M2 37 = iA g 32 th ∧ M2 38 = zA g 243 hf ∧ M2 39 = iA g 4 wt) ∧ (∀ k, k ≠ 34 → k ≠ 42 → k ≠ 43 → k ≠ 37 → k ≠ 38 → k ≠ 39 → k ≠ 45 → M2 k = M k) ∧ ∃ km2, M2 45 = iA g 8 km2 ∧ km2 a = nI c ∧ ∀ k, k ≠ a → km2 k = km k
def kT (n : Nat) (b : Bool) (t : Nat) : Bool := decide (chF n t = t) && (b || isG n t)
theorem pw256 {n : Nat} (h : n ≤ 3) : 2 ^ 2 ^ n ≤ 256 := Nat.le_trans (Nat.pow_le_pow_right (n := 2) (by omega) (Nat.pow_le_pow_right (n := 2) (by omega) h)) (by decide)
theorem chF_lt (n t : Nat) : chF n t < 2 ^ 2 ^ n := by
  have h := (mn_spec (LMl n t) (2 ^ 2 ^ n - 1)).1
  have hpos : 0 < 2 ^ 2 ^ n := Nat.two_pow_pos _
  unfold chF
  omega
theorem bI_eq {n n2 : Nat} {b b2 : Bool} (h : 2 * n + bI b = 2 * n2 + bI b2) : n = n2 ∧ b = b2 := by
  unfold bI at h
  cases b <;> cases b2 <;> simp at h ⊢ <;> omega
set_option maxRecDepth 100000 in
theorem con_X8_kinds {g : jG} {M : jMem} {q : jMq} {m : Nat} (ri : RI g M q m) (hm : m + 256 < 2 ^ 31) {x : Int32} {b : Bool} : Con g jX8_kinds 3 [.ref (jA g 34), .int x, .int (jB b)] M (fun v M2 => v = some (.int (sp_kinds x b)) ∧ rP g M M2 q m) := by
  obtain ⟨h34, r2, r3, k1, ⟨od, k2⟩, ⟨f, k3, k3b⟩, k4, ⟨km, k5, k5b⟩, k6⟩ := id ri
  refine con_of (l := [some (.ref (jA g 34)), some (.int x), some (.int (jB b)), none, none, none]) (by decide) (Nat.le_of_ble_eq_true rfl) rfl ?_
  refine j_iload_n1 (n := 1) dX8_kinds_0 rfl ?_
  refine j_i2l (n := 2) dX8_kinds_1 rfl ?_
  refine j_lconst (n := 3) (lN 1) dX8_kinds_2 rfl rfl ?_
  refine j_ldc2 (n := 6) dX8_kinds_3 rfl cl_X8_163 ?_
  refine j_fnS3 (n := 9) con_X8_in dX8_kinds_6 rfl cal_X8_in ml_X8_76 (Nat.le_of_ble_eq_true rfl) (Nat.le_of_ble_eq_true rfl) ?_
  have e5 : decide (lN 1 ≤ x.toInt64 ∧ x.toInt64 ≤ 3) = isTo 3 x := by
    have w4 : (3 : Int64) = (nI 3).toInt64 := by decide
    rw [wide1, w4, wide_in]
    rfl
  rw [e5]
  refine j_bif_ne (n := 12) 15 dX8_kinds_9 rfl (by decide) (fun e1 => ?_) (fun e1 => ?_)
  rotate_left
  · refine j_bipush (n := 14) (-2) dX8_kinds_12 rfl (by decide) ?_
    refine j_iret dX8_kinds_14 rfl ?_
    exact ⟨by simp [sp_kinds, e1], rP.rf ri⟩
  obtain ⟨n, hn1, hn3, rfl⟩ := isTo_of (by decide) e1
  have cn := nI_clamp (show n < 2 ^ 31 by omega)
  have h256 := pw256 hn3
  have hpos : 0 < 2 ^ 2 ^ n := Nat.two_pow_pos _
  have hsp : sp_kinds (nI n) b = nI (kindsF n b) := by simp [sp_kinds, e1, cn]
  rw [hsp]
  have hb1 : bI b ≤ 1 := by unfold bI; cases b <;> decide
  have hM0 : ∃ th hf wt, M 37 = iA g 32 th ∧ M 38 = zA g 243 hf ∧ M 39 = iA g 4 wt := by
    obtain ⟨th, hf, wt, sz, wv, a1, a2, a3, _, _⟩ := r2
    exact ⟨th, hf, wt, a1, a2, a3⟩
  refine j_iconst (n := 16) (nI 2) dX8_kinds_15 rfl (by decide) ?_
  refine j_iload_n1 (n := 17) dX8_kinds_16 rfl ?_
  refine j_imul (n := 18) dX8_kinds_17 rfl ?_
  refine j_topi (nI (2 * n)) (pk_mul _ _) ?_
  have h112 : ∀ (M2 : jMem) (q2 : jMq) (m2 : Nat) (x4 : Option Value), m2 ≤ m + 256 → kLp g M M2 q q2 m2 (2 * n + bI b) (kindsF n b) km → J g jX8_kinds 3 (fun v M2 => v = some (.int (nI (kindsF n b))) ∧ rP g M M2 q m) 112 [some (.ref (jA g 34)), some (.int (nI n)), some (.int (jB b)), some (.int (nI (2 * n + bI b))), x4, none] [] M2 := by
    rintro M2 q2 m2 x4 hm2 ⟨m34, g1, g2, g3, g4, g5, g6, km2, g7, g8, g9⟩
    refine j_aload_n0 (n := 113) dX8_kinds_112 rfl ?_
    refine j_ldc2 (n := 116) dX8_kinds_113 rfl cl_X8_27 ?_
    refine j_put (n := 119) (k := 5) (fs2 := oMod g (qM1 q2)) dX8_kinds_116 rfl jcl7 tyX8_ok nmX8 (Nat.le_of_ble_eq_true rfl) rfl (tyX8_ok 5 (Nat.le_of_ble_eq_true rfl)) fl_X8_29 (by rfl) (by rfl) (by first | decide | omega) (by first | assumption | rfl) (Nat.le_of_ble_eq_true rfl) (by rfl) ?_
    have m34b : va_up M2 34 (.inr (7, oMod g (qM1 q2))) 34 = .inr (7, oMod g (qM1 q2)) := va_at_eq
    have m45 : va_up M2 34 (.inr (7, oMod g (qM1 q2))) 45 = iA g 8 km2 := g7
    refine j_aload_n0 (n := 120) dX8_kinds_119 rfl ?_
    refine j_get (n := 123) (k := 17) dX8_kinds_120 rfl jcl7 (Nat.le_of_ble_eq_true rfl) fl_X8_49 (by first | decide | omega) (by first | assumption | rfl) (by rfl) ?_
    refine j_iload_n3 (n := 124) dX8_kinds_123 rfl ?_
    refine j_iald_n (n := 125) dX8_kinds_124 rfl (by first | decide | omega) (by first | assumption | rfl) (by decide) (by first | assumption | omega) ?_
    rw [g8]
    refine j_iret dX8_kinds_125 rfl ?_
    have fr : rFr M (va_up M2 34 (.inr (7, oMod g (qM1 q2)))) := rFr.up (fun k hk => g6 k (by omega) (by omega) (by omega) (by omega) (by omega) (by omega) (by omega)) (Or.inl rfl)
    refine ⟨rfl, qM1 q2, m2, hm2, ⟨m34b, ?_, cInv_m1 rfl, g2, g3, g4, ?_, ⟨km2, m45, fun n2 h1 h2 b2 => ?_⟩, ?_⟩, g1, fr⟩
    · exact mS_of (M := M) r2 g5 (g6 40 (by decide) (by decide) (by decide) (by decide) (by decide) (by decide) (by decide)) (g6 41 (by decide) (by decide) (by decide) (by decide) (by decide) (by decide) (by decide))
    · rw [show va_up M2 34 (.inr (7, oMod g (qM1 q2))) 44 = M 44 from g6 44 (by decide) (by decide) (by decide) (by decide) (by decide) (by decide) (by decide)]
      exact k4
    · by_cases z : 2 * n2 + bI b2 = 2 * n + bI b
      · obtain ⟨z1, z2⟩ := bI_eq z
        subst z1
        subst z2
        exact Or.inr g8
      · rw [g9 _ z]
        exact k5b n2 h1 h2 b2
    · rw [show va_up M2 34 (.inr (7, oMod g (qM1 q2))) 46 = M 46 from g6 46 (by decide) (by decide) (by decide) (by decide) (by decide) (by decide) (by decide)]
      exact k6
  have h27 : J g jX8_kinds 3 (fun v M2 => v = some (.int (nI (kindsF n b))) ∧ rP g M M2 q m) 27 [some (.ref (jA g 34)), some (.int (nI n)), some (.int (jB b)), none, none, none] [.int (nI (bI b)), .int (nI (2 * n))] M := by
    refine j_iadd (n := 28) dX8_kinds_27 rfl ?_
    refine j_topi (nI (2 * n + bI b)) (nI_add _ _) ?_
    refine j_istore_n3 (n := 29) dX8_kinds_28 rfl (Nat.le_of_ble_eq_true rfl) rfl ?_
    refine j_lconst (n := 30) (lN 0) dX8_kinds_29 rfl rfl ?_
    refine j_lstore4 (n := 32) dX8_kinds_30 rfl (Nat.le_of_ble_eq_true rfl) rfl ?_
    have key : ∀ t, t ≤ 2 ^ 2 ^ n → ∀ M2 q2, (0 < t ∨ km (2 * n + bI b) = nI 0) → kLp g M M2 q q2 (m + t) (2 * n + bI b) (cnt t (kT n b)) km → J g jX8_kinds 3 (fun v M2 => v = some (.int (nI (kindsF n b))) ∧ rP g M M2 q m) 32 [some (.ref (jA g 34)), some (.int (nI n)), some (.int (jB b)), some (.int (nI (2 * n + bI b))), some (.long (lN t)), none] [] M2 := by
      refine j_for ?_ ?_
      · intro M2 q2 _ hl
        refine j_lload4 (n := 34) dX8_kinds_32 rfl ?_
        refine j_iload_n1 (n := 35) dX8_kinds_34 rfl ?_
        refine j_fnS1 (n := 38) (con_X8_whole (by omega)) dX8_kinds_35 rfl cal_X8_whole ml_X8_94 (Nat.le_of_ble_eq_true rfl) (Nat.le_of_ble_eq_true rfl) ?_
        refine j_lcmp (n := 39) dX8_kinds_38 rfl ?_
        refine j_lif_gt (n := 42) 112 dX8_kinds_39 rfl (by decide) (fun e2 => ?_) (fun e2 => ?_)
        rotate_left
        · exact (e2 ((pk_lLT (by omega) (by omega)).mpr (by omega))).elim
        exact h112 M2 q2 _ _ (by omega) hl
      · intro t ht ih M2 q2 h0 hl
        obtain ⟨m34, g1, g2, ⟨od2, g3⟩, ⟨f2, g4, g4b⟩, g5, g6, km2, g7, g8, g9⟩ := hl
        refine j_lload4 (n := 34) dX8_kinds_32 rfl ?_
        refine j_iload_n1 (n := 35) dX8_kinds_34 rfl ?_
        refine j_fnS1 (n := 38) (con_X8_whole (by omega)) dX8_kinds_35 rfl cal_X8_whole ml_X8_94 (Nat.le_of_ble_eq_true rfl) (Nat.le_of_ble_eq_true rfl) ?_
        refine j_lcmp (n := 39) dX8_kinds_38 rfl ?_
        refine j_lif_gt (n := 42) 112 dX8_kinds_39 rfl (by decide) (fun e2 => ?_) (fun e2 => ?_)
        · have := (pk_lLT (by omega) (by omega)).mp e2
          omega
        refine j_aload_n0 (n := 43) dX8_kinds_42 rfl ?_
        refine j_get (n := 46) (k := 17) dX8_kinds_43 rfl jcl7 (Nat.le_of_ble_eq_true rfl) fl_X8_49 (by first | decide | omega) (by first | assumption | rfl) (by rfl) ?_
        refine j_iload_n3 (n := 47) dX8_kinds_46 rfl ?_
        refine j_iald_n (n := 48) dX8_kinds_47 rfl (by first | decide | omega) (by first | assumption | rfl) (by decide) (by first | assumption | omega) ?_
        rw [g8]
        have h58 : J g jX8_kinds 3 (fun v M2 => v = some (.int (nI (kindsF n b))) ∧ rP g M M2 q m) 58 [some (.ref (jA g 34)), some (.int (nI n)), some (.int (jB b)), some (.int (nI (2 * n + bI b))), some (.long (lN t)), none] [] M2 := by
          refine j_aload_n0 (n := 59) dX8_kinds_58 rfl ?_
          refine j_lload4 (n := 61) dX8_kinds_59 rfl ?_
          refine j_iload_n1 (n := 62) dX8_kinds_61 rfl ?_
          refine j_cV2 (n := 65) (con_X8_layKind m34 g3 g4 hn1 (by omega) (by omega) g2 (by omega) g4b) dX8_kinds_62 rfl cal_X8_layKind ml_X8_184 (Nat.le_of_ble_eq_true rfl) (by first | decide | omega) rfl rfl (Nat.le_of_ble_eq_true rfl) (by first | assumption | rfl) ?_
          rintro _ M3 ⟨rfl, od3, f3, rfl, hf3⟩
          have m34 : MK g M2 q2 (nI (m + t + 1)) (chF n t) (kinF n t) od3 f3 34 = .inr (7, oMod g (qK q2 (nI (m + t + 1)) (lN (chF n t)) (nI (kinF n t)))) := rfl
          have m45 : MK g M2 q2 (nI (m + t + 1)) (chF n t) (kinF n t) od3 f3 45 = iA g 8 km2 := g7
          refine j_aload_n0 (n := 66) dX8_kinds_65 rfl ?_
          refine j_get (n := 69) (k := 17) dX8_kinds_66 rfl jcl7 (Nat.le_of_ble_eq_true rfl) fl_X8_49 (by first | decide | omega) (by first | assumption | rfl) (by rfl) ?_
          refine j_iload_n3 (n := 70) dX8_kinds_69 rfl ?_
          refine j_dup2_11 (n := 71) dX8_kinds_70 rfl rfl rfl ?_
          refine j_iald_n (n := 72) dX8_kinds_71 rfl (by first | decide | omega) (by first | assumption | rfl) (by decide) (by first | assumption | omega) ?_
          rw [g8]
          have h101 : ∀ (M4 : jMem) (c : Bool), kLp g M M4 q (qK q2 (nI (m + t + 1)) (lN (chF n t)) (nI (kinF n t))) (m + t + 1) (2 * n + bI b) (cnt t (kT n b)) km → kT n b t = c → J g jX8_kinds 3 (fun v M2 => v = some (.int (nI (kindsF n b))) ∧ rP g M M2 q m) 101 [some (.ref (jA g 34)), some (.int (nI n)), some (.int (jB b)), some (.int (nI (2 * n + bI b))), some (.long (lN t)), none] [.int (nI (if c then 1 else 0)), .int (nI (cnt t (kT n b))), .int (nI (2 * n + bI b)), .ref (jA g 45)] M4 := by
            rintro M4 c ⟨w34, w1, w2, w3, w4, w5, w6, km4, w7, w8, w9⟩ hc
            refine j_iadd (n := 102) dX8_kinds_101 rfl ?_
            refine j_topi (nI (cnt (t + 1) (kT n b))) (by rw [nI_add, ← hc]; rfl) ?_
            refine j_iast_n (n := 103) dX8_kinds_102 rfl (by first | decide | omega) (by first | assumption | rfl) (by decide) (by first | assumption | omega) ?_
            refine j_lload4 (n := 105) dX8_kinds_103 rfl ?_
            refine j_lconst (n := 106) (lN 1) dX8_kinds_105 rfl rfl ?_
            refine j_ladd (n := 107) dX8_kinds_106 rfl ?_
            refine j_topl (lN (t + 1)) (lN_add _ _) ?_
            refine j_lstore4 (n := 109) dX8_kinds_107 rfl (Nat.le_of_ble_eq_true rfl) rfl ?_
            refine j_goto 32 dX8_kinds_109 (by decide) ?_
            refine ih _ _ (Or.inl (Nat.succ_pos _)) ⟨w34, w1, w2, w3, w4, w5, fun k z1 z2 z3 z4 z5 z6 z7 => (va_at_ne z7).trans (w6 k z1 z2 z3 z4 z5 z6 z7), upd km4 (2 * n + bI b) (nI (cnt (t + 1) (kT n b))), va_at_eq, if_pos rfl, fun k z => (if_neg z).trans (w9 k z)⟩
          have hl3 : kLp g M (MK g M2 q2 (nI (m + t + 1)) (chF n t) (kinF n t) od3 f3) q (qK q2 (nI (m + t + 1)) (lN (chF n t)) (nI (kinF n t))) (m + t + 1) (2 * n + bI b) (cnt t (kT n b)) km := ⟨rfl, g1, rfl, ⟨od3, rfl⟩, ⟨f3, rfl, hf3⟩, g5, fun k z1 z2 z3 z4 z5 z6 z7 => (MK_k z1 z2 z3).trans (g6 k z1 z2 z3 z4 z5 z6 z7), km2, g7, g8, g9⟩
          have hch := chF_lt n t
          refine j_aload_n0 (n := 73) dX8_kinds_72 rfl ?_
          refine j_get (n := 76) (k := 14) dX8_kinds_73 rfl jcl7 (Nat.le_of_ble_eq_true rfl) fl_X8_165 (by first | decide | omega) (by first | assumption | rfl) (by rfl) ?_
          refine j_lload4 (n := 78) dX8_kinds_76 rfl ?_
          refine j_lcmp (n := 79) dX8_kinds_78 rfl ?_
          refine j_lif_ne (n := 82) 100 dX8_kinds_79 rfl (by decide) (fun e3 => ?_) (fun e3 => ?_)
          · have e4 : ¬ chF n t = t := fun z => e3 (congrArg lN z)
            refine j_iconst (n := 101) (nI 0) dX8_kinds_100 rfl (by decide) ?_
            exact h101 _ false hl3 (by unfold kT; simp [e4])
          · have e4 : chF n t = t := (pk_lEQ (by omega) (by omega)).mp e3
            refine j_iload_n2 (n := 83) dX8_kinds_82 rfl ?_
            refine j_bif_ne (n := 86) 96 dX8_kinds_83 rfl (by decide) (fun e6 => ?_) (fun e6 => ?_)
            · have h96 := h101 _ true hl3 (by unfold kT; simp [e4, e6])
              refine j_iconst (n := 97) (nI 1) dX8_kinds_96 rfl (by decide) ?_
              refine j_goto 101 dX8_kinds_97 (by decide) ?_
              exact h96
            · obtain ⟨th, hf, wt, v1, v2, v3⟩ := g5
              have m37 : MK g M2 q2 (nI (m + t + 1)) (chF n t) (kinF n t) od3 f3 37 = iA g 32 th := v1
              have m38 : MK g M2 q2 (nI (m + t + 1)) (chF n t) (kinF n t) od3 f3 38 = zA g 243 hf := v2
              have m39 : MK g M2 q2 (nI (m + t + 1)) (chF n t) (kinF n t) od3 f3 39 = iA g 4 wt := v3
              refine j_aload_n0 (n := 87) dX8_kinds_86 rfl ?_
              refine j_lload4 (n := 89) dX8_kinds_87 rfl ?_
              refine j_iload_n1 (n := 90) dX8_kinds_89 rfl ?_
              refine j_cV2 (n := 93) (con_X8_isGate m34 m37 m38 m39 (by omega) hn1 (by omega)) dX8_kinds_90 rfl cal_X8_isGate ml_X8_139 (Nat.le_of_ble_eq_true rfl) (by first | decide | omega) rfl rfl (Nat.le_of_ble_eq_true rfl) (by first | assumption | rfl) ?_
              rintro _ M4 ⟨rfl, th2, hf2, wt2, rfl, _, _⟩
              have hl4 : kLp g M (va_up (va_up (va_up (MK g M2 q2 (nI (m + t + 1)) (chF n t) (kinF n t) od3 f3) 37 (iA g 32 th2)) 38 (zA g 243 hf2)) 39 (iA g 4 wt2)) q (qK q2 (nI (m + t + 1)) (lN (chF n t)) (nI (kinF n t))) (m + t + 1) (2 * n + bI b) (cnt t (kT n b)) km := ⟨rfl, g1, rfl, ⟨od3, rfl⟩, ⟨f3, rfl, hf3⟩, ⟨th2, hf2, wt2, rfl, rfl, rfl⟩, fun k z1 z2 z3 z4 z5 z6 z7 => by
                  rw [va_at_ne z6, va_at_ne z5, va_at_ne z4]
                  exact (MK_k z1 z2 z3).trans (g6 k z1 z2 z3 z4 z5 z6 z7), km2, g7, g8, g9⟩
              refine j_bif_eq (n := 96) 100 dX8_kinds_93 rfl (by decide) (fun e7 => ?_) (fun e7 => ?_)
              · refine j_iconst (n := 101) (nI 0) dX8_kinds_100 rfl (by decide) ?_
                exact h101 _ false hl4 (by unfold kT; simp [e4, e6, e7])
              · refine j_iconst (n := 97) (nI 1) dX8_kinds_96 rfl (by decide) ?_
                refine j_goto 101 dX8_kinds_97 (by decide) ?_
                exact h101 _ true hl4 (by unfold kT; simp [e4, e7])
        refine j_if_eq (n := 51) 58 dX8_kinds_48 rfl (by decide) (fun e3 => h58) (fun e3 => ?_)
        refine j_lload4 (n := 53) dX8_kinds_51 rfl ?_
        refine j_lconst (n := 54) (lN 0) dX8_kinds_53 rfl rfl ?_
        refine j_lcmp (n := 55) dX8_kinds_54 rfl ?_
        refine j_lif_le (n := 58) 112 dX8_kinds_55 rfl (by decide) (fun e4 => ?_) (fun e4 => ?_)
        · have e6 : t ≤ 0 := (pk_lLE (by omega) (by omega)).mp e4
          have e7 : t = 0 := by omega
          subst e7
          rcases h0 with z | z
          · omega
          · exact (e3 rfl).elim
        · exact h58
    have hb : kLp g M M q q m (2 * n + bI b) 0 km → km (2 * n + bI b) = nI 0 → _ := fun hk z => key 0 (Nat.zero_le _) M q (Or.inr z) hk
    rcases Classical.em (km (2 * n + bI b) = nI 0) with z | z
    · exact key 0 (Nat.zero_le _) M q (Or.inr z) ⟨h34, rfl, k1, ⟨od, k2⟩, ⟨f, k3, k3b⟩, hM0, fun _ _ _ _ _ _ _ _ => rfl, km, k5, z, fun _ _ => rfl⟩
    · have z2 : km (2 * n + bI b) = nI (kindsF n b) := by
        rcases k5b n hn1 hn3 b with y | y
        · exact (z y).elim
        · exact y
      refine j_lload4 (n := 34) dX8_kinds_32 rfl ?_
      refine j_iload_n1 (n := 35) dX8_kinds_34 rfl ?_
      refine j_fnS1 (n := 38) (con_X8_whole (by omega)) dX8_kinds_35 rfl cal_X8_whole ml_X8_94 (Nat.le_of_ble_eq_true rfl) (Nat.le_of_ble_eq_true rfl) ?_
      refine j_lcmp (n := 39) dX8_kinds_38 rfl ?_
      refine j_lif_gt (n := 42) 112 dX8_kinds_39 rfl (by decide) (fun e2 => ?_) (fun e2 => ?_)
      · have := (pk_lLT (by omega) (by omega)).mp e2
        omega
      refine j_aload_n0 (n := 43) dX8_kinds_42 rfl ?_
      refine j_get (n := 46) (k := 17) dX8_kinds_43 rfl jcl7 (Nat.le_of_ble_eq_true rfl) fl_X8_49 (by first | decide | omega) (by first | assumption | rfl) (by rfl) ?_
      refine j_iload_n3 (n := 47) dX8_kinds_46 rfl ?_
      refine j_iald_n (n := 48) dX8_kinds_47 rfl (by first | decide | omega) (by first | assumption | rfl) (by decide) (by first | assumption | omega) ?_
      refine j_if_eq (n := 51) 58 dX8_kinds_48 rfl (by decide) (fun e3 => (z e3).elim) (fun e3 => ?_)
      refine j_lload4 (n := 53) dX8_kinds_51 rfl ?_
      refine j_lconst (n := 54) (lN 0) dX8_kinds_53 rfl rfl ?_
      refine j_lcmp (n := 55) dX8_kinds_54 rfl ?_
      refine j_lif_le (n := 58) 112 dX8_kinds_55 rfl (by decide) (fun e4 => ?_) (fun e4 => ?_)
      · exact h112 M q m _ (by omega) ⟨h34, rfl, k1, ⟨od, k2⟩, ⟨f, k3, k3b⟩, hM0, fun _ _ _ _ _ _ _ _ => rfl, km, k5, z2, fun _ _ => rfl⟩
      · exact (e4 ((pk_lLE (by omega) (by omega)).mpr (Nat.le_refl _))).elim
  refine j_iload_n2 (n := 19) dX8_kinds_18 rfl ?_
  cases hb : b
  · rw [hb] at h27
    refine j_bif_eq (n := 22) 26 dX8_kinds_19 rfl (by decide) (fun e6 => ?_) (fun e6 => ?_)
    · refine j_iconst (n := 27) (nI 0) dX8_kinds_26 rfl (by decide) ?_
      exact h27
    · cases e6
  · rw [hb] at h27
    refine j_bif_eq (n := 22) 26 dX8_kinds_19 rfl (by decide) (fun e6 => ?_) (fun e6 => ?_)
    · cases e6
    · refine j_iconst (n := 23) (nI 1) dX8_kinds_22 rfl (by decide) ?_
      refine j_goto 27 dX8_kinds_23 (by decide) ?_
      exact h27
