def pso (n t gt k : Nat) : Bool := decide (gt &&& (mkT (2 ^ n) (WZ n t k) ||| mkT (2 ^ n) (WO n t k)) = mkT (2 ^ n) (WZ n t k)) || decide (gt &&& (mkT (2 ^ n) (WZ n t k) ||| mkT (2 ^ n) (WO n t k)) = mkT (2 ^ n) (WO n t k))
def psB (n t gt : Nat) : Bool := decide (fa_first (pso n t gt) 96 < 96)
def cfB (n t gt : Nat) : Bool := psB n t gt && isG n gt
def clI (n t : Nat) : Int32 := if fa_first (cfB n t) (2 ^ 2 ^ n) < 2 ^ 2 ^ n then nI (fa_first (cfB n t) (2 ^ 2 ^ n)) else -1000000
theorem mkT_63 {n : Nat} (hn : n ≤ 3) (p : Nat → Bool) : mkT (2 ^ n) p < 2 ^ 63 := Nat.lt_of_lt_of_le (mkT_lt p _) (Nat.pow_le_pow_right (by omega) (Nat.le_trans (pw8 hn) (by decide)))
set_option maxRecDepth 100000 in
theorem con_X0_partsSomeOrder {g : jG} {M : jMem} {n t gt : Nat} {fz fo : Nat → Int64} (h12 : M 12 = .inr (0, oPair g)) (h17 : M 17 = lA g 96 fz) (h18 : M 18 = lA g 96 fo) (hn : n ≤ 3) (hg : gt < 2 ^ 63) (hz : ∀ j, j < 96 → fz j = lN (mkT (2 ^ n) (WZ n t j))) (ho : ∀ j, j < 96 → fo j = lN (mkT (2 ^ n) (WO n t j))) : Fn g jX0_partsSomeOrder 0 [.ref (jA g 12), .long (lN gt)] M (.int (jB (psB n t gt))) := by
  refine con_of (l := [some (.ref (jA g 12)), some (.long (lN gt)), none, none, none, none]) (by decide) (Nat.le_of_ble_eq_true rfl) rfl ?_
  refine j_iconst (n := 1) (nI 0) dX0_partsSomeOrder_0 rfl (by decide) ?_
  refine j_istore_n3 (n := 2) dX0_partsSomeOrder_1 rfl (Nat.le_of_ble_eq_true rfl) rfl ?_
  have key : ∀ k, k ≤ 96 → ∀ x4 x5 : Option Value, (∀ j, j < k → pso n t gt j = false) → J g jX0_partsSomeOrder 0 (fun v M2 => v = some (.int (jB (psB n t gt))) ∧ M2 = M) 2 [some (.ref (jA g 12)), some (.long (lN gt)), none, some (.int (nI k)), x4, x5] [] M := by
    refine j_for ?_ ?_
    · intro x4 x5 hno
      refine j_iload_n3 (n := 3) dX0_partsSomeOrder_2 rfl ?_
      refine j_bipush (n := 5) (nI 96) dX0_partsSomeOrder_3 rfl (by decide) ?_
      refine j_nicmp_ge (n := 8) 57 dX0_partsSomeOrder_5 rfl (by decide) (by omega) (by omega) (fun h => ?_) (fun h => ?_)
      rotate_left
      · omega
      refine j_iconst (n := 58) (nI 0) dX0_partsSomeOrder_57 rfl (by decide) ?_
      exact j_ret0 (ff_no hno) dX0_partsSomeOrder_58 rfl ⟨rfl, rfl⟩
    · intro k hk ih x4 x5 hno
      have w1 := mkT_63 hn (WZ n t k)
      have w2 := mkT_63 hn (WO n t k)
      obtain ⟨z, ez⟩ : ∃ z, z = mkT (2 ^ n) (WZ n t k) := ⟨_, rfl⟩
      obtain ⟨o, eo⟩ : ∃ o, o = mkT (2 ^ n) (WO n t k) := ⟨_, rfl⟩
      have ep : pso n t gt k = (decide (gt &&& (z ||| o) = z) || decide (gt &&& (z ||| o) = o)) := by rw [ez, eo]; rfl
      rw [← ez] at w1
      rw [← eo] at w2
      have w3 : gt &&& (z ||| o) < 2 ^ 63 := Nat.lt_of_le_of_lt Nat.and_le_left hg
      have yes : pso n t gt k = true → J g jX0_partsSomeOrder 0 (fun v M2 => v = some (.int (jB (psB n t gt))) ∧ M2 = M) 49 [some (.ref (jA g 12)), some (.long (lN gt)), none, some (.int (nI k)), some (.long (lN (gt &&& (z ||| o)))), none] [] M := by
        intro y
        refine j_iconst (n := 50) (nI 1) dX0_partsSomeOrder_49 rfl (by decide) ?_
        exact j_ret1 (b := psB n t gt) (decide_eq_true (ff_yes hk y)) dX0_partsSomeOrder_50 rfl ⟨rfl, rfl⟩
      refine j_iload_n3 (n := 3) dX0_partsSomeOrder_2 rfl ?_
      refine j_bipush (n := 5) (nI 96) dX0_partsSomeOrder_3 rfl (by decide) ?_
      refine j_nicmp_ge (n := 8) 57 dX0_partsSomeOrder_5 rfl (by decide) (by omega) (by omega) (fun h => ?_) (fun h => ?_)
      · omega
      refine j_lload_n1 (n := 9) dX0_partsSomeOrder_8 rfl ?_
      refine j_aload_n0 (n := 10) dX0_partsSomeOrder_9 rfl ?_
      refine j_get (n := 13) (k := 2) dX0_partsSomeOrder_10 rfl jcl0 (Nat.le_of_ble_eq_true rfl) fl_X0_25 (by first | decide | omega) (by first | assumption | rfl) (by rfl) ?_
      refine j_iload_n3 (n := 14) dX0_partsSomeOrder_13 rfl ?_
      refine j_lald_n (n := 15) dX0_partsSomeOrder_14 rfl (by first | decide | omega) (by first | assumption | rfl) (by decide) (by first | assumption | omega) ?_
      rw [hz k hk, ← ez]
      refine j_aload_n0 (n := 16) dX0_partsSomeOrder_15 rfl ?_
      refine j_get (n := 19) (k := 3) dX0_partsSomeOrder_16 rfl jcl0 (Nat.le_of_ble_eq_true rfl) fl_X0_29 (by first | decide | omega) (by first | assumption | rfl) (by rfl) ?_
      refine j_iload_n3 (n := 20) dX0_partsSomeOrder_19 rfl ?_
      refine j_lald_n (n := 21) dX0_partsSomeOrder_20 rfl (by first | decide | omega) (by first | assumption | rfl) (by decide) (by first | assumption | omega) ?_
      rw [ho k hk, ← eo]
      refine j_lor (n := 22) dX0_partsSomeOrder_21 rfl ?_
      refine j_land (n := 23) dX0_partsSomeOrder_22 rfl ?_
      refine j_topl (lN (gt &&& (z ||| o))) (by rw [fb_orL, fb_andL]) ?_
      refine j_lstore4 (n := 25) dX0_partsSomeOrder_23 rfl (Nat.le_of_ble_eq_true rfl) rfl ?_
      refine j_lload4 (n := 27) dX0_partsSomeOrder_25 rfl ?_
      refine j_aload_n0 (n := 28) dX0_partsSomeOrder_27 rfl ?_
      refine j_get (n := 31) (k := 2) dX0_partsSomeOrder_28 rfl jcl0 (Nat.le_of_ble_eq_true rfl) fl_X0_25 (by first | decide | omega) (by first | assumption | rfl) (by rfl) ?_
      refine j_iload_n3 (n := 32) dX0_partsSomeOrder_31 rfl ?_
      refine j_lald_n (n := 33) dX0_partsSomeOrder_32 rfl (by first | decide | omega) (by first | assumption | rfl) (by decide) (by first | assumption | omega) ?_
      rw [hz k hk, ← ez]
      refine j_lcmp (n := 34) dX0_partsSomeOrder_33 rfl ?_
      refine j_lif_eq (n := 37) 49 dX0_partsSomeOrder_34 rfl (by decide) (fun e1 => ?_) (fun e1 => ?_)
      · refine yes ?_
        rw [ep, decide_eq_true ((pk_lEQ w3 w1).mp e1)]
        rfl
      · refine j_lload4 (n := 39) dX0_partsSomeOrder_37 rfl ?_
        refine j_aload_n0 (n := 40) dX0_partsSomeOrder_39 rfl ?_
        refine j_get (n := 43) (k := 3) dX0_partsSomeOrder_40 rfl jcl0 (Nat.le_of_ble_eq_true rfl) fl_X0_29 (by first | decide | omega) (by first | assumption | rfl) (by rfl) ?_
        refine j_iload_n3 (n := 44) dX0_partsSomeOrder_43 rfl ?_
        refine j_lald_n (n := 45) dX0_partsSomeOrder_44 rfl (by first | decide | omega) (by first | assumption | rfl) (by decide) (by first | assumption | omega) ?_
        rw [ho k hk, ← eo]
        refine j_lcmp (n := 46) dX0_partsSomeOrder_45 rfl ?_
        refine j_lif_ne (n := 49) 51 dX0_partsSomeOrder_46 rfl (by decide) (fun e2 => ?_) (fun e2 => ?_)
        · refine j_inc3 (n := 54) dX0_partsSomeOrder_51 rfl (Nat.le_of_ble_eq_true rfl) rfl ?_
          refine j_goto 2 dX0_partsSomeOrder_54 (by decide) ?_
          refine ih _ _ (fun j hj => ?_)
          rcases Nat.eq_or_lt_of_le (show j ≤ k by omega) with y | y
          · rw [y, ep, decide_eq_false (fun q => e1 (congrArg lN q)), decide_eq_false (fun q => e2 (congrArg lN q))]
            rfl
          · exact hno j y
        · refine yes ?_
          rw [ep, decide_eq_true ((pk_lEQ w3 w2).mp e2), Bool.or_true]
  exact key 0 (Nat.zero_le _) none none (fun j hj => absurd hj (Nat.not_lt_zero j))
/-- the class's cells of pairs of gates, the first orders of which are laid -/
def pJ (g : jG) (M M2 : jMem) (n t c : Nat) : Prop := (∀ k, k ≠ 14 → k ≠ 15 → k ≠ 16 → k ≠ 17 → k ≠ 18 → M2 k = M k) ∧ (∃ f, M2 14 = iA g 4 f) ∧ (∃ lo gz, M2 15 = .inr (4, oSums g 16 lo gz)) ∧ (∃ f, M2 16 = iA g 32 f ∧ f 0 = iI 0) ∧ (∃ fz, M2 17 = lA g 96 fz ∧ ∀ j, j < c → fz j = lN (mkT (2 ^ n) (WZ n t j))) ∧ ∃ fo, M2 18 = lA g 96 fo ∧ ∀ j, j < c → fo j = lN (mkT (2 ^ n) (WO n t j))
def pI (g : jG) (M : jMem) : Prop := M 12 = .inr (0, oPair g) ∧ M 13 = .inr (5, oWit g 14) ∧ pJ g M M 0 0 0
set_option maxRecDepth 100000 in
theorem con_X0_leastFirst {g : jG} {M : jMem} {n t : Nat} (hp : pI g M) (hn : n ≤ 3) (ht : t < 2 ^ 2 ^ n) : Con g jX0_leastFirst 4 [.ref (jA g 12), .int (nI n), .long (lN t)] M (fun v M2 => v = some (.int (clI n t)) ∧ pJ g M M2 0 0 0) := by
  have h256 := pw256 hn
  have hpos : 0 < 2 ^ 2 ^ n := Nat.two_pow_pos _
  have hpn : 0 < 2 ^ n := Nat.two_pow_pos _
  obtain ⟨h12, h13, p0⟩ := hp
  refine con_of (l := [some (.ref (jA g 12)), some (.int (nI n)), some (.long (lN t)), none, none]) (by decide) (Nat.le_of_ble_eq_true rfl) rfl ?_
  refine j_iconst (n := 1) (nI 0) dX0_leastFirst_0 rfl (by decide) ?_
  refine j_istore4 (n := 3) dX0_leastFirst_1 rfl (Nat.le_of_ble_eq_true rfl) rfl ?_
  have wk : ∀ {M2 : jMem}, pJ g M M2 n t 96 → pJ g M M2 0 0 0 := by
    rintro M2 ⟨f1, f2, f3, f4, ⟨fz, f5, _⟩, fo, f6, _⟩
    exact ⟨f1, f2, f3, f4, ⟨fz, f5, fun j hj => absurd hj (Nat.not_lt_zero j)⟩, fo, f6, fun j hj => absurd hj (Nat.not_lt_zero j)⟩
  have lp2 : ∀ gt, gt ≤ 2 ^ 2 ^ n → ∀ M2, pJ g M M2 n t 96 → (∀ j, j < gt → cfB n t j = false) → J g jX0_leastFirst 4 (fun v M2 => v = some (.int (clI n t)) ∧ pJ g M M2 0 0 0) 34 [some (.ref (jA g 12)), some (.int (nI n)), some (.long (lN t)), none, some (.int (nI gt))] [] M2 := by
    refine j_for ?_ ?_
    · intro M2 hl hno
      refine j_iload4 (n := 36) dX0_leastFirst_34 rfl ?_
      refine j_i2l (n := 37) dX0_leastFirst_36 rfl ?_
      refine j_topl (lN (2 ^ 2 ^ n)) (nI_l (by omega)) ?_
      refine j_iload_n1 (n := 38) dX0_leastFirst_37 rfl ?_
      refine j_fnS1 (n := 41) (con_X5_all (by omega)) dX0_leastFirst_38 rfl cal_X5_all ml_X0_40 (Nat.le_of_ble_eq_true rfl) (Nat.le_of_ble_eq_true rfl) ?_
      refine j_lcmp (n := 42) dX0_leastFirst_41 rfl ?_
      refine j_lif_gt (n := 45) 78 dX0_leastFirst_42 rfl (by decide) (fun e => ?_) (fun e => ?_)
      rotate_left
      · exact (e ((pk_lLT (by omega) (by omega)).mpr (by omega))).elim
      refine j_ldc (n := 80) dX0_leastFirst_78 rfl cn_X0_54 ?_
      refine j_iret dX0_leastFirst_80 rfl ?_
      refine ⟨?_, wk hl⟩
      unfold clI
      rw [if_neg (of_decide_eq_false (ff_no hno))]
    · intro gt hgt ih M2 hl hno
      obtain ⟨f1, ⟨ff, f2⟩, f3, f4, ⟨fz, f5, f5b⟩, fo, f6, f6b⟩ := id hl
      have m12 : M2 12 = .inr (0, oPair g) := (f1 12 (by decide) (by decide) (by decide) (by decide) (by decide)).trans h12
      have m13 : M2 13 = .inr (5, oWit g (13 + 1)) := (f1 13 (by decide) (by decide) (by decide) (by decide) (by decide)).trans h13
      have m14 : M2 (13 + 1) = iA g 4 ff := f2
      have no : ∀ M3, pJ g M M3 n t 96 → cfB n t gt = false → J g jX0_leastFirst 4 (fun v M2 => v = some (.int (clI n t)) ∧ pJ g M M2 0 0 0) 72 [some (.ref (jA g 12)), some (.int (nI n)), some (.long (lN t)), none, some (.int (nI gt))] [] M3 := by
        intro M3 h3 hz
        refine j_inc4 (n := 75) dX0_leastFirst_72 rfl (Nat.le_of_ble_eq_true rfl) rfl ?_
        refine j_goto 34 dX0_leastFirst_75 (by decide) ?_
        refine ih M3 h3 (fun j hj => ?_)
        rcases Nat.eq_or_lt_of_le (show j ≤ gt by omega) with y | y
        · rw [y]; exact hz
        · exact hno j y
      refine j_iload4 (n := 36) dX0_leastFirst_34 rfl ?_
      refine j_i2l (n := 37) dX0_leastFirst_36 rfl ?_
      refine j_topl (lN gt) (nI_l (by omega)) ?_
      refine j_iload_n1 (n := 38) dX0_leastFirst_37 rfl ?_
      refine j_fnS1 (n := 41) (con_X5_all (by omega)) dX0_leastFirst_38 rfl cal_X5_all ml_X0_40 (Nat.le_of_ble_eq_true rfl) (Nat.le_of_ble_eq_true rfl) ?_
      refine j_lcmp (n := 42) dX0_leastFirst_41 rfl ?_
      refine j_lif_gt (n := 45) 78 dX0_leastFirst_42 rfl (by decide) (fun e => ?_) (fun e => ?_)
      · have := (pk_lLT (by omega) (by omega)).mp e
        omega
      refine j_aload_n0 (n := 46) dX0_leastFirst_45 rfl ?_
      refine j_iload4 (n := 48) dX0_leastFirst_46 rfl ?_
      refine j_i2l (n := 49) dX0_leastFirst_48 rfl ?_
      refine j_topl (lN gt) (nI_l (by omega)) ?_
      refine j_fnV1 (n := 52) (con_X0_partsSomeOrder m12 f5 f6 hn (by omega) f5b f6b) dX0_leastFirst_49 rfl cal_X0_partsSomeOrder ml_X0_46 (Nat.le_of_ble_eq_true rfl) (by first | decide | omega) rfl rfl (Nat.le_of_ble_eq_true rfl) (by first | assumption | rfl) ?_
      refine j_bif_eq (n := 55) 72 dX0_leastFirst_52 rfl (by decide) (fun e1 => ?_) (fun e1 => ?_)
      · exact no M2 hl (by unfold cfB; rw [e1]; rfl)
      have k1 : psB n t gt = true ∧ True := ⟨e1, trivial⟩
      clear e1
      refine j_aload_n0 (n := 56) dX0_leastFirst_55 rfl ?_
      refine j_get (n := 59) (k := 0) dX0_leastFirst_56 rfl jcl0 (Nat.le_of_ble_eq_true rfl) fl_X0_12 (by first | decide | omega) (by first | assumption | rfl) (by rfl) ?_
      refine j_iload_n1 (n := 60) dX0_leastFirst_59 rfl ?_
      refine j_iload4 (n := 62) dX0_leastFirst_60 rfl ?_
      refine j_i2l (n := 63) dX0_leastFirst_62 rfl ?_
      refine j_topl (lN gt) (nI_l (by omega)) ?_
      refine j_cV2 (n := 66) (con_X6_find (k := 13) m13 m14 (by decide) (by omega) (by omega)) dX0_leastFirst_63 rfl cal_X6_find ml_X0_50 (Nat.le_of_ble_eq_true rfl) (by first | decide | omega) rfl rfl (Nat.le_of_ble_eq_true rfl) (by first | assumption | rfl) ?_
      rintro _ M3 ⟨rfl, hM3⟩
      have hl3 : pJ g M M3 n t 96 := by
        rcases hM3 with ⟨_, rfl⟩ | ⟨_, f9, rfl, _⟩
        · exact hl
        · exact ⟨fun k z1 z2 z3 z4 z5 => (va_at_ne z1).trans (f1 k z1 z2 z3 z4 z5), ⟨f9, va_at_eq⟩, f3, f4, ⟨fz, f5, f5b⟩, fo, f6, f6b⟩
      refine j_bif_ne (n := 69) 72 dX0_leastFirst_66 rfl (by decide) (fun e2 => ?_) (fun e2 => ?_)
      rotate_left
      · refine j_iload4 (n := 71) dX0_leastFirst_69 rfl ?_
        refine j_iret dX0_leastFirst_71 rfl ?_
        have e3 : isG n gt = true := by simpa using e2
        have hz : cfB n t gt = true := by unfold cfB; rw [k1.1, e3]; rfl
        refine ⟨?_, wk hl3⟩
        unfold clI
        rw [if_pos (ff_yes hgt hz), ff_at hgt hz hno]
      · have e3 : isG n gt = false := by simpa using e2
        exact no M3 hl3 (by unfold cfB; rw [e3, Bool.and_false])
  have lp1 : ∀ k, k ≤ 96 → ∀ M2, pJ g M M2 n t k → J g jX0_leastFirst 4 (fun v M2 => v = some (.int (clI n t)) ∧ pJ g M M2 0 0 0) 3 [some (.ref (jA g 12)), some (.int (nI n)), some (.long (lN t)), none, some (.int (nI k))] [] M2 := by
    refine j_for ?_ ?_
    · intro M2 hl
      refine j_iload4 (n := 5) dX0_leastFirst_3 rfl ?_
      refine j_bipush (n := 7) (nI 96) dX0_leastFirst_5 rfl (by decide) ?_
      refine j_nicmp_ge (n := 10) 31 dX0_leastFirst_7 rfl (by decide) (by omega) (by omega) (fun h => ?_) (fun h => ?_)
      rotate_left
      · omega
      refine j_iconst (n := 32) (nI 0) dX0_leastFirst_31 rfl (by decide) ?_
      refine j_istore4 (n := 34) dX0_leastFirst_32 rfl (Nat.le_of_ble_eq_true rfl) rfl ?_
      exact lp2 0 (Nat.zero_le _) M2 hl (fun j hj => absurd hj (Nat.not_lt_zero j))
    · intro k hk ih M2 hl
      obtain ⟨f1, ⟨ff, f2⟩, ⟨lo, gz, f3⟩, ⟨fs, f4, f4b⟩, ⟨fz, f5, f5b⟩, fo, f6, f6b⟩ := id hl
      have m12 : M2 12 = .inr (0, oPair g) := (f1 12 (by decide) (by decide) (by decide) (by decide) (by decide)).trans h12
      refine j_iload4 (n := 5) dX0_leastFirst_3 rfl ?_
      refine j_bipush (n := 7) (nI 96) dX0_leastFirst_5 rfl (by decide) ?_
      refine j_nicmp_ge (n := 10) 31 dX0_leastFirst_7 rfl (by decide) (by omega) (by omega) (fun h => ?_) (fun h => ?_)
      · omega
      refine j_aload_n0 (n := 11) dX0_leastFirst_10 rfl ?_
      refine j_iload_n1 (n := 12) dX0_leastFirst_11 rfl ?_
      refine j_iload4 (n := 14) dX0_leastFirst_12 rfl ?_
      refine j_cV2 (n := 17) (con_X0_weighRows m12 f3 f4 f4b hn hk) dX0_leastFirst_14 rfl cal_X0_weighRows ml_X0_32 (Nat.le_of_ble_eq_true rfl) (by first | decide | omega) rfl rfl (Nat.le_of_ble_eq_true rfl) (by first | assumption | rfl) ?_
      rintro _ M3 ⟨rfl, fs2, rfl, hfs2⟩
      have n12 : va_up M2 16 (iA g 32 fs2) 12 = .inr (0, oPair g) := m12
      have n15 : va_up M2 16 (iA g 32 fs2) 15 = .inr (4, oSums g 16 lo gz) := f3
      have n17 : va_up M2 16 (iA g 32 fs2) 17 = lA g 96 fz := f5
      have n18 : va_up M2 16 (iA g 32 fs2) 18 = lA g 96 fo := f6
      refine j_aload_n0 (n := 18) dX0_leastFirst_17 rfl ?_
      refine j_iload_n1 (n := 19) dX0_leastFirst_18 rfl ?_
      refine j_lload_n2 (n := 20) dX0_leastFirst_19 rfl ?_
      refine j_iload4 (n := 22) dX0_leastFirst_20 rfl ?_
      refine j_cV3 (n := 25) (con_X0_findWrongRows n12 n15 va_at_eq n17 n18 hn (by omega) hk hfs2) dX0_leastFirst_22 rfl cal_X0_findWrongRows ml_X0_36 (Nat.le_of_ble_eq_true rfl) (by first | decide | omega) rfl rfl (Nat.le_of_ble_eq_true rfl) (by first | assumption | rfl) ?_
      rintro _ M4 ⟨rfl, lo2, gz2, fz2, fo2, rfl, w1, w2, w3, w4⟩
      refine j_inc4 (n := 28) dX0_leastFirst_25 rfl (Nat.le_of_ble_eq_true rfl) rfl ?_
      refine j_goto 3 dX0_leastFirst_28 (by decide) ?_
      refine ih _ ⟨fun j z1 z2 z3 z4 z5 => ?_, ⟨ff, f2⟩, ⟨lo2, gz2, rfl⟩, ⟨fs2, rfl, ?_⟩, ⟨fz2, rfl, fun j hj => ?_⟩, fo2, rfl, fun j hj => ?_⟩
      · rw [WM_k z2 z4 z5, va_at_ne z3]
        exact f1 j z1 z2 z3 z4 z5
      · rw [hfs2 0 hpn, rsum_0]
      · rcases Nat.eq_or_lt_of_le (show j ≤ k by omega) with y | y
        · rw [y]; exact w1
        · exact (w3 j (by omega)).trans (f5b j y)
      · rcases Nat.eq_or_lt_of_le (show j ≤ k by omega) with y | y
        · rw [y]; exact w2
        · exact (w4 j (by omega)).trans (f6b j y)
  refine lp1 0 (Nat.zero_le _) M ?_
  obtain ⟨f1, f2, f3, f4, ⟨fz, f5, _⟩, fo, f6, _⟩ := p0
  exact ⟨f1, f2, f3, f4, ⟨fz, f5, fun j hj => absurd hj (Nat.not_lt_zero j)⟩, fo, f6, fun j hj => absurd hj (Nat.not_lt_zero j)⟩
