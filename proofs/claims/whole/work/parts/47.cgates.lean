theorem slE_half {n r : Nat} {w : Nat → Int} {b : Int} (hc : 0 < cnt 32 r.testBit) : slE n w b r = ((1000 * (rsum w r n - b) + 500).natAbs - 1) / cnt 32 r.testBit := by
  unfold slE
  rw [← Nat.div_div_eq_div_mul]
  congr 1
  omega
set_option maxRecDepth 100000 in
theorem con_X2_thousandthsOff {g : jG} {M : jMem} {n : Nat} {B : Int} {sz lo gz : Int32} {bits : Int64} {sm : Nat → Int32} {w : Nat → Int} (h1 : 1 ≤ n) (hn : n ≤ 5) (h5 : M 5 = .inr (2, oLeast g (iI B) sz (nI n) bits)) (h9 : M 9 = .inr (4, oSums g 10 lo gz)) (h10 : M 10 = iA g 32 sm) (hsm : ∀ j, j < 2 ^ n → sm j = iI (rsum w j n)) (hx : ∀ r, -900 ≤ rsum w r n ∧ rsum w r n ≤ 900) (hB : -1000 ≤ B ∧ B ≤ 1000) : Fn g jX2_thousandthsOff 1 [.ref (jA g 5)] M (.int (nI (slM n w B (2 ^ n - 1)))) := by
  have hp := pw5 hn
  have hp2 : 0 < 2 ^ n := Nat.two_pow_pos n
  refine con_of (l := [some (.ref (jA g 5)), none, none, none, none]) (by decide) (Nat.le_of_ble_eq_true rfl) rfl ?_
  refine j_sipush (n := 3) (nI 1000) dX2_thousandthsOff_0 rfl (by decide) ?_
  refine j_istore_n1 (n := 4) dX2_thousandthsOff_3 rfl (Nat.le_of_ble_eq_true rfl) rfl ?_
  refine j_iconst (n := 5) (nI 1) dX2_thousandthsOff_4 rfl (by decide) ?_
  refine j_istore_n2 (n := 6) dX2_thousandthsOff_5 rfl (Nat.le_of_ble_eq_true rfl) rfl ?_
  have key : ∀ k, k ≤ 2 ^ n - 1 → ∀ x3 x4 : Option Value, jNL x3 = true → J g jX2_thousandthsOff 1 (fun v M2 => v = some (.int (nI (slM n w B (2 ^ n - 1)))) ∧ M2 = M) 6 [some (.ref (jA g 5)), some (.int (nI (slM n w B k))), some (.int (nI (k + 1))), x3, x4] [] M := by
    refine j_for ?_ ?_
    · intro x3 x4 hx3
      refine j_iload_n2 (n := 7) dX2_thousandthsOff_6 rfl ?_
      refine j_aload_n0 (n := 8) dX2_thousandthsOff_7 rfl ?_
      refine j_get (n := 11) (k := 3) dX2_thousandthsOff_8 rfl jcl2 (Nat.le_of_ble_eq_true rfl) fl_X2_28 (by first | decide | omega) (by first | assumption | rfl) (by rfl) ?_
      refine j_fnS1 (n := 14) (con_X5_number (by omega)) dX2_thousandthsOff_11 rfl cal_X5_number ml_X2_101 (Nat.le_of_ble_eq_true rfl) (Nat.le_of_ble_eq_true rfl) ?_
      refine j_nicmp_ge (n := 17) 71 dX2_thousandthsOff_14 rfl (by decide) (by omega) (by omega) (fun h => ?_) (fun h => ?_)
      rotate_left
      · omega
      refine j_iload_n1 (n := 72) dX2_thousandthsOff_71 rfl ?_
      refine j_iret dX2_thousandthsOff_72 rfl ?_
      exact ⟨rfl, rfl⟩
    · intro k hk ih x3 x4 hx3
      have hxr := hx (k + 1)
      have hcp := cnt_pos (k + 1) (by omega) (by omega)
      have hml := slM_le (n := n) (w := w) (b := B) k
      refine j_iload_n2 (n := 7) dX2_thousandthsOff_6 rfl ?_
      refine j_aload_n0 (n := 8) dX2_thousandthsOff_7 rfl ?_
      refine j_get (n := 11) (k := 3) dX2_thousandthsOff_8 rfl jcl2 (Nat.le_of_ble_eq_true rfl) fl_X2_28 (by first | decide | omega) (by first | assumption | rfl) (by rfl) ?_
      refine j_fnS1 (n := 14) (con_X5_number (by omega)) dX2_thousandthsOff_11 rfl cal_X5_number ml_X2_101 (Nat.le_of_ble_eq_true rfl) (Nat.le_of_ble_eq_true rfl) ?_
      refine j_nicmp_ge (n := 17) 71 dX2_thousandthsOff_14 rfl (by decide) (by omega) (by omega) (fun h => ?_) (fun h => ?_)
      · omega
      refine j_sipush (n := 20) (nI 1000) dX2_thousandthsOff_17 rfl (by decide) ?_
      refine j_aload_n0 (n := 21) dX2_thousandthsOff_20 rfl ?_
      refine j_get (n := 24) (k := 7) dX2_thousandthsOff_21 rfl jcl2 (Nat.le_of_ble_eq_true rfl) fl_X2_24 (by first | decide | omega) (by first | assumption | rfl) (by rfl) ?_
      refine j_get (n := 27) (k := 0) dX2_thousandthsOff_24 rfl jcl4 (Nat.le_of_ble_eq_true rfl) fl_X2_104 (by first | decide | omega) (by first | assumption | rfl) (by rfl) ?_
      refine j_iload_n2 (n := 28) dX2_thousandthsOff_27 rfl ?_
      refine j_iald_n (n := 29) dX2_thousandthsOff_28 rfl (by first | decide | omega) (by first | assumption | rfl) (by decide) (by first | assumption | omega) ?_
      rw [hsm (k + 1) (by omega)]
      refine j_aload_n0 (n := 30) dX2_thousandthsOff_29 rfl ?_
      refine j_get (n := 33) (k := 1) dX2_thousandthsOff_30 rfl jcl2 (Nat.le_of_ble_eq_true rfl) fl_X2_98 (by first | decide | omega) (by first | assumption | rfl) (by rfl) ?_
      refine j_isub (n := 34) dX2_thousandthsOff_33 rfl ?_
      refine j_imul (n := 35) dX2_thousandthsOff_34 rfl ?_
      refine j_sipush (n := 38) (nI 500) dX2_thousandthsOff_35 rfl (by decide) ?_
      refine j_iadd (n := 39) dX2_thousandthsOff_38 rfl ?_
      obtain ⟨y, hy⟩ : ∃ y, y = 1000 * (rsum w (k + 1) n - B) + 500 := ⟨_, rfl⟩
      refine j_topi (iI y) ?_ ?_
      · rw [← iI_nat, ← iI_nat, iI_sub, iI_mul, iI_add, hy]
        rfl
      refine j_mabs (n := 42) dX2_thousandthsOff_39 rfl ml_X2_63 mw_abs (Nat.le_of_ble_eq_true rfl) (Nat.le_of_ble_eq_true rfl) ?_
      refine j_topi _ (iI_abs (by omega)) ?_
      refine j_istore_n3 (n := 43) dX2_thousandthsOff_42 rfl (Nat.le_of_ble_eq_true rfl) rfl ?_
      refine j_iload_n2 (n := 44) dX2_thousandthsOff_43 rfl ?_
      refine j_fnS1 (n := 47) (con_J6_bitCount_0f7a4 (by omega)) dX2_thousandthsOff_44 rfl cal_J6_bitCount_0f7a4 ml_X2_107 (Nat.le_of_ble_eq_true rfl) (Nat.le_of_ble_eq_true rfl) ?_
      refine j_istore4 (n := 49) dX2_thousandthsOff_47 rfl (Nat.le_of_ble_eq_true rfl) rfl ?_
      refine j_iload4 (n := 51) dX2_thousandthsOff_49 rfl ?_
      refine j_if_le (n := 54) 65 dX2_thousandthsOff_51 rfl (by decide) (fun e => ?_) (fun e => ?_)
      · have := (nI_leI (b := 0) (by omega) (by omega)).mp e
        omega
      refine j_iload_n1 (n := 55) dX2_thousandthsOff_54 rfl ?_
      refine j_iload_n3 (n := 56) dX2_thousandthsOff_55 rfl ?_
      refine j_iconst (n := 57) (nI 1) dX2_thousandthsOff_56 rfl (by decide) ?_
      refine j_isub (n := 58) dX2_thousandthsOff_57 rfl ?_
      refine j_topi (nI (y.natAbs - 1)) (pk_sub (by omega)) ?_
      refine j_iload4 (n := 60) dX2_thousandthsOff_58 rfl ?_
      refine j_idiv (n := 61) dX2_thousandthsOff_60 rfl (nI_ne0 (by omega) (by omega)) ?_
      have hE : slE n w B (k + 1) = (y.natAbs - 1) / cnt 32 (k + 1).testBit := by rw [slE_half hcp.1, hy]
      refine j_topi (nI (slE n w B (k + 1))) (by rw [pk_div (by omega) (by omega) (by omega), hE]) ?_
      have hle : slE n w B (k + 1) ≤ y.natAbs - 1 := by rw [hE]; exact Nat.div_le_self _ _
      refine j_mmin (n := 64) dX2_thousandthsOff_61 rfl ml_X2_111 mw_min (Nat.le_of_ble_eq_true rfl) (Nat.le_of_ble_eq_true rfl) ?_
      have em : (if nI (slE n w B (k + 1)) < nI (slM n w B k) then nI (slE n w B (k + 1)) else nI (slM n w B k)) = nI (slM n w B (k + 1)) := by
        have e0 : slM n w B (k + 1) = if slE n w B (k + 1) < slM n w B k then slE n w B (k + 1) else slM n w B k := rfl
        rw [e0]
        by_cases z : slE n w B (k + 1) < slM n w B k
        · rw [if_pos z, if_pos ((nI_ltI (by omega) (by omega)).mpr z)]
        · rw [if_neg z, if_neg (fun q => z ((nI_ltI (by omega) (by omega)).mp q))]
      refine j_topi _ em ?_
      refine j_istore_n1 (n := 65) dX2_thousandthsOff_64 rfl (Nat.le_of_ble_eq_true rfl) rfl ?_
      refine j_inc2 (n := 68) dX2_thousandthsOff_65 rfl (Nat.le_of_ble_eq_true rfl) rfl ?_
      refine j_goto 6 dX2_thousandthsOff_68 (by decide) ?_
      exact ih _ _ rfl
  exact key 0 (Nat.zero_le _) none none rfl
/-- the class's own proof of a table that is no gate -/
def wsI (g : jG) (M : jMem) : Prop := M 3 = .inr (5, oWit g 4) ∧ ∃ f, M 4 = iA g 4 f
set_option maxRecDepth 100000 in
theorem con_X7_tellsGate {g : jG} {M : jMem} {sn sT : Nat → Nat} (h0 : M 0 = .inr (6, oX g)) (h1 : M 1 = iA g 8 fun j => nI (sn j)) (h2 : M 2 = lA g 8 fun j => lN (sT j)) (hw : wsI g M) (ok : slOK sn sT) {j : Nat} (hj : j < 8) : Con g jX7_tellsGate 4 [.ref (jA g 0), .int (nI j)] M (fun v M2 => v = some (.int (jB (isG (sn j) (sT j)))) ∧ wsI g M2 ∧ (∀ k, k ≠ 4 → M2 k = M k) ∧ (isG (sn j) (sT j) = false → ∃ f, M2 4 = iA g 4 f ∧ witF f (wA (sn j) (sT j)) (wB (sn j) (sT j) (wA (sn j) (sT j))) (wC (sn j) (sT j) (wA (sn j) (sT j)) (wB (sn j) (sT j) (wA (sn j) (sT j)))) (wD (sn j) (sT j) (wA (sn j) (sT j)) (wB (sn j) (sT j) (wA (sn j) (sT j)))))) := by
  obtain ⟨h3, f, h4⟩ := hw
  have b2 := ok j hj
  refine con_of (l := [some (.ref (jA g 0)), some (.int (nI j))]) (by decide) (Nat.le_of_ble_eq_true rfl) rfl ?_
  refine j_aload_n0 (n := 1) dX7_tellsGate_0 rfl ?_
  refine j_get (n := 4) (k := 2) dX7_tellsGate_1 rfl jcl6 (Nat.le_of_ble_eq_true rfl) fl_X7_20 (by first | decide | omega) (by first | assumption | rfl) (by rfl) ?_
  refine j_aload_n0 (n := 5) dX7_tellsGate_4 rfl ?_
  refine j_get (n := 8) (k := 0) dX7_tellsGate_5 rfl jcl6 (Nat.le_of_ble_eq_true rfl) fl_X7_9 (by first | decide | omega) (by first | assumption | rfl) (by rfl) ?_
  refine j_iload_n1 (n := 9) dX7_tellsGate_8 rfl ?_
  refine j_iald_n (n := 10) dX7_tellsGate_9 rfl (by first | decide | omega) (by first | assumption | rfl) (by decide) (by first | assumption | omega) ?_
  refine j_aload_n0 (n := 11) dX7_tellsGate_10 rfl ?_
  refine j_get (n := 14) (k := 1) dX7_tellsGate_11 rfl jcl6 (Nat.le_of_ble_eq_true rfl) fl_X7_13 (by first | decide | omega) (by first | assumption | rfl) (by rfl) ?_
  refine j_iload_n1 (n := 15) dX7_tellsGate_14 rfl ?_
  refine j_lald_n (n := 16) dX7_tellsGate_15 rfl (by first | decide | omega) (by first | assumption | rfl) (by decide) (by first | assumption | omega) ?_
  refine j_cV2 (n := 19) (con_X6_find (k := 3) h3 h4 (by omega) b2.2.1 (ok.b hj)) dX7_tellsGate_16 rfl cal_X6_find ml_X7_203 (Nat.le_of_ble_eq_true rfl) (by first | decide | omega) rfl rfl (Nat.le_of_ble_eq_true rfl) (by first | assumption | rfl) ?_
  rintro _ M2 ⟨rfl, hM2⟩
  rcases hM2 with ⟨e, rfl⟩ | ⟨e, f2, rfl, hf⟩
  · refine j_bif_ne (n := 22) 26 dX7_tellsGate_19 rfl (by decide) (fun z => ?_) (fun z => ?_)
    · rw [e] at z; cases z
    refine j_iconst (n := 23) (nI 1) dX7_tellsGate_22 rfl (by decide) ?_
    refine j_goto 27 dX7_tellsGate_23 (by decide) ?_
    exact j_ret1 e dX7_tellsGate_27 rfl ⟨rfl, ⟨h3, f, h4⟩, fun _ _ => rfl, fun z => by rw [e] at z; cases z⟩
  · refine j_bif_ne (n := 22) 26 dX7_tellsGate_19 rfl (by decide) (fun z => ?_) (fun z => ?_)
    rotate_left
    · rw [e] at z; cases z
    refine j_iconst (n := 27) (nI 0) dX7_tellsGate_26 rfl (by decide) ?_
    exact j_ret0 e dX7_tellsGate_27 rfl ⟨rfl, ⟨h3, f2, rfl⟩, fun k hk => va_at_ne hk, fun _ => ⟨f2, rfl, hf⟩⟩
/-- what the gate calls leave alone -/
def gFr (M M2 : jMem) : Prop := ∀ k, k < 3 ∨ 10 < k → M2 k = M k
theorem lsI_kept {g : jG} {M M2 : jMem} (h : ∀ k, 5 ≤ k → k ≤ 10 → M2 k = M k) (hl : lsI g M) : lsI g M2 := by
  unfold lsI at hl ⊢
  rw [h 5 (by omega) (by omega), h 6 (by omega) (by omega), h 7 (by omega) (by omega), h 8 (by omega) (by omega), h 9 (by omega) (by omega), h 10 (by omega) (by omega)]
  exact hl
set_option maxRecDepth 100000 in
theorem con_X7_findLeast {g : jG} {M : jMem} {sn sT : Nat → Nat} (h0 : M 0 = .inr (6, oX g)) (h1 : M 1 = iA g 8 fun j => nI (sn j)) (h2 : M 2 = lA g 8 fun j => lN (sT j)) (hw : wsI g M) (hl : lsI g M) (ok : slOK sn sT) {j : Nat} (hj : j < 8) : Con g jX7_findLeast 10 [.ref (jA g 0), .int (nI j)] M (fun v M2 => v = some (.int (jB (isG (sn j) (sT j)))) ∧ wsI g M2 ∧ lsI g M2 ∧ gFr M M2 ∧ (isG (sn j) (sT j) = true → lsOK g M2 (sn j) (sT j))) := by
  have b2 := ok j hj
  refine con_of (l := [some (.ref (jA g 0)), some (.int (nI j))]) (by decide) (Nat.le_of_ble_eq_true rfl) rfl ?_
  refine j_aload_n0 (n := 1) dX7_findLeast_0 rfl ?_
  refine j_iload_n1 (n := 2) dX7_findLeast_1 rfl ?_
  refine j_cV1 (n := 5) (con_X7_tellsGate h0 h1 h2 hw ok hj) dX7_findLeast_2 rfl cal_X7_tellsGate ml_X7_112 (Nat.le_of_ble_eq_true rfl) (by first | decide | omega) rfl rfl (Nat.le_of_ble_eq_true rfl) (by first | assumption | rfl) ?_
  rintro _ M2 ⟨rfl, w2, k2, -⟩
  have hl2 := lsI_kept (fun k q1 q2 => k2 k (by omega)) hl
  have g0 : M2 0 = .inr (6, oX g) := (k2 0 (by omega)).trans h0
  have g1 : M2 1 = iA g 8 fun j => nI (sn j) := (k2 1 (by omega)).trans h1
  have g2 : M2 2 = lA g 8 fun j => lN (sT j) := (k2 2 (by omega)).trans h2
  have m5 : ∃ fs, M2 5 = .inr (2, fs) := by obtain ⟨b, sz, nn, bits, wt, pl, fr, lo, gz, sm, q5, _⟩ := hl2; exact ⟨_, q5⟩
  obtain ⟨fs5, m5⟩ := m5
  refine j_bif_eq (n := 8) 34 dX7_findLeast_5 rfl (by decide) (fun e => ?_) (fun e => ?_)
  · refine j_iconst (n := 35) (nI 0) dX7_findLeast_34 rfl (by decide) ?_
    exact j_ret0 e dX7_findLeast_35 rfl ⟨rfl, w2, hl2, fun k hk => k2 k (by omega), fun z => by rw [e] at z; cases z⟩
  refine j_aload_n0 (n := 9) dX7_findLeast_8 rfl ?_
  refine j_get (n := 12) (k := 3) dX7_findLeast_9 rfl jcl6 (Nat.le_of_ble_eq_true rfl) fl_X7_27 (by first | decide | omega) (by first | assumption | rfl) (by rfl) ?_
  refine j_aload_n0 (n := 13) dX7_findLeast_12 rfl ?_
  refine j_get (n := 16) (k := 0) dX7_findLeast_13 rfl jcl6 (Nat.le_of_ble_eq_true rfl) fl_X7_9 (by first | decide | omega) (by first | assumption | rfl) (by rfl) ?_
  refine j_iload_n1 (n := 17) dX7_findLeast_16 rfl ?_
  refine j_iald_n (n := 18) dX7_findLeast_17 rfl (by first | decide | omega) (by first | assumption | rfl) (by decide) (by first | assumption | omega) ?_
  refine j_aload_n0 (n := 19) dX7_findLeast_18 rfl ?_
  refine j_get (n := 22) (k := 1) dX7_findLeast_19 rfl jcl6 (Nat.le_of_ble_eq_true rfl) fl_X7_13 (by first | decide | omega) (by first | assumption | rfl) (by rfl) ?_
  refine j_iload_n1 (n := 23) dX7_findLeast_22 rfl ?_
  refine j_lald_n (n := 24) dX7_findLeast_23 rfl (by first | decide | omega) (by first | assumption | rfl) (by decide) (by first | assumption | omega) ?_
  refine j_cV2 (n := 27) (con_X2_find b2.1 b2.2.1 b2.2.2 e hl2) dX7_findLeast_24 rfl cal_X2_find ml_X7_206 (Nat.le_of_ble_eq_true rfl) (by first | decide | omega) rfl rfl (Nat.le_of_ble_eq_true rfl) (by first | assumption | rfl) ?_
  rintro _ M3 ⟨rfl, l3, o3, k3⟩
  refine j_bif_eq (b := true) (n := 30) 34 dX7_findLeast_27 rfl (by decide) (fun z => (Bool.false_ne_true z.symm).elim) (fun _ => ?_)
  refine j_iconst (n := 31) (nI 1) dX7_findLeast_30 rfl (by decide) ?_
  refine j_goto 35 dX7_findLeast_31 (by decide) ?_
  refine j_ret1 e dX7_findLeast_35 rfl ⟨rfl, ⟨(k3 3 (by omega)).trans w2.1, ?_⟩, l3, fun k hk => (k3 k (by omega)).trans (k2 k (by omega)), fun _ => o3⟩
  obtain ⟨f, hf⟩ := w2.2
  exact ⟨f, (k3 4 (by omega)).trans hf⟩
/-- what a gate call leaves in the class -/
def gtI (g : jG) (M M2 : jMem) : Prop := wsI g M2 ∧ lsI g M2 ∧ gFr M M2
set_option maxRecDepth 100000 in
theorem con_X7_gate {g : jG} {M : jMem} {sn sT : Nat → Nat} (h0 : M 0 = .inr (6, oX g)) (h1 : M 1 = iA g 8 fun j => nI (sn j)) (h2 : M 2 = lA g 8 fun j => lN (sT j)) (hw : wsI g M) (hl : lsI g M) (ok : slOK sn sT) {s : Int32} : Con g jX7_gate 11 [.ref (jA g 0), .int s] M (fun v M2 => v = some (.int (sp_gate sn sT s)) ∧ gtI g M M2) := by
  refine con_of (l := [some (.ref (jA g 0)), some (.int s)]) (by decide) (Nat.le_of_ble_eq_true rfl) rfl ?_
  refine j_iload_n1 (n := 1) dX7_gate_0 rfl ?_
  refine j_fnS1 (n := 4) con_X7_isSlot dX7_gate_1 rfl cal_X7_isSlot ml_X7_58 (Nat.le_of_ble_eq_true rfl) (Nat.le_of_ble_eq_true rfl) ?_
  refine j_bif_ne (n := 7) 9 dX7_gate_4 rfl (by decide) (fun k1 => ?_) (fun k1 => ?_)
  rotate_left
  · refine j_iconst (n := 8) (-1) dX7_gate_7 rfl (by decide) ?_
    refine j_iret dX7_gate_8 rfl ?_
    exact ⟨by simp [sp_gate, k1], hw, hl, fun _ _ => rfl⟩
  obtain ⟨j, hj, rfl⟩ := isSl_of k1
  have c1 := nI_clamp (show j < 2 ^ 31 by omega)
  refine j_aload_n0 (n := 10) dX7_gate_9 rfl ?_
  refine j_iload_n1 (n := 11) dX7_gate_10 rfl ?_
  refine j_cV1 (n := 14) (con_X7_tellsGate h0 h1 h2 hw ok hj) dX7_gate_11 rfl cal_X7_tellsGate ml_X7_112 (Nat.le_of_ble_eq_true rfl) (by first | decide | omega) rfl rfl (Nat.le_of_ble_eq_true rfl) (by first | assumption | rfl) ?_
  rintro _ M2 ⟨rfl, w2, k2, -⟩
  have hI : gtI g M M2 := ⟨w2, lsI_kept (fun k q1 q2 => k2 k (by omega)) hl, fun k hk => k2 k (by omega)⟩
  refine j_bif_eq (n := 17) 21 dX7_gate_14 rfl (by decide) (fun e => ?_) (fun e => ?_)
  · refine j_iconst (n := 22) (nI 0) dX7_gate_21 rfl (by decide) ?_
    refine j_iret dX7_gate_22 rfl ?_
    exact ⟨by simp [sp_gate, k1, c1, e, jB]; rfl, hI⟩
  · refine j_iconst (n := 18) (nI 1) dX7_gate_17 rfl (by decide) ?_
    refine j_goto 22 dX7_gate_18 (by decide) ?_
    refine j_iret dX7_gate_22 rfl ?_
    exact ⟨by simp [sp_gate, k1, c1, e, jB]; rfl, hI⟩
set_option maxRecDepth 100000 in
theorem con_X7_weight {g : jG} {M : jMem} {sn sT : Nat → Nat} (h0 : M 0 = .inr (6, oX g)) (h1 : M 1 = iA g 8 fun j => nI (sn j)) (h2 : M 2 = lA g 8 fun j => lN (sT j)) (hw : wsI g M) (hl : lsI g M) (ok : slOK sn sT) {s i : Int32} : Con g jX7_weight 11 [.ref (jA g 0), .int s, .int i] M (fun v M2 => v = some (.int (sp_weight sn sT s i)) ∧ gtI g M M2) := by
  refine con_of (l := [some (.ref (jA g 0)), some (.int s), some (.int i)]) (by decide) (Nat.le_of_ble_eq_true rfl) rfl ?_
  refine j_aload_n0 (n := 1) dX7_weight_0 rfl ?_
  refine j_iload_n1 (n := 2) dX7_weight_1 rfl ?_
  refine j_iload_n2 (n := 3) dX7_weight_2 rfl ?_
  refine j_fnV2 (n := 6) (con_X7_isInput h0 h1) dX7_weight_3 rfl cal_X7_isInput ml_X7_90 (Nat.le_of_ble_eq_true rfl) (by first | decide | omega) rfl rfl (Nat.le_of_ble_eq_true rfl) (by first | assumption | rfl) ?_
  refine j_bif_ne (n := 9) 11 dX7_weight_6 rfl (by decide) (fun k => ?_) (fun k => ?_)
  rotate_left
  · refine j_iconst (n := 10) (-1) dX7_weight_9 rfl (by decide) ?_
    refine j_iret dX7_weight_10 rfl ?_
    refine ⟨?_, hw, hl, fun _ _ => rfl⟩
    cases k1 : isSl s with
    | false => simp [sp_weight, k1]
    | true => simp [k1] at k; simp [sp_weight, k1, k]
  have k1 : isSl s = true := by cases h : isSl s with
    | true => rfl
    | false => rw [h] at k; cases k
  obtain ⟨j, hj, rfl⟩ := isSl_of k1
  have c1 := nI_clamp (show j < 2 ^ 31 by omega)
  have b2 := ok j hj
  have k3 : isIn (sn j) i = true := by rw [k1, c1] at k; exact k
  obtain ⟨ii, hii, rfl⟩ := isIn_of b2.1 b2.2.1 k3
  have ci := nI_clamp (show ii < 2 ^ 31 by omega)
  refine j_aload_n0 (n := 12) dX7_weight_11 rfl ?_
  refine j_iload_n1 (n := 13) dX7_weight_12 rfl ?_
  refine j_cV1 (n := 16) (con_X7_findLeast h0 h1 h2 hw hl ok hj) dX7_weight_13 rfl cal_X7_findLeast ml_X7_115 (Nat.le_of_ble_eq_true rfl) (by first | decide | omega) rfl rfl (Nat.le_of_ble_eq_true rfl) (by first | assumption | rfl) ?_
  rintro _ M2 ⟨rfl, w2, l2, k2, o2⟩
  refine j_bif_eq (n := 19) 31 dX7_weight_16 rfl (by decide) (fun e => ?_) (fun e => ?_)
  · refine j_ldc (n := 33) dX7_weight_31 rfl cn_X7_89 ?_
    refine j_iret dX7_weight_33 rfl ?_
    exact ⟨by simp [sp_weight, k1, c1, k3, e], w2, l2, k2⟩
  obtain ⟨wt, lo, gz, sm, q5, q6, q7, q9, q10, q11⟩ := o2 e
  have g0 : M2 0 = .inr (6, oX g) := (k2 0 (by omega)).trans h0
  refine j_aload_n0 (n := 20) dX7_weight_19 rfl ?_
  refine j_get (n := 23) (k := 3) dX7_weight_20 rfl jcl6 (Nat.le_of_ble_eq_true rfl) fl_X7_27 (by first | decide | omega) (by first | assumption | rfl) (by rfl) ?_
  refine j_get (n := 26) (k := 0) dX7_weight_23 rfl jcl2 (Nat.le_of_ble_eq_true rfl) fl_X7_118 (by first | decide | omega) (by first | assumption | rfl) (by rfl) ?_
  refine j_iload_n2 (n := 27) dX7_weight_26 rfl ?_
  refine j_iald_n (n := 28) dX7_weight_27 rfl (by first | decide | omega) (by first | assumption | rfl) (by decide) (by first | assumption | omega) ?_
  refine j_goto 33 dX7_weight_28 (by decide) ?_
  refine j_iret dX7_weight_33 rfl ?_
  exact ⟨by simp [sp_weight, k1, c1, k3, ci, e]; exact q7 ii hii, w2, l2, k2⟩
set_option maxRecDepth 100000 in
theorem con_X7_bound {g : jG} {M : jMem} {sn sT : Nat → Nat} (h0 : M 0 = .inr (6, oX g)) (h1 : M 1 = iA g 8 fun j => nI (sn j)) (h2 : M 2 = lA g 8 fun j => lN (sT j)) (hw : wsI g M) (hl : lsI g M) (ok : slOK sn sT) {s : Int32} : Con g jX7_bound 11 [.ref (jA g 0), .int s] M (fun v M2 => v = some (.int (sp_bound sn sT s)) ∧ gtI g M M2) := by
  refine con_of (l := [some (.ref (jA g 0)), some (.int s)]) (by decide) (Nat.le_of_ble_eq_true rfl) rfl ?_
  refine j_iload_n1 (n := 1) dX7_bound_0 rfl ?_
  refine j_fnS1 (n := 4) con_X7_isSlot dX7_bound_1 rfl cal_X7_isSlot ml_X7_58 (Nat.le_of_ble_eq_true rfl) (Nat.le_of_ble_eq_true rfl) ?_
  refine j_bif_ne (n := 7) 9 dX7_bound_4 rfl (by decide) (fun k1 => ?_) (fun k1 => ?_)
  rotate_left
  · refine j_iconst (n := 8) (-1) dX7_bound_7 rfl (by decide) ?_
    refine j_iret dX7_bound_8 rfl ?_
    exact ⟨by simp [sp_bound, k1], hw, hl, fun _ _ => rfl⟩
  obtain ⟨j, hj, rfl⟩ := isSl_of k1
  have c1 := nI_clamp (show j < 2 ^ 31 by omega)
  refine j_aload_n0 (n := 10) dX7_bound_9 rfl ?_
  refine j_iload_n1 (n := 11) dX7_bound_10 rfl ?_
  refine j_cV1 (n := 14) (con_X7_findLeast h0 h1 h2 hw hl ok hj) dX7_bound_11 rfl cal_X7_findLeast ml_X7_115 (Nat.le_of_ble_eq_true rfl) (by first | decide | omega) rfl rfl (Nat.le_of_ble_eq_true rfl) (by first | assumption | rfl) ?_
  rintro _ M2 ⟨rfl, w2, l2, k2, o2⟩
  refine j_bif_eq (n := 17) 27 dX7_bound_14 rfl (by decide) (fun e => ?_) (fun e => ?_)
  · refine j_ldc (n := 29) dX7_bound_27 rfl cn_X7_89 ?_
    refine j_iret dX7_bound_29 rfl ?_
    exact ⟨by simp [sp_bound, k1, c1, e], w2, l2, k2⟩
  obtain ⟨wt, lo, gz, sm, q5, q6, q7, q9, q10, q11⟩ := o2 e
  have g0 : M2 0 = .inr (6, oX g) := (k2 0 (by omega)).trans h0
  refine j_aload_n0 (n := 18) dX7_bound_17 rfl ?_
  refine j_get (n := 21) (k := 3) dX7_bound_18 rfl jcl6 (Nat.le_of_ble_eq_true rfl) fl_X7_27 (by first | decide | omega) (by first | assumption | rfl) (by rfl) ?_
  refine j_get (n := 24) (k := 1) dX7_bound_21 rfl jcl2 (Nat.le_of_ble_eq_true rfl) fl_X7_121 (by first | decide | omega) (by first | assumption | rfl) (by rfl) ?_
  refine j_goto 29 dX7_bound_24 (by decide) ?_
  refine j_iret dX7_bound_29 rfl ?_
  exact ⟨by simp [sp_bound, k1, c1, e], w2, l2, k2⟩
set_option maxRecDepth 100000 in
theorem con_X7_size {g : jG} {M : jMem} {sn sT : Nat → Nat} (h0 : M 0 = .inr (6, oX g)) (h1 : M 1 = iA g 8 fun j => nI (sn j)) (h2 : M 2 = lA g 8 fun j => lN (sT j)) (hw : wsI g M) (hl : lsI g M) (ok : slOK sn sT) {s : Int32} : Con g jX7_size 11 [.ref (jA g 0), .int s] M (fun v M2 => v = some (.int (sp_size sn sT s)) ∧ gtI g M M2) := by
  refine con_of (l := [some (.ref (jA g 0)), some (.int s)]) (by decide) (Nat.le_of_ble_eq_true rfl) rfl ?_
  refine j_iload_n1 (n := 1) dX7_size_0 rfl ?_
  refine j_fnS1 (n := 4) con_X7_isSlot dX7_size_1 rfl cal_X7_isSlot ml_X7_58 (Nat.le_of_ble_eq_true rfl) (Nat.le_of_ble_eq_true rfl) ?_
  refine j_bif_ne (n := 7) 9 dX7_size_4 rfl (by decide) (fun k1 => ?_) (fun k1 => ?_)
  rotate_left
  · refine j_iconst (n := 8) (-1) dX7_size_7 rfl (by decide) ?_
    refine j_iret dX7_size_8 rfl ?_
    exact ⟨by simp [sp_size, k1], hw, hl, fun _ _ => rfl⟩
  obtain ⟨j, hj, rfl⟩ := isSl_of k1
  have c1 := nI_clamp (show j < 2 ^ 31 by omega)
  refine j_aload_n0 (n := 10) dX7_size_9 rfl ?_
  refine j_iload_n1 (n := 11) dX7_size_10 rfl ?_
  refine j_cV1 (n := 14) (con_X7_findLeast h0 h1 h2 hw hl ok hj) dX7_size_11 rfl cal_X7_findLeast ml_X7_115 (Nat.le_of_ble_eq_true rfl) (by first | decide | omega) rfl rfl (Nat.le_of_ble_eq_true rfl) (by first | assumption | rfl) ?_
  rintro _ M2 ⟨rfl, w2, l2, k2, o2⟩
  refine j_bif_eq (n := 17) 27 dX7_size_14 rfl (by decide) (fun e => ?_) (fun e => ?_)
  · refine j_ldc (n := 29) dX7_size_27 rfl cn_X7_89 ?_
    refine j_iret dX7_size_29 rfl ?_
    exact ⟨by simp [sp_size, k1, c1, e], w2, l2, k2⟩
  obtain ⟨wt, lo, gz, sm, q5, q6, q7, q9, q10, q11⟩ := o2 e
  have g0 : M2 0 = .inr (6, oX g) := (k2 0 (by omega)).trans h0
  refine j_aload_n0 (n := 18) dX7_size_17 rfl ?_
  refine j_get (n := 21) (k := 3) dX7_size_18 rfl jcl6 (Nat.le_of_ble_eq_true rfl) fl_X7_27 (by first | decide | omega) (by first | assumption | rfl) (by rfl) ?_
  refine j_get (n := 24) (k := 2) dX7_size_21 rfl jcl2 (Nat.le_of_ble_eq_true rfl) fl_X7_125 (by first | decide | omega) (by first | assumption | rfl) (by rfl) ?_
  refine j_goto 29 dX7_size_24 (by decide) ?_
  refine j_iret dX7_size_29 rfl ?_
  exact ⟨by simp [sp_size, k1, c1, e], w2, l2, k2⟩
set_option maxRecDepth 100000 in
theorem con_X7_witness {g : jG} {M : jMem} {sn sT : Nat → Nat} (h0 : M 0 = .inr (6, oX g)) (h1 : M 1 = iA g 8 fun j => nI (sn j)) (h2 : M 2 = lA g 8 fun j => lN (sT j)) (hw : wsI g M) (hl : lsI g M) (ok : slOK sn sT) {s i : Int32} : Con g jX7_witness 11 [.ref (jA g 0), .int s, .int i] M (fun v M2 => v = some (.int (sp_witness sn sT s i)) ∧ gtI g M M2) := by
  refine con_of (l := [some (.ref (jA g 0)), some (.int s), some (.int i)]) (by decide) (Nat.le_of_ble_eq_true rfl) rfl ?_
  refine j_iload_n1 (n := 1) dX7_witness_0 rfl ?_
  refine j_fnS1 (n := 4) con_X7_isSlot dX7_witness_1 rfl cal_X7_isSlot ml_X7_58 (Nat.le_of_ble_eq_true rfl) (Nat.le_of_ble_eq_true rfl) ?_
  refine j_bif_ne (n := 7) 9 dX7_witness_4 rfl (by decide) (fun k1 => ?_) (fun k1 => ?_)
  rotate_left
  · refine j_iconst (n := 8) (-1) dX7_witness_7 rfl (by decide) ?_
    refine j_iret dX7_witness_8 rfl ?_
    exact ⟨by simp [sp_witness, k1], hw, hl, fun _ _ => rfl⟩
  obtain ⟨j, hj, rfl⟩ := isSl_of k1
  have c1 := nI_clamp (show j < 2 ^ 31 by omega)
  refine j_iload_n2 (n := 10) dX7_witness_9 rfl ?_
  refine j_iconst (n := 11) (nI 0) dX7_witness_10 rfl (by decide) ?_
  refine j_iconst (n := 12) (nI 3) dX7_witness_11 rfl (by decide) ?_
  refine j_fnS3 (n := 15) con_X7_isWithin dX7_witness_12 rfl cal_X7_isWithin ml_X7_62 (Nat.le_of_ble_eq_true rfl) (Nat.le_of_ble_eq_true rfl) ?_
  rw [show decide (nI 0 ≤ i ∧ i ≤ nI 3) = is03 i from rfl]
  refine j_bif_ne (n := 18) 21 dX7_witness_15 rfl (by decide) (fun k3 => ?_) (fun k3 => ?_)
  rotate_left
  · refine j_bipush (n := 20) (-2) dX7_witness_18 rfl (by decide) ?_
    refine j_iret dX7_witness_20 rfl ?_
    exact ⟨by simp [sp_witness, k1, k3], hw, hl, fun _ _ => rfl⟩
  obtain ⟨ii, hii, rfl⟩ := is03_of k3
  have ci := nI_clamp (show ii < 2 ^ 31 by omega)
  refine j_aload_n0 (n := 22) dX7_witness_21 rfl ?_
  refine j_iload_n1 (n := 23) dX7_witness_22 rfl ?_
  refine j_cV1 (n := 26) (con_X7_tellsGate h0 h1 h2 hw ok hj) dX7_witness_23 rfl cal_X7_tellsGate ml_X7_112 (Nat.le_of_ble_eq_true rfl) (by first | decide | omega) rfl rfl (Nat.le_of_ble_eq_true rfl) (by first | assumption | rfl) ?_
  rintro _ M2 ⟨rfl, w2, k2, o2⟩
  have hI : gtI g M M2 := ⟨w2, lsI_kept (fun k q1 q2 => k2 k (by omega)) hl, fun k hk => k2 k (by omega)⟩
  refine j_bif_eq (n := 29) 34 dX7_witness_26 rfl (by decide) (fun e => ?_) (fun e => ?_)
  rotate_left
  · refine j_ldc (n := 31) dX7_witness_29 rfl cn_X7_89 ?_
    refine j_goto 43 dX7_witness_31 (by decide) ?_
    refine j_iret dX7_witness_43 rfl ?_
    exact ⟨by simp [sp_witness, k1, k3, c1, e], hI⟩
  obtain ⟨f, q4, qw⟩ := o2 e
  have g0 : M2 0 = .inr (6, oX g) := (k2 0 (by omega)).trans h0
  have g3 : M2 3 = .inr (5, oWit g 4) := w2.1
  refine j_aload_n0 (n := 35) dX7_witness_34 rfl ?_
  refine j_get (n := 38) (k := 2) dX7_witness_35 rfl jcl6 (Nat.le_of_ble_eq_true rfl) fl_X7_20 (by first | decide | omega) (by first | assumption | rfl) (by rfl) ?_
  refine j_get (n := 41) (k := 0) dX7_witness_38 rfl jcl5 (Nat.le_of_ble_eq_true rfl) fl_X7_128 (by first | decide | omega) (by first | assumption | rfl) (by rfl) ?_
  refine j_iload_n2 (n := 42) dX7_witness_41 rfl ?_
  refine j_iald_n (n := 43) dX7_witness_42 rfl (by first | decide | omega) (by first | assumption | rfl) (by decide) (by first | assumption | omega) ?_
  refine j_iret dX7_witness_43 rfl ?_
  exact ⟨by simp [sp_witness, k1, k3, c1, ci, e]; exact witF_at qw hii, hI⟩
set_option maxRecDepth 100000 in
theorem con_X7_slack {g : jG} {M : jMem} {sn sT : Nat → Nat} (h0 : M 0 = .inr (6, oX g)) (h1 : M 1 = iA g 8 fun j => nI (sn j)) (h2 : M 2 = lA g 8 fun j => lN (sT j)) (hw : wsI g M) (hl : lsI g M) (ok : slOK sn sT) {s : Int32} : Con g jX7_slack 11 [.ref (jA g 0), .int s] M (fun v M2 => v = some (.int (sp_slack sn sT s)) ∧ gtI g M M2) := by
  refine con_of (l := [some (.ref (jA g 0)), some (.int s)]) (by decide) (Nat.le_of_ble_eq_true rfl) rfl ?_
  refine j_iload_n1 (n := 1) dX7_slack_0 rfl ?_
  refine j_fnS1 (n := 4) con_X7_isSlot dX7_slack_1 rfl cal_X7_isSlot ml_X7_58 (Nat.le_of_ble_eq_true rfl) (Nat.le_of_ble_eq_true rfl) ?_
  refine j_bif_ne (n := 7) 9 dX7_slack_4 rfl (by decide) (fun k1 => ?_) (fun k1 => ?_)
  rotate_left
  · refine j_iconst (n := 8) (-1) dX7_slack_7 rfl (by decide) ?_
    refine j_iret dX7_slack_8 rfl ?_
    exact ⟨by simp [sp_slack, k1], hw, hl, fun _ _ => rfl⟩
  obtain ⟨j, hj, rfl⟩ := isSl_of k1
  have c1 := nI_clamp (show j < 2 ^ 31 by omega)
  have b2 := ok j hj
  refine j_aload_n0 (n := 10) dX7_slack_9 rfl ?_
  refine j_iload_n1 (n := 11) dX7_slack_10 rfl ?_
  refine j_cV1 (n := 14) (con_X7_findLeast h0 h1 h2 hw hl ok hj) dX7_slack_11 rfl cal_X7_findLeast ml_X7_115 (Nat.le_of_ble_eq_true rfl) (by first | decide | omega) rfl rfl (Nat.le_of_ble_eq_true rfl) (by first | assumption | rfl) ?_
  rintro _ M2 ⟨rfl, w2, l2, k2, o2⟩
  refine j_bif_eq (n := 17) 27 dX7_slack_14 rfl (by decide) (fun e => ?_) (fun e => ?_)
  · refine j_ldc (n := 29) dX7_slack_27 rfl cn_X7_89 ?_
    refine j_iret dX7_slack_29 rfl ?_
    exact ⟨by simp [sp_slack, k1, c1, e], w2, l2, k2⟩
  obtain ⟨wt, lo, gz, sm, q5, q6, q7, q9, q10, q11⟩ := o2 e
  have g0 : M2 0 = .inr (6, oX g) := (k2 0 (by omega)).trans h0
  have h16 := (lwS_LW (EX_all _ _ b2.1 b2.2.1 b2.2.2 e)).2
  have hx : ∀ r, -900 ≤ rsum (lwW (sn j) (sT j)) r (sn j) ∧ rsum (lwW (sn j) (sT j)) r (sn j) ≤ 900 := by
    intro r
    have := rsum_bd (w := lwW (sn j) (sT j)) (r := r) (m := 16) (by omega) (sn j) (fun k hk => wOf_bd (Nat.le_trans (sm_at hk) h16))
    omega
  refine j_aload_n0 (n := 18) dX7_slack_17 rfl ?_
  refine j_get (n := 21) (k := 3) dX7_slack_18 rfl jcl6 (Nat.le_of_ble_eq_true rfl) fl_X7_27 (by first | decide | omega) (by first | assumption | rfl) (by rfl) ?_
  refine j_fnV0 (n := 24) (con_X2_thousandthsOff b2.1 b2.2.1 q5 q9 q10 q11 hx (bndW_bd hx)) dX7_slack_21 rfl cal_X2_thousandthsOff ml_X7_131 (Nat.le_of_ble_eq_true rfl) (by first | decide | omega) rfl rfl (Nat.le_of_ble_eq_true rfl) (by first | assumption | rfl) ?_
  refine j_goto 29 dX7_slack_24 (by decide) ?_
  refine j_iret dX7_slack_29 rfl ?_
  exact ⟨by simp [sp_slack, k1, c1, e], w2, l2, k2⟩
