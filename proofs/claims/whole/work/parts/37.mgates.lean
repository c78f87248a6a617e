def EXall : Prop := ∀ n t, 1 ≤ n → n ≤ 5 → t < 2 ^ 2 ^ n → isG n t = true → EXg n t
/-- the least sizes of a gate -/
noncomputable def lwS (n t : Nat) : Nat → Nat := Classical.epsilon (fun s => LW n t s)
theorem lwS_eq {n t : Nat} {s : Nat → Nat} (h : LW n t s) : ∀ i, i < n → s i = lwS n t i := LW_one h (Classical.epsilon_spec (p := fun s => LW n t s) ⟨s, h⟩)
noncomputable def lwW (n t : Nat) : Nat → Int := wOf (fl n t) (lwS n t)
theorem lwW_eq {n t : Nat} {s : Nat → Nat} (h : LW n t s) : ∀ i, i < n → wOf (fl n t) s i = lwW n t i := fun i hi => wOf_cong rfl (lwS_eq h i hi)
theorem lwB_eq {n t : Nat} {s : Nat → Nat} (h : LW n t s) : bndW n t (wOf (fl n t) s) = bndW n t (lwW n t) := (sep_cong (lwW_eq h)).2
/-- what a call of the gates leaves in the reference -/
def solvedI (g : jG) (M M2 : jMem) (q : jMq) : Prop := ∃ q2, M2 34 = .inr (7, oMod g q2) ∧ q2.2.2.2.2 = q.2.2.2.2 ∧ mS g M2 ∧ sFr M M2 ∧ cInv g M2 q2
theorem solvedI.rf {g : jG} {M : jMem} {q : jMq} (h34 : M 34 = .inr (7, oMod g q)) (hm : mS g M) (hc : cInv g M q) : solvedI g M M q := ⟨q, h34, rfl, hm, sFr.rf, hc⟩
theorem solvedM.I {g : jG} {M M2 : jMem} {q : jMq} {n t : Nat} (h : solvedM g M M2 q n t) : solvedI g M M2 q := by
  obtain ⟨q2, a1, a2, a3, a4, a5, a6, a7, a8⟩ := h
  exact ⟨q2, a1, a4, a6, a7, a8⟩
def sp_gate (sn sT : Nat → Nat) (s : Int32) : Int32 := if isSl s = false then -1 else jB (isG (sn s.toNatClampNeg) (sT s.toNatClampNeg))
set_option maxRecDepth 100000 in
theorem con_X8_gate {g : jG} {M : jMem} {q : jMq} {sn sT : Nat → Nat} (hex : EXall) (h34 : M 34 = .inr (7, oMod g q)) (hm : mS g M) (hc : cInv g M q) (h35 : M 35 = iA g 8 fun j => nI (sn j)) (h36 : M 36 = lA g 8 fun j => lN (sT j)) (ok : slOK sn sT) {s : Int32} : Con g jX8_gate 5 [.ref (jA g 34), .int s] M (fun v M2 => v = some (.int (sp_gate sn sT s)) ∧ solvedI g M M2 q) := by
  refine con_of (l := [some (.ref (jA g 34)), some (.int s)]) (by decide) (Nat.le_of_ble_eq_true rfl) rfl ?_
  refine j_iload_n1 (n := 1) dX8_gate_0 rfl ?_
  refine j_fnS1 (n := 4) con_X8_isSlot dX8_gate_1 rfl cal_X8_isSlot ml_X8_88 (Nat.le_of_ble_eq_true rfl) (Nat.le_of_ble_eq_true rfl) ?_
  refine j_bif_ne (n := 7) 9 dX8_gate_4 rfl (by decide) (fun k1 => ?_) (fun k1 => ?_)
  rotate_left
  · refine j_iconst (n := 8) (-1) dX8_gate_7 rfl (by decide) ?_
    refine j_iret dX8_gate_8 rfl ?_
    exact ⟨by simp [sp_gate, k1], solvedI.rf h34 hm hc⟩
  obtain ⟨j, hj, rfl⟩ := isSl_of k1
  have c1 := nI_clamp (show j < 2 ^ 31 by omega)
  have b2 := ok j hj
  refine j_aload_n0 (n := 10) dX8_gate_9 rfl ?_
  refine j_aload_n0 (n := 11) dX8_gate_10 rfl ?_
  refine j_get (n := 14) (k := 1) dX8_gate_11 rfl jcl7 (Nat.le_of_ble_eq_true rfl) fl_X8_13 (by first | decide | omega) (by first | assumption | rfl) (by rfl) ?_
  refine j_iload_n1 (n := 15) dX8_gate_14 rfl ?_
  refine j_lald_n (n := 16) dX8_gate_15 rfl (by first | decide | omega) (by first | assumption | rfl) (by decide) (by first | assumption | omega) ?_
  refine j_aload_n0 (n := 17) dX8_gate_16 rfl ?_
  refine j_get (n := 20) (k := 0) dX8_gate_17 rfl jcl7 (Nat.le_of_ble_eq_true rfl) fl_X8_7 (by first | decide | omega) (by first | assumption | rfl) (by rfl) ?_
  refine j_iload_n1 (n := 21) dX8_gate_20 rfl ?_
  refine j_iald_n (n := 22) dX8_gate_21 rfl (by first | decide | omega) (by first | assumption | rfl) (by decide) (by first | assumption | omega) ?_
  refine j_cV2 (n := 25) (con_X8_solve h34 hm hc b2.1 b2.2.1 (ok.b hj) (hex _ _ b2.1 b2.2.1 b2.2.2)) dX8_gate_22 rfl cal_X8_solve ml_X8_160 (Nat.le_of_ble_eq_true rfl) (by first | decide | omega) rfl rfl (Nat.le_of_ble_eq_true rfl) (by first | assumption | rfl) ?_
  rintro _ M2 ⟨rfl, hsol⟩
  have hI := hsol.I
  obtain ⟨q2, a1, a2, a3, a4, a5, a6, a7, a8⟩ := hsol
  refine j_aload_n0 (n := 26) dX8_gate_25 rfl ?_
  refine j_get (n := 29) (k := 7) dX8_gate_26 rfl jcl7 (Nat.le_of_ble_eq_true rfl) fl_X8_142 (by first | decide | omega) (by first | assumption | rfl) (by rfl) ?_
  rw [a5.1]
  refine j_bif_eq (n := 32) 36 dX8_gate_29 rfl (by decide) (fun e => ?_) (fun e => ?_)
  · refine j_iconst (n := 37) (nI 0) dX8_gate_36 rfl (by decide) ?_
    refine j_iret dX8_gate_37 rfl ?_
    exact ⟨by simp [sp_gate, k1, c1, e]; rfl, hI⟩
  · refine j_iconst (n := 33) (nI 1) dX8_gate_32 rfl (by decide) ?_
    refine j_goto 37 dX8_gate_33 (by decide) ?_
    refine j_iret dX8_gate_37 rfl ?_
    exact ⟨by simp [sp_gate, k1, c1, e]; rfl, hI⟩
noncomputable def sp_weight (sn sT : Nat → Nat) (s i : Int32) : Int32 := if isSl s = false then -1 else if isIn (sn s.toNatClampNeg) i = false then -1 else if isG (sn s.toNatClampNeg) (sT s.toNatClampNeg) = true then iI (lwW (sn s.toNatClampNeg) (sT s.toNatClampNeg) i.toNatClampNeg) else -1000000
set_option maxRecDepth 100000 in
theorem con_X8_weight {g : jG} {M : jMem} {q : jMq} {sn sT : Nat → Nat} (hex : EXall) (h34 : M 34 = .inr (7, oMod g q)) (hm : mS g M) (hc : cInv g M q) (h35 : M 35 = iA g 8 fun j => nI (sn j)) (h36 : M 36 = lA g 8 fun j => lN (sT j)) (ok : slOK sn sT) {s i : Int32} : Con g jX8_weight 5 [.ref (jA g 34), .int s, .int i] M (fun v M2 => v = some (.int (sp_weight sn sT s i)) ∧ solvedI g M M2 q) := by
  refine con_of (l := [some (.ref (jA g 34)), some (.int s), some (.int i)]) (by decide) (Nat.le_of_ble_eq_true rfl) rfl ?_
  refine j_iload_n1 (n := 1) dX8_weight_0 rfl ?_
  refine j_fnS1 (n := 4) con_X8_isSlot dX8_weight_1 rfl cal_X8_isSlot ml_X8_88 (Nat.le_of_ble_eq_true rfl) (Nat.le_of_ble_eq_true rfl) ?_
  refine j_bif_eq (n := 7) 16 dX8_weight_4 rfl (by decide) (fun k1 => ?_) (fun k1 => ?_)
  · refine j_iconst (n := 17) (-1) dX8_weight_16 rfl (by decide) ?_
    refine j_iret dX8_weight_17 rfl ?_
    exact ⟨by simp [sp_weight, k1], solvedI.rf h34 hm hc⟩
  obtain ⟨j, hj, rfl⟩ := isSl_of k1
  have c1 := nI_clamp (show j < 2 ^ 31 by omega)
  have b2 := ok j hj
  refine j_aload_n0 (n := 8) dX8_weight_7 rfl ?_
  refine j_iload_n1 (n := 9) dX8_weight_8 rfl ?_
  refine j_iload_n2 (n := 10) dX8_weight_9 rfl ?_
  refine j_fnV2 (n := 13) (con_X8_isInput h34 h35 hj) dX8_weight_10 rfl cal_X8_isInput ml_X8_113 (Nat.le_of_ble_eq_true rfl) (by first | decide | omega) rfl rfl (Nat.le_of_ble_eq_true rfl) (by first | assumption | rfl) ?_
  refine j_bif_ne (n := 16) 18 dX8_weight_13 rfl (by decide) (fun k3 => ?_) (fun k3 => ?_)
  rotate_left
  · refine j_iconst (n := 17) (-1) dX8_weight_16 rfl (by decide) ?_
    refine j_iret dX8_weight_17 rfl ?_
    exact ⟨by simp [sp_weight, k1, c1, k3], solvedI.rf h34 hm hc⟩
  obtain ⟨ii, hii, rfl⟩ := isIn_of b2.1 b2.2.1 k3
  have ci := nI_clamp (show ii < 2 ^ 31 by omega)
  refine j_aload_n0 (n := 19) dX8_weight_18 rfl ?_
  refine j_aload_n0 (n := 20) dX8_weight_19 rfl ?_
  refine j_get (n := 23) (k := 1) dX8_weight_20 rfl jcl7 (Nat.le_of_ble_eq_true rfl) fl_X8_13 (by first | decide | omega) (by first | assumption | rfl) (by rfl) ?_
  refine j_iload_n1 (n := 24) dX8_weight_23 rfl ?_
  refine j_lald_n (n := 25) dX8_weight_24 rfl (by first | decide | omega) (by first | assumption | rfl) (by decide) (by first | assumption | omega) ?_
  refine j_aload_n0 (n := 26) dX8_weight_25 rfl ?_
  refine j_get (n := 29) (k := 0) dX8_weight_26 rfl jcl7 (Nat.le_of_ble_eq_true rfl) fl_X8_7 (by first | decide | omega) (by first | assumption | rfl) (by rfl) ?_
  refine j_iload_n1 (n := 30) dX8_weight_29 rfl ?_
  refine j_iald_n (n := 31) dX8_weight_30 rfl (by first | decide | omega) (by first | assumption | rfl) (by decide) (by first | assumption | omega) ?_
  refine j_cV2 (n := 34) (con_X8_solve h34 hm hc b2.1 b2.2.1 (ok.b hj) (hex _ _ b2.1 b2.2.1 b2.2.2)) dX8_weight_31 rfl cal_X8_solve ml_X8_160 (Nat.le_of_ble_eq_true rfl) (by first | decide | omega) rfl rfl (Nat.le_of_ble_eq_true rfl) (by first | assumption | rfl) ?_
  rintro _ M2 ⟨rfl, hsol⟩
  have hI := hsol.I
  obtain ⟨q2, a1, a2, a3, a4, a5, a6, a7, a8⟩ := hsol
  refine j_aload_n0 (n := 35) dX8_weight_34 rfl ?_
  refine j_get (n := 38) (k := 7) dX8_weight_35 rfl jcl7 (Nat.le_of_ble_eq_true rfl) fl_X8_142 (by first | decide | omega) (by first | assumption | rfl) (by rfl) ?_
  rw [a5.1]
  refine j_bif_eq (n := 41) 50 dX8_weight_38 rfl (by decide) (fun e => ?_) (fun e => ?_)
  · refine j_ldc (n := 52) dX8_weight_50 rfl cn_X8_112 ?_
    refine j_iret dX8_weight_52 rfl ?_
    exact ⟨by simp [sp_weight, k1, c1, k3, e], hI⟩
  · obtain ⟨sv, sz, wv, hL, h16, m40, hsz, m41, hwv, hb⟩ := a5.2.2 e
    refine j_aload_n0 (n := 42) dX8_weight_41 rfl ?_
    refine j_get (n := 45) (k := 9) dX8_weight_42 rfl jcl7 (Nat.le_of_ble_eq_true rfl) fl_X8_36 (by first | decide | omega) (by first | assumption | rfl) (by rfl) ?_
    refine j_iload_n2 (n := 46) dX8_weight_45 rfl ?_
    refine j_iald_n (n := 47) dX8_weight_46 rfl (by first | decide | omega) (by first | assumption | rfl) (by decide) (by first | assumption | omega) ?_
    rw [hwv ii hii, lwW_eq hL ii hii]
    refine j_goto 52 dX8_weight_47 (by decide) ?_
    refine j_iret dX8_weight_52 rfl ?_
    exact ⟨by simp [sp_weight, k1, c1, k3, e, ci], hI⟩
noncomputable def sp_bound (sn sT : Nat → Nat) (s : Int32) : Int32 := if isSl s = false then -1 else if isG (sn s.toNatClampNeg) (sT s.toNatClampNeg) = true then iI (bndW (sn s.toNatClampNeg) (sT s.toNatClampNeg) (lwW (sn s.toNatClampNeg) (sT s.toNatClampNeg))) else -1000000
set_option maxRecDepth 100000 in
theorem con_X8_bound {g : jG} {M : jMem} {q : jMq} {sn sT : Nat → Nat} (hex : EXall) (h34 : M 34 = .inr (7, oMod g q)) (hm : mS g M) (hc : cInv g M q) (h35 : M 35 = iA g 8 fun j => nI (sn j)) (h36 : M 36 = lA g 8 fun j => lN (sT j)) (ok : slOK sn sT) {s : Int32} : Con g jX8_bound 5 [.ref (jA g 34), .int s] M (fun v M2 => v = some (.int (sp_bound sn sT s)) ∧ solvedI g M M2 q) := by
  refine con_of (l := [some (.ref (jA g 34)), some (.int s)]) (by decide) (Nat.le_of_ble_eq_true rfl) rfl ?_
  refine j_iload_n1 (n := 1) dX8_bound_0 rfl ?_
  refine j_fnS1 (n := 4) con_X8_isSlot dX8_bound_1 rfl cal_X8_isSlot ml_X8_88 (Nat.le_of_ble_eq_true rfl) (Nat.le_of_ble_eq_true rfl) ?_
  refine j_bif_ne (n := 7) 9 dX8_bound_4 rfl (by decide) (fun k1 => ?_) (fun k1 => ?_)
  rotate_left
  · refine j_iconst (n := 8) (-1) dX8_bound_7 rfl (by decide) ?_
    refine j_iret dX8_bound_8 rfl ?_
    exact ⟨by simp [sp_bound, k1], solvedI.rf h34 hm hc⟩
  obtain ⟨j, hj, rfl⟩ := isSl_of k1
  have c1 := nI_clamp (show j < 2 ^ 31 by omega)
  have b2 := ok j hj
  refine j_aload_n0 (n := 10) dX8_bound_9 rfl ?_
  refine j_aload_n0 (n := 11) dX8_bound_10 rfl ?_
  refine j_get (n := 14) (k := 1) dX8_bound_11 rfl jcl7 (Nat.le_of_ble_eq_true rfl) fl_X8_13 (by first | decide | omega) (by first | assumption | rfl) (by rfl) ?_
  refine j_iload_n1 (n := 15) dX8_bound_14 rfl ?_
  refine j_lald_n (n := 16) dX8_bound_15 rfl (by first | decide | omega) (by first | assumption | rfl) (by decide) (by first | assumption | omega) ?_
  refine j_aload_n0 (n := 17) dX8_bound_16 rfl ?_
  refine j_get (n := 20) (k := 0) dX8_bound_17 rfl jcl7 (Nat.le_of_ble_eq_true rfl) fl_X8_7 (by first | decide | omega) (by first | assumption | rfl) (by rfl) ?_
  refine j_iload_n1 (n := 21) dX8_bound_20 rfl ?_
  refine j_iald_n (n := 22) dX8_bound_21 rfl (by first | decide | omega) (by first | assumption | rfl) (by decide) (by first | assumption | omega) ?_
  refine j_cV2 (n := 25) (con_X8_solve h34 hm hc b2.1 b2.2.1 (ok.b hj) (hex _ _ b2.1 b2.2.1 b2.2.2)) dX8_bound_22 rfl cal_X8_solve ml_X8_160 (Nat.le_of_ble_eq_true rfl) (by first | decide | omega) rfl rfl (Nat.le_of_ble_eq_true rfl) (by first | assumption | rfl) ?_
  rintro _ M2 ⟨rfl, hsol⟩
  have hI := hsol.I
  obtain ⟨q2, a1, a2, a3, a4, a5, a6, a7, a8⟩ := hsol
  refine j_aload_n0 (n := 26) dX8_bound_25 rfl ?_
  refine j_get (n := 29) (k := 7) dX8_bound_26 rfl jcl7 (Nat.le_of_ble_eq_true rfl) fl_X8_142 (by first | decide | omega) (by first | assumption | rfl) (by rfl) ?_
  rw [a5.1]
  refine j_bif_eq (n := 32) 39 dX8_bound_29 rfl (by decide) (fun e => ?_) (fun e => ?_)
  · refine j_ldc (n := 41) dX8_bound_39 rfl cn_X8_112 ?_
    refine j_iret dX8_bound_41 rfl ?_
    exact ⟨by simp [sp_bound, k1, c1, e], hI⟩
  · obtain ⟨sv, sz, wv, hL, h16, m40, hsz, m41, hwv, hb⟩ := a5.2.2 e
    refine j_aload_n0 (n := 33) dX8_bound_32 rfl ?_
    refine j_get (n := 36) (k := 10) dX8_bound_33 rfl jcl7 (Nat.le_of_ble_eq_true rfl) fl_X8_133 (by first | decide | omega) (by first | assumption | rfl) (by rfl) ?_
    rw [hb, lwB_eq hL]
    refine j_goto 41 dX8_bound_36 (by decide) ?_
    refine j_iret dX8_bound_41 rfl ?_
    exact ⟨by simp [sp_bound, k1, c1, e], hI⟩
noncomputable def sp_size (sn sT : Nat → Nat) (s : Int32) : Int32 := if isSl s = false then -1 else if isG (sn s.toNatClampNeg) (sT s.toNatClampNeg) = true then nI (fb_sm (lwS (sn s.toNatClampNeg) (sT s.toNatClampNeg)) (sn s.toNatClampNeg)) else -1000000
set_option maxRecDepth 100000 in
theorem con_X8_size {g : jG} {M : jMem} {q : jMq} {sn sT : Nat → Nat} (hex : EXall) (h34 : M 34 = .inr (7, oMod g q)) (hm : mS g M) (hc : cInv g M q) (h35 : M 35 = iA g 8 fun j => nI (sn j)) (h36 : M 36 = lA g 8 fun j => lN (sT j)) (ok : slOK sn sT) {s : Int32} : Con g jX8_size 5 [.ref (jA g 34), .int s] M (fun v M2 => v = some (.int (sp_size sn sT s)) ∧ solvedI g M M2 q) := by
  refine con_of (l := [some (.ref (jA g 34)), some (.int s), none, none]) (by decide) (Nat.le_of_ble_eq_true rfl) rfl ?_
  refine j_iload_n1 (n := 1) dX8_size_0 rfl ?_
  refine j_fnS1 (n := 4) con_X8_isSlot dX8_size_1 rfl cal_X8_isSlot ml_X8_88 (Nat.le_of_ble_eq_true rfl) (Nat.le_of_ble_eq_true rfl) ?_
  refine j_bif_ne (n := 7) 9 dX8_size_4 rfl (by decide) (fun k1 => ?_) (fun k1 => ?_)
  rotate_left
  · refine j_iconst (n := 8) (-1) dX8_size_7 rfl (by decide) ?_
    refine j_iret dX8_size_8 rfl ?_
    exact ⟨by simp [sp_size, k1], solvedI.rf h34 hm hc⟩
  obtain ⟨j, hj, rfl⟩ := isSl_of k1
  have c1 := nI_clamp (show j < 2 ^ 31 by omega)
  have b2 := ok j hj
  refine j_aload_n0 (n := 10) dX8_size_9 rfl ?_
  refine j_aload_n0 (n := 11) dX8_size_10 rfl ?_
  refine j_get (n := 14) (k := 1) dX8_size_11 rfl jcl7 (Nat.le_of_ble_eq_true rfl) fl_X8_13 (by first | decide | omega) (by first | assumption | rfl) (by rfl) ?_
  refine j_iload_n1 (n := 15) dX8_size_14 rfl ?_
  refine j_lald_n (n := 16) dX8_size_15 rfl (by first | decide | omega) (by first | assumption | rfl) (by decide) (by first | assumption | omega) ?_
  refine j_aload_n0 (n := 17) dX8_size_16 rfl ?_
  refine j_get (n := 20) (k := 0) dX8_size_17 rfl jcl7 (Nat.le_of_ble_eq_true rfl) fl_X8_7 (by first | decide | omega) (by first | assumption | rfl) (by rfl) ?_
  refine j_iload_n1 (n := 21) dX8_size_20 rfl ?_
  refine j_iald_n (n := 22) dX8_size_21 rfl (by first | decide | omega) (by first | assumption | rfl) (by decide) (by first | assumption | omega) ?_
  refine j_cV2 (n := 25) (con_X8_solve h34 hm hc b2.1 b2.2.1 (ok.b hj) (hex _ _ b2.1 b2.2.1 b2.2.2)) dX8_size_22 rfl cal_X8_solve ml_X8_160 (Nat.le_of_ble_eq_true rfl) (by first | decide | omega) rfl rfl (Nat.le_of_ble_eq_true rfl) (by first | assumption | rfl) ?_
  rintro _ M2 ⟨rfl, hsol⟩
  have hI := hsol.I
  obtain ⟨q2, a1, a2, a3, a4, a5, a6, a7, a8⟩ := hsol
  obtain ⟨th, hf, wt, sz, wv, m37, m38, m39, m40, m41⟩ := a6
  have m35 : M2 35 = iA g 8 fun j => nI (sn j) := (a7 35 (by decide) (by decide) (by decide) (by decide) (by decide) (by decide)).trans h35
  refine j_iconst (n := 26) (nI 0) dX8_size_25 rfl (by decide) ?_
  refine j_istore_n2 (n := 27) dX8_size_26 rfl (Nat.le_of_ble_eq_true rfl) rfl ?_
  refine j_iconst (n := 28) (nI 0) dX8_size_27 rfl (by decide) ?_
  refine j_istore_n3 (n := 29) dX8_size_28 rfl (Nat.le_of_ble_eq_true rfl) rfl ?_
  cases e : isG (sn j) (sT j) with
  | false =>
    have key : ∀ i, i ≤ sn j → ∀ z : Int32, J g jX8_size 5 (fun v M2 => v = some (.int (sp_size sn sT (nI j))) ∧ solvedI g M M2 q) 29 [some (.ref (jA g 34)), some (.int (nI j)), some (.int z), some (.int (nI i))] [] M2 := by
      refine j_for ?_ ?_
      · intro z
        refine j_iload_n3 (n := 30) dX8_size_29 rfl ?_
        refine j_aload_n0 (n := 31) dX8_size_30 rfl ?_
        refine j_get (n := 34) (k := 0) dX8_size_31 rfl jcl7 (Nat.le_of_ble_eq_true rfl) fl_X8_7 (by first | decide | omega) (by first | assumption | rfl) (by rfl) ?_
        refine j_iload_n1 (n := 35) dX8_size_34 rfl ?_
        refine j_iald_n (n := 36) dX8_size_35 rfl (by first | decide | omega) (by first | assumption | rfl) (by decide) (by first | assumption | omega) ?_
        refine j_nicmp_ge (n := 39) 54 dX8_size_36 rfl (by decide) (by omega) (by omega) (fun h => ?_) (fun h => ?_)
        rotate_left
        · omega
        refine j_aload_n0 (n := 55) dX8_size_54 rfl ?_
        refine j_get (n := 58) (k := 7) dX8_size_55 rfl jcl7 (Nat.le_of_ble_eq_true rfl) fl_X8_142 (by first | decide | omega) (by first | assumption | rfl) (by rfl) ?_
        rw [a5.1, e]
        refine j_bif_eq (n := 61) 65 dX8_size_58 rfl (by decide) (fun e2 => ?_) (fun e2 => ?_)
        rotate_left
        · cases e2
        refine j_ldc (n := 67) dX8_size_65 rfl cn_X8_112 ?_
        refine j_iret dX8_size_67 rfl ?_
        exact ⟨by simp [sp_size, k1, c1, e], hI⟩
      · intro i hi ih z
        refine j_iload_n3 (n := 30) dX8_size_29 rfl ?_
        refine j_aload_n0 (n := 31) dX8_size_30 rfl ?_
        refine j_get (n := 34) (k := 0) dX8_size_31 rfl jcl7 (Nat.le_of_ble_eq_true rfl) fl_X8_7 (by first | decide | omega) (by first | assumption | rfl) (by rfl) ?_
        refine j_iload_n1 (n := 35) dX8_size_34 rfl ?_
        refine j_iald_n (n := 36) dX8_size_35 rfl (by first | decide | omega) (by first | assumption | rfl) (by decide) (by first | assumption | omega) ?_
        refine j_nicmp_ge (n := 39) 54 dX8_size_36 rfl (by decide) (by omega) (by omega) (fun h => ?_) (fun h => ?_)
        · omega
        refine j_iload_n2 (n := 40) dX8_size_39 rfl ?_
        refine j_aload_n0 (n := 41) dX8_size_40 rfl ?_
        refine j_get (n := 44) (k := 8) dX8_size_41 rfl jcl7 (Nat.le_of_ble_eq_true rfl) fl_X8_33 (by first | decide | omega) (by first | assumption | rfl) (by rfl) ?_
        refine j_iload_n3 (n := 45) dX8_size_44 rfl ?_
        refine j_iald_n (n := 46) dX8_size_45 rfl (by first | decide | omega) (by first | assumption | rfl) (by decide) (by first | assumption | omega) ?_
        refine j_iadd (n := 47) dX8_size_46 rfl ?_
        refine j_istore_n2 (n := 48) dX8_size_47 rfl (Nat.le_of_ble_eq_true rfl) rfl ?_
        refine j_inc3 (n := 51) dX8_size_48 rfl (Nat.le_of_ble_eq_true rfl) rfl ?_
        refine j_goto 29 dX8_size_51 (by decide) ?_
        exact ih _
    exact key 0 (Nat.zero_le _) _
  | true =>
    obtain ⟨sv, sz2, wv2, hL, h16, n40, hsz, n41, hwv, hb⟩ := a5.2.2 e
    have key : ∀ i, i ≤ sn j → J g jX8_size 5 (fun v M2 => v = some (.int (sp_size sn sT (nI j))) ∧ solvedI g M M2 q) 29 [some (.ref (jA g 34)), some (.int (nI j)), some (.int (nI (fb_sm sv i))), some (.int (nI i))] [] M2 := by
      refine j_for ?_ ?_
      · refine j_iload_n3 (n := 30) dX8_size_29 rfl ?_
        refine j_aload_n0 (n := 31) dX8_size_30 rfl ?_
        refine j_get (n := 34) (k := 0) dX8_size_31 rfl jcl7 (Nat.le_of_ble_eq_true rfl) fl_X8_7 (by first | decide | omega) (by first | assumption | rfl) (by rfl) ?_
        refine j_iload_n1 (n := 35) dX8_size_34 rfl ?_
        refine j_iald_n (n := 36) dX8_size_35 rfl (by first | decide | omega) (by first | assumption | rfl) (by decide) (by first | assumption | omega) ?_
        refine j_nicmp_ge (n := 39) 54 dX8_size_36 rfl (by decide) (by omega) (by omega) (fun h => ?_) (fun h => ?_)
        rotate_left
        · omega
        refine j_aload_n0 (n := 55) dX8_size_54 rfl ?_
        refine j_get (n := 58) (k := 7) dX8_size_55 rfl jcl7 (Nat.le_of_ble_eq_true rfl) fl_X8_142 (by first | decide | omega) (by first | assumption | rfl) (by rfl) ?_
        rw [a5.1, e]
        refine j_bif_eq (n := 61) 65 dX8_size_58 rfl (by decide) (fun e2 => ?_) (fun e2 => ?_)
        · cases e2
        refine j_iload_n2 (n := 62) dX8_size_61 rfl ?_
        refine j_goto 67 dX8_size_62 (by decide) ?_
        refine j_iret dX8_size_67 rfl ?_
        exact ⟨by simp [sp_size, k1, c1, e, fb_sm_cong (lwS_eq hL)], hI⟩
      · intro i hi ih
        refine j_iload_n3 (n := 30) dX8_size_29 rfl ?_
        refine j_aload_n0 (n := 31) dX8_size_30 rfl ?_
        refine j_get (n := 34) (k := 0) dX8_size_31 rfl jcl7 (Nat.le_of_ble_eq_true rfl) fl_X8_7 (by first | decide | omega) (by first | assumption | rfl) (by rfl) ?_
        refine j_iload_n1 (n := 35) dX8_size_34 rfl ?_
        refine j_iald_n (n := 36) dX8_size_35 rfl (by first | decide | omega) (by first | assumption | rfl) (by decide) (by first | assumption | omega) ?_
        refine j_nicmp_ge (n := 39) 54 dX8_size_36 rfl (by decide) (by omega) (by omega) (fun h => ?_) (fun h => ?_)
        · omega
        refine j_iload_n2 (n := 40) dX8_size_39 rfl ?_
        refine j_aload_n0 (n := 41) dX8_size_40 rfl ?_
        refine j_get (n := 44) (k := 8) dX8_size_41 rfl jcl7 (Nat.le_of_ble_eq_true rfl) fl_X8_33 (by first | decide | omega) (by first | assumption | rfl) (by rfl) ?_
        refine j_iload_n3 (n := 45) dX8_size_44 rfl ?_
        refine j_iald_n (n := 46) dX8_size_45 rfl (by decide) n40 (by decide) (by omega) ?_
        rw [hsz i hi]
        refine j_iadd (n := 47) dX8_size_46 rfl ?_
        refine j_topi (nI (fb_sm sv (i + 1))) (nI_add _ _) ?_
        refine j_istore_n2 (n := 48) dX8_size_47 rfl (Nat.le_of_ble_eq_true rfl) rfl ?_
        refine j_inc3 (n := 51) dX8_size_48 rfl (Nat.le_of_ble_eq_true rfl) rfl ?_
        refine j_goto 29 dX8_size_51 (by decide) ?_
        exact ih
    exact key 0 (Nat.zero_le _)
def witN (n t i : Nat) : Nat := if i = 0 then wA n t else if i = 1 then wB n t (wA n t) else if i = 2 then wC n t (wA n t) (wB n t (wA n t)) else wD n t (wA n t) (wB n t (wA n t))
theorem witF_at {f : Nat → Int32} {n t i : Nat} (h : witF f (wA n t) (wB n t (wA n t)) (wC n t (wA n t) (wB n t (wA n t))) (wD n t (wA n t) (wB n t (wA n t)))) (hi : i < 4) : f i = nI (witN n t i) := by
  obtain ⟨h0, h1, h2, h3⟩ := h
  match i, hi with
  | 0, _ => exact h0
  | 1, _ => exact h1
  | 2, _ => exact h2
  | 3, _ => exact h3
def is03 (i : Int32) : Bool := decide (0 ≤ i ∧ i ≤ 3)
theorem is03_of {i : Int32} (h : is03 i = true) : ∃ j : Nat, j < 4 ∧ i = nI j := by
  have h1 : 0 ≤ i ∧ i ≤ 3 := of_decide_eq_true h
  obtain ⟨j, hj, e⟩ := nI_of2 (M := 3) (n := 3) (by decide) (fun q => by have := h1.1; rw [fa_le] at this; rw [fa_lt] at q; omega) h1.2
  exact ⟨j, by omega, e⟩
def sp_witness (sn sT : Nat → Nat) (s i : Int32) : Int32 := if isSl s = false then -1 else if is03 i = false then -2 else if isG (sn s.toNatClampNeg) (sT s.toNatClampNeg) = true then -1000000 else nI (witN (sn s.toNatClampNeg) (sT s.toNatClampNeg) i.toNatClampNeg)
set_option maxRecDepth 100000 in
theorem con_X8_witness {g : jG} {M : jMem} {q : jMq} {sn sT : Nat → Nat} (hex : EXall) (h34 : M 34 = .inr (7, oMod g q)) (hm : mS g M) (hc : cInv g M q) (h35 : M 35 = iA g 8 fun j => nI (sn j)) (h36 : M 36 = lA g 8 fun j => lN (sT j)) (ok : slOK sn sT) {s i : Int32} : Con g jX8_witness 5 [.ref (jA g 34), .int s, .int i] M (fun v M2 => v = some (.int (sp_witness sn sT s i)) ∧ solvedI g M M2 q) := by
  refine con_of (l := [some (.ref (jA g 34)), some (.int s), some (.int i)]) (by decide) (Nat.le_of_ble_eq_true rfl) rfl ?_
  refine j_iload_n1 (n := 1) dX8_witness_0 rfl ?_
  refine j_fnS1 (n := 4) con_X8_isSlot dX8_witness_1 rfl cal_X8_isSlot ml_X8_88 (Nat.le_of_ble_eq_true rfl) (Nat.le_of_ble_eq_true rfl) ?_
  refine j_bif_ne (n := 7) 9 dX8_witness_4 rfl (by decide) (fun k1 => ?_) (fun k1 => ?_)
  rotate_left
  · refine j_iconst (n := 8) (-1) dX8_witness_7 rfl (by decide) ?_
    refine j_iret dX8_witness_8 rfl ?_
    exact ⟨by simp [sp_witness, k1], solvedI.rf h34 hm hc⟩
  obtain ⟨j, hj, rfl⟩ := isSl_of k1
  have c1 := nI_clamp (show j < 2 ^ 31 by omega)
  have b2 := ok j hj
  refine j_iload_n2 (n := 10) dX8_witness_9 rfl ?_
  refine j_i2l (n := 11) dX8_witness_10 rfl ?_
  refine j_lconst (n := 12) (lN 0) dX8_witness_11 rfl rfl ?_
  refine j_ldc2 (n := 15) dX8_witness_12 rfl cl_X8_163 ?_
  refine j_fnS3 (n := 18) con_X8_in dX8_witness_15 rfl cal_X8_in ml_X8_76 (Nat.le_of_ble_eq_true rfl) (Nat.le_of_ble_eq_true rfl) ?_
  have e5 : decide (lN 0 ≤ i.toInt64 ∧ i.toInt64 ≤ 3) = is03 i := by
    have w3 : (3 : Int64) = (3 : Int32).toInt64 := by decide
    rw [wide0, w3, wide_in]
    rfl
  rw [e5]
  refine j_bif_ne (n := 21) 24 dX8_witness_18 rfl (by decide) (fun k3 => ?_) (fun k3 => ?_)
  rotate_left
  · refine j_bipush (n := 23) (-2) dX8_witness_21 rfl (by decide) ?_
    refine j_iret dX8_witness_23 rfl ?_
    exact ⟨by simp [sp_witness, k1, k3], solvedI.rf h34 hm hc⟩
  obtain ⟨ii, hii, rfl⟩ := is03_of k3
  have ci := nI_clamp (show ii < 2 ^ 31 by omega)
  refine j_aload_n0 (n := 25) dX8_witness_24 rfl ?_
  refine j_aload_n0 (n := 26) dX8_witness_25 rfl ?_
  refine j_get (n := 29) (k := 1) dX8_witness_26 rfl jcl7 (Nat.le_of_ble_eq_true rfl) fl_X8_13 (by first | decide | omega) (by first | assumption | rfl) (by rfl) ?_
  refine j_iload_n1 (n := 30) dX8_witness_29 rfl ?_
  refine j_lald_n (n := 31) dX8_witness_30 rfl (by first | decide | omega) (by first | assumption | rfl) (by decide) (by first | assumption | omega) ?_
  refine j_aload_n0 (n := 32) dX8_witness_31 rfl ?_
  refine j_get (n := 35) (k := 0) dX8_witness_32 rfl jcl7 (Nat.le_of_ble_eq_true rfl) fl_X8_7 (by first | decide | omega) (by first | assumption | rfl) (by rfl) ?_
  refine j_iload_n1 (n := 36) dX8_witness_35 rfl ?_
  refine j_iald_n (n := 37) dX8_witness_36 rfl (by first | decide | omega) (by first | assumption | rfl) (by decide) (by first | assumption | omega) ?_
  refine j_cV2 (n := 40) (con_X8_solve h34 hm hc b2.1 b2.2.1 (ok.b hj) (hex _ _ b2.1 b2.2.1 b2.2.2)) dX8_witness_37 rfl cal_X8_solve ml_X8_160 (Nat.le_of_ble_eq_true rfl) (by first | decide | omega) rfl rfl (Nat.le_of_ble_eq_true rfl) (by first | assumption | rfl) ?_
  rintro _ M2 ⟨rfl, hsol⟩
  have hI := hsol.I
  obtain ⟨q2, a1, a2, a3, a4, a5, a6, a7, a8⟩ := hsol
  refine j_aload_n0 (n := 41) dX8_witness_40 rfl ?_
  refine j_get (n := 44) (k := 7) dX8_witness_41 rfl jcl7 (Nat.le_of_ble_eq_true rfl) fl_X8_142 (by first | decide | omega) (by first | assumption | rfl) (by rfl) ?_
  rw [a5.1]
  refine j_bif_eq (n := 47) 52 dX8_witness_44 rfl (by decide) (fun e => ?_) (fun e => ?_)
  · obtain ⟨wt, m39, hwt⟩ := a5.2.1 e
    refine j_aload_n0 (n := 53) dX8_witness_52 rfl ?_
    refine j_get (n := 56) (k := 4) dX8_witness_53 rfl jcl7 (Nat.le_of_ble_eq_true rfl) fl_X8_24 (by first | decide | omega) (by first | assumption | rfl) (by rfl) ?_
    refine j_iload_n2 (n := 57) dX8_witness_56 rfl ?_
    refine j_iald_n (n := 58) dX8_witness_57 rfl (by first | decide | omega) (by first | assumption | rfl) (by decide) (by first | assumption | omega) ?_
    rw [witF_at hwt hii]
    refine j_iret dX8_witness_58 rfl ?_
    exact ⟨by simp [sp_witness, k1, k3, c1, ci, e], hI⟩
  · refine j_ldc (n := 49) dX8_witness_47 rfl cn_X8_112 ?_
    refine j_goto 58 dX8_witness_49 (by decide) ?_
    refine j_iret dX8_witness_58 rfl ?_
    exact ⟨by simp [sp_witness, k1, k3, c1, e], hI⟩
/-- by how many thousandths a row lets the weights be off -/
def slE (n : Nat) (w : Nat → Int) (b : Int) (r : Nat) : Nat := (1000 * (2 * (rsum w r n - b) + 1).natAbs - 1) / (2 * cnt 32 r.testBit)
def slM (n : Nat) (w : Nat → Int) (b : Int) : Nat → Nat
  | 0 => 1000
  | k + 1 => if slE n w b (k + 1) < slM n w b k then slE n w b (k + 1) else slM n w b k
theorem slM_le {n : Nat} {w : Nat → Int} {b : Int} : ∀ k, slM n w b k ≤ 1000
  | 0 => Nat.le_refl _
  | k + 1 => by
    have := slM_le (n := n) (w := w) (b := b) k
    unfold slM
    split <;> omega
theorem slE_cong {n : Nat} {w w2 : Nat → Int} {b : Int} (h : ∀ i, i < n → w i = w2 i) (r : Nat) : slE n w b r = slE n w2 b r := by
  unfold slE
  rw [rsum_cong n h]
theorem slM_cong {n : Nat} {w w2 : Nat → Int} {b : Int} (h : ∀ i, i < n → w i = w2 i) : ∀ k, slM n w b k = slM n w2 b k
  | 0 => rfl
  | k + 1 => by
    unfold slM
    rw [slE_cong h, slM_cong h k]
noncomputable def sp_slack (sn sT : Nat → Nat) (s : Int32) : Int32 := if isSl s = false then -1 else if isG (sn s.toNatClampNeg) (sT s.toNatClampNeg) = true then nI (slM (sn s.toNatClampNeg) (lwW (sn s.toNatClampNeg) (sT s.toNatClampNeg)) (bndW (sn s.toNatClampNeg) (sT s.toNatClampNeg) (lwW (sn s.toNatClampNeg) (sT s.toNatClampNeg))) (2 ^ sn s.toNatClampNeg - 1)) else -1000000
theorem bndW_bd {n t : Nat} {w : Nat → Int} (hx : ∀ r, -900 ≤ rsum w r n ∧ rsum w r n ≤ 900) : -1000 ≤ bndW n t w ∧ bndW n t w ≤ 1000 := by
  have b2 := mHi_bd (t := t) (x := fun r => rsum w r n) (2 ^ n) (fun j _ => hx j)
  have b3 := mLe_bd (x := fun r => rsum w r n) (2 ^ n) (fun j _ => hx j)
  unfold bndW
  split <;> omega
theorem cnt_pos : ∀ r, r < 32 → 0 < r → 0 < cnt 32 r.testBit ∧ cnt 32 r.testBit ≤ 5 := by decide +kernel
set_option maxRecDepth 100000 in
set_option maxHeartbeats 1000000 in
theorem con_X8_slack {g : jG} {M : jMem} {q : jMq} {sn sT : Nat → Nat} (hex : EXall) (h34 : M 34 = .inr (7, oMod g q)) (hm : mS g M) (hc : cInv g M q) (h35 : M 35 = iA g 8 fun j => nI (sn j)) (h36 : M 36 = lA g 8 fun j => lN (sT j)) (ok : slOK sn sT) {s : Int32} : Con g jX8_slack 5 [.ref (jA g 34), .int s] M (fun v M2 => v = some (.int (sp_slack sn sT s)) ∧ solvedI g M M2 q) := by
  refine con_of (l := [some (.ref (jA g 34)), some (.int s), none, none, none, none, none]) (by decide) (Nat.le_of_ble_eq_true rfl) rfl ?_
  refine j_iload_n1 (n := 1) dX8_slack_0 rfl ?_
  refine j_fnS1 (n := 4) con_X8_isSlot dX8_slack_1 rfl cal_X8_isSlot ml_X8_88 (Nat.le_of_ble_eq_true rfl) (Nat.le_of_ble_eq_true rfl) ?_
  refine j_bif_ne (n := 7) 9 dX8_slack_4 rfl (by decide) (fun k1 => ?_) (fun k1 => ?_)
  rotate_left
  · refine j_iconst (n := 8) (-1) dX8_slack_7 rfl (by decide) ?_
    refine j_iret dX8_slack_8 rfl ?_
    exact ⟨by simp [sp_slack, k1], solvedI.rf h34 hm hc⟩
  obtain ⟨j, hj, rfl⟩ := isSl_of k1
  have c1 := nI_clamp (show j < 2 ^ 31 by omega)
  have b2 := ok j hj
  have h5 := pw5 b2.2.1
  have hp1 : 0 < 2 ^ sn j := Nat.pos_of_ne_zero (by simp)
  refine j_aload_n0 (n := 10) dX8_slack_9 rfl ?_
  refine j_get (n := 13) (k := 0) dX8_slack_10 rfl jcl7 (Nat.le_of_ble_eq_true rfl) fl_X8_7 (by first | decide | omega) (by first | assumption | rfl) (by rfl) ?_
  refine j_iload_n1 (n := 14) dX8_slack_13 rfl ?_
  refine j_iald_n (n := 15) dX8_slack_14 rfl (by first | decide | omega) (by first | assumption | rfl) (by decide) (by first | assumption | omega) ?_
  refine j_istore_n2 (n := 16) dX8_slack_15 rfl (Nat.le_of_ble_eq_true rfl) rfl ?_
  refine j_aload_n0 (n := 17) dX8_slack_16 rfl ?_
  refine j_aload_n0 (n := 18) dX8_slack_17 rfl ?_
  refine j_get (n := 21) (k := 1) dX8_slack_18 rfl jcl7 (Nat.le_of_ble_eq_true rfl) fl_X8_13 (by first | decide | omega) (by first | assumption | rfl) (by rfl) ?_
  refine j_iload_n1 (n := 22) dX8_slack_21 rfl ?_
  refine j_lald_n (n := 23) dX8_slack_22 rfl (by first | decide | omega) (by first | assumption | rfl) (by decide) (by first | assumption | omega) ?_
  refine j_iload_n2 (n := 24) dX8_slack_23 rfl ?_
  refine j_cV2 (n := 27) (con_X8_solve h34 hm hc b2.1 b2.2.1 (ok.b hj) (hex _ _ b2.1 b2.2.1 b2.2.2)) dX8_slack_24 rfl cal_X8_solve ml_X8_160 (Nat.le_of_ble_eq_true rfl) (by first | decide | omega) rfl rfl (Nat.le_of_ble_eq_true rfl) (by first | assumption | rfl) ?_
  rintro _ M2 ⟨rfl, hsol⟩
  have hI := hsol.I
  obtain ⟨q2, a1, a2, a3, a4, a5, a6, a7, a8⟩ := hsol
  refine j_aload_n0 (n := 28) dX8_slack_27 rfl ?_
  refine j_get (n := 31) (k := 7) dX8_slack_28 rfl jcl7 (Nat.le_of_ble_eq_true rfl) fl_X8_142 (by first | decide | omega) (by first | assumption | rfl) (by rfl) ?_
  rw [a5.1]
  refine j_bif_ne (n := 34) 37 dX8_slack_31 rfl (by decide) (fun e => ?_) (fun e => ?_)
  rotate_left
  · refine j_ldc (n := 36) dX8_slack_34 rfl cn_X8_112 ?_
    refine j_iret dX8_slack_36 rfl ?_
    exact ⟨by simp [sp_slack, k1, c1, e], hI⟩
  obtain ⟨sv, sz, wv, hL, h16, m40, hsz, m41, hwv, hb⟩ := a5.2.2 e
  have hx : ∀ r, -900 ≤ rsum (wOf (fl (sn j) (sT j)) sv) r (sn j) ∧ rsum (wOf (fl (sn j) (sT j)) sv) r (sn j) ≤ 900 := by
    intro r
    have := rsum_bd (w := wOf (fl (sn j) (sT j)) sv) (r := r) (m := 16) (by omega) (sn j) (fun i hi => wOf_bd (Nat.le_trans (sm_at hi) h16))
    omega
  have hbb := bndW_bd (t := sT j) hx
  have hspec : sp_slack sn sT (nI j) = nI (slM (sn j) (wOf (fl (sn j) (sT j)) sv) (bndW (sn j) (sT j) (wOf (fl (sn j) (sT j)) sv)) (2 ^ sn j - 1)) := by
    simp [sp_slack, k1, c1, e, lwB_eq hL, slM_cong (lwW_eq hL)]
  rw [hspec]
  generalize hbz : bndW (sn j) (sT j) (wOf (fl (sn j) (sT j)) sv) = bz at *
  generalize hww : wOf (fl (sn j) (sT j)) sv = w at *
  refine j_sipush (n := 40) (nI 1000) dX8_slack_37 rfl (by decide) ?_
  refine j_istore_n3 (n := 41) dX8_slack_40 rfl (Nat.le_of_ble_eq_true rfl) rfl ?_
  refine j_iconst (n := 42) (nI 1) dX8_slack_41 rfl (by decide) ?_
  refine j_istore4 (n := 44) dX8_slack_42 rfl (Nat.le_of_ble_eq_true rfl) rfl ?_
  have key : ∀ k, k ≤ 2 ^ sn j - 1 → ∀ x5 x6 : Option Value, jNL x5 = true → J g jX8_slack 5 (fun v M2 => v = some (.int (nI (slM (sn j) w bz (2 ^ sn j - 1)))) ∧ solvedI g M M2 q) 44 [some (.ref (jA g 34)), some (.int (nI j)), some (.int (nI (sn j))), some (.int (nI (slM (sn j) w bz k))), some (.int (nI (k + 1))), x5, x6] [] M2 := by
    refine j_for ?_ ?_
    · intro x5 x6 _
      refine j_iload4 (n := 46) dX8_slack_44 rfl ?_
      refine j_iconst (n := 47) (nI 1) dX8_slack_46 rfl (by decide) ?_
      refine j_iload_n2 (n := 48) dX8_slack_47 rfl ?_
      refine j_ishl (n := 49) dX8_slack_48 rfl ?_
      refine j_topi (nI (2 ^ sn j)) (ai_shl1 (by omega)) ?_
      refine j_nicmp_ge (n := 52) 123 dX8_slack_49 rfl (by decide) (by omega) (by omega) (fun h => ?_) (fun h => ?_)
      rotate_left
      · omega
      refine j_iload_n3 (n := 124) dX8_slack_123 rfl ?_
      refine j_iret dX8_slack_124 rfl ?_
      exact ⟨rfl, hI⟩
    · intro k hk ih x5 x6 hx5
      have hxr := hx (k + 1)
      have hcp := cnt_pos (k + 1) (by omega) (by omega)
      have hml := slM_le (n := sn j) (w := w) (b := bz) k
      refine j_iload4 (n := 46) dX8_slack_44 rfl ?_
      refine j_iconst (n := 47) (nI 1) dX8_slack_46 rfl (by decide) ?_
      refine j_iload_n2 (n := 48) dX8_slack_47 rfl ?_
      refine j_ishl (n := 49) dX8_slack_48 rfl ?_
      refine j_topi (nI (2 ^ sn j)) (ai_shl1 (by omega)) ?_
      refine j_nicmp_ge (n := 52) 123 dX8_slack_49 rfl (by decide) (by omega) (by omega) (fun h => ?_) (fun h => ?_)
      · omega
      refine j_iconst (n := 53) (nI 2) dX8_slack_52 rfl (by decide) ?_
      refine j_aload_n0 (n := 54) dX8_slack_53 rfl ?_
      refine j_iload4 (n := 56) dX8_slack_54 rfl ?_
      refine j_iload_n2 (n := 57) dX8_slack_56 rfl ?_
      refine j_fnV2 (n := 60) (con_X8_sumOf (q := q2) a1 m41 b2.2.1 (by omega) hwv) dX8_slack_57 rfl cal_X8_sumOf ml_X8_129 (Nat.le_of_ble_eq_true rfl) (by first | decide | omega) rfl rfl (Nat.le_of_ble_eq_true rfl) (by first | assumption | rfl) ?_
      refine j_aload_n0 (n := 61) dX8_slack_60 rfl ?_
      refine j_get (n := 64) (k := 10) dX8_slack_61 rfl jcl7 (Nat.le_of_ble_eq_true rfl) fl_X8_133 (by first | decide | omega) (by first | assumption | rfl) (by rfl) ?_
      rw [hb]
      refine j_isub (n := 65) dX8_slack_64 rfl ?_
      refine j_imul (n := 66) dX8_slack_65 rfl ?_
      refine j_iconst (n := 67) (nI 1) dX8_slack_66 rfl (by decide) ?_
      refine j_iadd (n := 68) dX8_slack_67 rfl ?_
      obtain ⟨y, hy⟩ : ∃ y, y = 2 * (rsum w (k + 1) (sn j) - bz) + 1 := ⟨_, rfl⟩
      refine j_topi (iI y) ?_ ?_
      · rw [← iI_nat, ← iI_nat, iI_sub, iI_mul, iI_add, hy]
        rfl
      refine j_istore5 (n := 70) dX8_slack_68 rfl (Nat.le_of_ble_eq_true rfl) rfl ?_
      refine j_iload5 (n := 72) dX8_slack_70 rfl ?_
      have hfar : slE (sn j) w bz (k + 1) = (1000 * y.natAbs - 1) / (2 * cnt 32 (k + 1).testBit) := by unfold slE; rw [hy]
      have h83 : ∀ z : Int32, z = nI y.natAbs → J g jX8_slack 5 (fun v M2 => v = some (.int (nI (slM (sn j) w bz (2 ^ sn j - 1)))) ∧ solvedI g M M2 q) 83 [some (.ref (jA g 34)), some (.int (nI j)), some (.int (nI (sn j))), some (.int (nI (slM (sn j) w bz k))), some (.int (nI (k + 1))), some (.int (iI y)), x6] [.int z] M2 := by
        intro z hz
        rw [hz]
        refine j_istore5 (n := 85) dX8_slack_83 rfl (Nat.le_of_ble_eq_true rfl) rfl ?_
        refine j_sipush (n := 88) (nI 1000) dX8_slack_85 rfl (by decide) ?_
        refine j_iload5 (n := 90) dX8_slack_88 rfl ?_
        refine j_imul (n := 91) dX8_slack_90 rfl ?_
        refine j_iconst (n := 92) (nI 1) dX8_slack_91 rfl (by decide) ?_
        refine j_isub (n := 93) dX8_slack_92 rfl ?_
        refine j_topi (nI (1000 * y.natAbs - 1)) (by rw [pk_mul, pk_sub (by omega)]) ?_
        refine j_iconst (n := 94) (nI 2) dX8_slack_93 rfl (by decide) ?_
        refine j_iload4 (n := 96) dX8_slack_94 rfl ?_
        refine j_i2l (n := 97) dX8_slack_96 rfl ?_
        refine j_topl (lN (k + 1)) (nI_l (by omega)) ?_
        refine j_fnS1 (n := 100) (con_X8_ones (by omega)) dX8_slack_97 rfl cal_X8_ones ml_X8_84 (Nat.le_of_ble_eq_true rfl) (Nat.le_of_ble_eq_true rfl) ?_
        refine j_imul (n := 101) dX8_slack_100 rfl ?_
        refine j_topi (nI (2 * cnt 32 (k + 1).testBit)) (pk_mul _ _) ?_
        refine j_idiv (n := 102) dX8_slack_101 rfl (nI_ne0 (by omega) (by omega)) ?_
        refine j_topi (nI (slE (sn j) w bz (k + 1))) (by rw [pk_div (by omega) (by omega) (by omega), hfar]) ?_
        have hle : slE (sn j) w bz (k + 1) ≤ 1000 * y.natAbs - 1 := by rw [hfar]; exact Nat.div_le_self _ _
        refine j_istore6 (n := 104) dX8_slack_102 rfl (Nat.le_of_ble_eq_true rfl) rfl ?_
        refine j_iload6 (n := 106) dX8_slack_104 rfl ?_
        refine j_iload_n3 (n := 107) dX8_slack_106 rfl ?_
        refine j_nicmp_ge (n := 110) 115 dX8_slack_107 rfl (by decide) (by omega) (by omega) (fun e2 => ?_) (fun e2 => ?_)
        · have e3 : slM (sn j) w bz (k + 1) = slM (sn j) w bz k := by simp [slM, Nat.not_lt.mpr e2]
          rw [e3] at ih
          refine j_iload_n3 (n := 116) dX8_slack_115 rfl ?_
          refine j_istore_n3 (n := 117) dX8_slack_116 rfl (Nat.le_of_ble_eq_true rfl) rfl ?_
          refine j_inc4 (n := 120) dX8_slack_117 rfl (Nat.le_of_ble_eq_true rfl) rfl ?_
          refine j_goto 44 dX8_slack_120 (by decide) ?_
          exact ih _ _ rfl
        · have e3 : slM (sn j) w bz (k + 1) = slE (sn j) w bz (k + 1) := by simp [slM, e2]
          rw [e3] at ih
          refine j_iload6 (n := 112) dX8_slack_110 rfl ?_
          refine j_goto 116 dX8_slack_112 (by decide) ?_
          refine j_istore_n3 (n := 117) dX8_slack_116 rfl (Nat.le_of_ble_eq_true rfl) rfl ?_
          refine j_inc4 (n := 120) dX8_slack_117 rfl (Nat.le_of_ble_eq_true rfl) rfl ?_
          refine j_goto 44 dX8_slack_120 (by decide) ?_
          exact ih _ _ rfl
      refine j_if_ge (n := 75) 81 dX8_slack_72 rfl (by decide) (fun e1 => ?_) (fun e1 => ?_)
      · refine j_iload5 (n := 83) dX8_slack_81 rfl ?_
        refine h83 _ ?_
        have : 0 ≤ y := (iI_le (a := 0) (by omega) (by omega)).mp e1
        rw [← iI_nat]
        congr 1
        omega
      · refine j_iload5 (n := 77) dX8_slack_75 rfl ?_
        refine j_ineg (n := 78) dX8_slack_77 rfl ?_
        refine j_goto 83 dX8_slack_78 (by decide) ?_
        refine h83 _ ?_
        have : ¬ 0 ≤ y := fun z => e1 ((iI_le (a := 0) (by omega) (by omega)).mpr z)
        rw [← iI_nat, iI_neg]
        congr 1
        omega
  exact key 0 (Nat.zero_le _) _ _ rfl
