theorem pI_of {g : jG} {M M2 : jMem} (hp : pI g M) (h : pJ g M M2 0 0 0) : pI g M2 := by
  obtain ⟨h12, h13, _⟩ := hp
  obtain ⟨f1, f2⟩ := h
  exact ⟨(f1 12 (by decide) (by decide) (by decide) (by decide) (by decide)).trans h12, (f1 13 (by decide) (by decide) (by decide) (by decide) (by decide)).trans h13, fun _ _ _ _ _ _ => rfl, f2⟩
theorem pI_fr {g : jG} {M M2 : jMem} (hp : pI g M) (h : ∀ k, 12 ≤ k → k ≤ 18 → M2 k = M k) : pI g M2 := by
  obtain ⟨h12, h13, f1, f2, f3, f4, f5, f6⟩ := hp
  refine ⟨(h 12 (by decide) (by decide)).trans h12, (h 13 (by decide) (by decide)).trans h13, fun _ _ _ _ _ _ => rfl, ?_, ?_, ?_, ?_, ?_⟩
  · rw [h 14 (by decide) (by decide)]; exact f2
  · rw [h 15 (by decide) (by decide)]; exact f3
  · rw [h 16 (by decide) (by decide)]; exact f4
  · rw [h 17 (by decide) (by decide)]; exact f5
  · rw [h 18 (by decide) (by decide)]; exact f6
def fFr (M M2 : jMem) : Prop := ∀ k, k ≠ 4 → (k < 14 ∨ 18 < k) → M2 k = M k
set_option maxRecDepth 100000 in
theorem con_X7_fewest {g : jG} {M : jMem} {sn sT : Nat → Nat} (h0 : M 0 = .inr (6, oX g)) (h1 : M 1 = iA g 8 fun j => nI (sn j)) (h2 : M 2 = lA g 8 fun j => lN (sT j)) (hw : wsI g M) (hp : pI g M) (ok : slOK sn sT) {s : Int32} : Con g jX7_fewest 5 [.ref (jA g 0), .int s] M (fun v M2 => v = some (.int (sp_fewest sn sT s)) ∧ wsI g M2 ∧ pI g M2 ∧ fFr M M2) := by
  refine con_of (l := [some (.ref (jA g 0)), some (.int s)]) (by decide) (Nat.le_of_ble_eq_true rfl) rfl ?_
  refine j_iload_n1 (n := 1) dX7_fewest_0 rfl ?_
  refine j_fnS1 (n := 4) con_X7_isSlot dX7_fewest_1 rfl cal_X7_isSlot ml_X7_58 (Nat.le_of_ble_eq_true rfl) (Nat.le_of_ble_eq_true rfl) ?_
  refine j_bif_ne (n := 7) 9 dX7_fewest_4 rfl (by decide) (fun e1 => ?_) (fun e1 => ?_)
  rotate_left
  · refine j_iconst (n := 8) (-1) dX7_fewest_7 rfl (by decide) ?_
    refine j_iret dX7_fewest_8 rfl ?_
    exact ⟨by simp [sp_fewest, e1], hw, hp, fun _ _ _ => rfl⟩
  obtain ⟨j, hj, rfl⟩ := isSl_of e1
  have c1 := nI_clamp (show j < 2 ^ 31 by omega)
  have b2 := ok j hj
  refine j_aload_n0 (n := 10) dX7_fewest_9 rfl ?_
  refine j_get (n := 13) (k := 0) dX7_fewest_10 rfl jcl6 (Nat.le_of_ble_eq_true rfl) fl_X7_9 (by first | decide | omega) (by first | assumption | rfl) (by rfl) ?_
  refine j_iload_n1 (n := 14) dX7_fewest_13 rfl ?_
  refine j_iald_n (n := 15) dX7_fewest_14 rfl (by first | decide | omega) (by first | assumption | rfl) (by decide) (by first | assumption | omega) ?_
  refine j_iconst (n := 16) (nI 3) dX7_fewest_15 rfl (by decide) ?_
  refine j_nicmp_le (n := 19) 22 dX7_fewest_16 rfl (by decide) (by omega) (by omega) (fun e2 => ?_) (fun e2 => ?_)
  rotate_left
  · refine j_bipush (n := 21) (-3) dX7_fewest_19 rfl (by decide) ?_
    refine j_iret dX7_fewest_21 rfl ?_
    exact ⟨by simp [sp_fewest, e1, c1, show 3 < sn j by omega], hw, hp, fun _ _ _ => rfl⟩
  refine j_aload_n0 (n := 23) dX7_fewest_22 rfl ?_
  refine j_iload_n1 (n := 24) dX7_fewest_23 rfl ?_
  refine j_cV1 (n := 27) (con_X7_tellsGate h0 h1 h2 hw ok hj) dX7_fewest_24 rfl cal_X7_tellsGate ml_X7_112 (Nat.le_of_ble_eq_true rfl) (by first | decide | omega) rfl rfl (Nat.le_of_ble_eq_true rfl) (by first | assumption | rfl) ?_
  rintro _ M2 ⟨rfl, hw2, hf2, _⟩
  have hp2 : pI g M2 := pI_fr hp (fun k a b => hf2 k (by omega))
  refine j_bif_eq (n := 30) 34 dX7_fewest_27 rfl (by decide) (fun e3 => ?_) (fun e3 => ?_)
  · refine j_iconst (n := 35) (nI 2) dX7_fewest_34 rfl (by decide) ?_
    refine j_iret dX7_fewest_35 rfl ?_
    have e4 := (clI_eq b2.1 e2 b2.2.2 e3).2
    exact ⟨by simp [sp_fewest, e1, c1, e3, show ¬ 3 < sn j by omega, e4]; rfl, hw2, hp2, fun k a _ => hf2 k a⟩
  · refine j_iconst (n := 31) (nI 1) dX7_fewest_30 rfl (by decide) ?_
    refine j_goto 35 dX7_fewest_31 (by decide) ?_
    refine j_iret dX7_fewest_35 rfl ?_
    exact ⟨by simp [sp_fewest, e1, c1, e3, show ¬ 3 < sn j by omega]; rfl, hw2, hp2, fun k a _ => hf2 k a⟩
set_option maxRecDepth 100000 in
theorem con_X7_first {g : jG} {M : jMem} {sn sT : Nat → Nat} (h0 : M 0 = .inr (6, oX g)) (h1 : M 1 = iA g 8 fun j => nI (sn j)) (h2 : M 2 = lA g 8 fun j => lN (sT j)) (hw : wsI g M) (hp : pI g M) (ok : slOK sn sT) {s : Int32} : Con g jX7_first 5 [.ref (jA g 0), .int s] M (fun v M2 => v = some (.int (sp_first sn sT s)) ∧ wsI g M2 ∧ pI g M2 ∧ fFr M M2) := by
  refine con_of (l := [some (.ref (jA g 0)), some (.int s)]) (by decide) (Nat.le_of_ble_eq_true rfl) rfl ?_
  refine j_iload_n1 (n := 1) dX7_first_0 rfl ?_
  refine j_fnS1 (n := 4) con_X7_isSlot dX7_first_1 rfl cal_X7_isSlot ml_X7_58 (Nat.le_of_ble_eq_true rfl) (Nat.le_of_ble_eq_true rfl) ?_
  refine j_bif_ne (n := 7) 9 dX7_first_4 rfl (by decide) (fun e1 => ?_) (fun e1 => ?_)
  rotate_left
  · refine j_iconst (n := 8) (-1) dX7_first_7 rfl (by decide) ?_
    refine j_iret dX7_first_8 rfl ?_
    exact ⟨by simp [sp_first, e1], hw, hp, fun _ _ _ => rfl⟩
  obtain ⟨j, hj, rfl⟩ := isSl_of e1
  have c1 := nI_clamp (show j < 2 ^ 31 by omega)
  have b2 := ok j hj
  refine j_aload_n0 (n := 10) dX7_first_9 rfl ?_
  refine j_get (n := 13) (k := 0) dX7_first_10 rfl jcl6 (Nat.le_of_ble_eq_true rfl) fl_X7_9 (by first | decide | omega) (by first | assumption | rfl) (by rfl) ?_
  refine j_iload_n1 (n := 14) dX7_first_13 rfl ?_
  refine j_iald_n (n := 15) dX7_first_14 rfl (by first | decide | omega) (by first | assumption | rfl) (by decide) (by first | assumption | omega) ?_
  refine j_iconst (n := 16) (nI 3) dX7_first_15 rfl (by decide) ?_
  refine j_nicmp_le (n := 19) 22 dX7_first_16 rfl (by decide) (by omega) (by omega) (fun e2 => ?_) (fun e2 => ?_)
  rotate_left
  · refine j_bipush (n := 21) (-3) dX7_first_19 rfl (by decide) ?_
    refine j_iret dX7_first_21 rfl ?_
    exact ⟨by simp [sp_first, e1, c1, show 3 < sn j by omega], hw, hp, fun _ _ _ => rfl⟩
  refine j_aload_n0 (n := 23) dX7_first_22 rfl ?_
  refine j_iload_n1 (n := 24) dX7_first_23 rfl ?_
  refine j_cV1 (n := 27) (con_X7_tellsGate h0 h1 h2 hw ok hj) dX7_first_24 rfl cal_X7_tellsGate ml_X7_112 (Nat.le_of_ble_eq_true rfl) (by first | decide | omega) rfl rfl (Nat.le_of_ble_eq_true rfl) (by first | assumption | rfl) ?_
  rintro _ M2 ⟨rfl, hw2, hf2, _⟩
  have hp2 : pI g M2 := pI_fr hp (fun k a b => hf2 k (by omega))
  refine j_bif_eq (n := 30) 35 dX7_first_27 rfl (by decide) (fun e3 => ?_) (fun e3 => ?_)
  rotate_left
  · refine j_ldc (n := 32) dX7_first_30 rfl cn_X7_89 ?_
    refine j_goto 54 dX7_first_32 (by decide) ?_
    refine j_iret dX7_first_54 rfl ?_
    exact ⟨by simp [sp_first, e1, c1, e3, show ¬ 3 < sn j by omega], hw2, hp2, fun k a _ => hf2 k a⟩
  have m0 := (hf2 0 (by decide)).trans h0
  have m1 := (hf2 1 (by decide)).trans h1
  have m2 := (hf2 2 (by decide)).trans h2
  have m12 := hp2.1
  refine j_aload_n0 (n := 36) dX7_first_35 rfl ?_
  refine j_get (n := 39) (k := 5) dX7_first_36 rfl jcl6 (Nat.le_of_ble_eq_true rfl) fl_X7_41 (by first | decide | omega) (by first | assumption | rfl) (by rfl) ?_
  refine j_aload_n0 (n := 40) dX7_first_39 rfl ?_
  refine j_get (n := 43) (k := 0) dX7_first_40 rfl jcl6 (Nat.le_of_ble_eq_true rfl) fl_X7_9 (by first | decide | omega) (by first | assumption | rfl) (by rfl) ?_
  refine j_iload_n1 (n := 44) dX7_first_43 rfl ?_
  refine j_iald_n (n := 45) dX7_first_44 rfl (by first | decide | omega) (by first | assumption | rfl) (by decide) (by first | assumption | omega) ?_
  refine j_aload_n0 (n := 46) dX7_first_45 rfl ?_
  refine j_get (n := 49) (k := 1) dX7_first_46 rfl jcl6 (Nat.le_of_ble_eq_true rfl) fl_X7_13 (by first | decide | omega) (by first | assumption | rfl) (by rfl) ?_
  refine j_iload_n1 (n := 50) dX7_first_49 rfl ?_
  refine j_lald_n (n := 51) dX7_first_50 rfl (by first | decide | omega) (by first | assumption | rfl) (by decide) (by first | assumption | omega) ?_
  refine j_cV2 (n := 54) (con_X0_leastFirst hp2 e2 b2.2.2) dX7_first_51 rfl cal_X0_leastFirst ml_X7_157 (Nat.le_of_ble_eq_true rfl) (by first | decide | omega) rfl rfl (Nat.le_of_ble_eq_true rfl) (by first | assumption | rfl) ?_
  rintro _ M3 ⟨rfl, hJ⟩
  have hc := clI_eq b2.1 e2 b2.2.2 e3
  rw [hc.1]
  refine j_iret dX7_first_54 rfl ?_
  refine ⟨by simp [sp_first, e1, c1, e3, show ¬ 3 < sn j by omega, hc.2], ?_, pI_of hp2 hJ, fun k a b => ?_⟩
  · obtain ⟨a3, ff, a4⟩ := hw2
    exact ⟨(hJ.1 3 (by decide) (by decide) (by decide) (by decide) (by decide)).trans a3, ff, (hJ.1 4 (by decide) (by decide) (by decide) (by decide) (by decide)).trans a4⟩
  · exact (hJ.1 k (by omega) (by omega) (by omega) (by omega) (by omega)).trans (hf2 k a)
