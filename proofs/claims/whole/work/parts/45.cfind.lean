theorem LW_ex {n t : Nat} (h : EXg n t) : ∃ s, LW n t s ∧ fb_sm s n ≤ 16 := by
  obtain ⟨s, s1, s2⟩ := h
  have key : ∀ k (s : Nat → Nat), fb_sm s n * 101 ^ n + vrk s n ≤ k → fb_sm s n ≤ 16 → sepS n t s → ∃ s, LW n t s ∧ fb_sm s n ≤ 16 := by
    intro k
    induction k with
    | zero =>
      intro s hk h1 h2
      have hp : 0 < 101 ^ n := Nat.pow_pos (by omega)
      have h0 : fb_sm s n = 0 := by
        rcases Nat.eq_zero_or_pos (fb_sm s n) with z | z
        · exact z
        · have : 1 * 101 ^ n ≤ fb_sm s n * 101 ^ n := Nat.mul_le_mul_right _ z
          omega
      refine ⟨s, ⟨h2, fun v hv => by omega, fun v hv hl => ?_⟩, h1⟩
      obtain ⟨i, i1, i2, i3⟩ := hl
      have := fb_sm_zero h0 i i1
      omega
    | succ k ih =>
      intro s hk h1 h2
      rcases Classical.em (LW n t s) with q | q
      · exact ⟨s, q, h1⟩
      · have hp : 0 < 101 ^ n := Nat.pow_pos (by omega)
        have : ∃ v, sepS n t v ∧ (fb_sm v n < fb_sm s n ∨ (fb_sm v n = fb_sm s n ∧ vlt n v s)) := by
          rcases Classical.em (∃ v, sepS n t v ∧ (fb_sm v n < fb_sm s n ∨ (fb_sm v n = fb_sm s n ∧ vlt n v s))) with z | z
          · exact z
          · exact absurd ⟨h2, fun v hv hs => z ⟨v, hs, Or.inl hv⟩, fun v hv hl hs => z ⟨v, hs, Or.inr ⟨hv, hl⟩⟩⟩ q
        obtain ⟨v, v1, v2⟩ := this
        have hb : ∀ w : Nat → Nat, fb_sm w n ≤ 16 → ∀ i, i < n → w i ≤ 100 := fun w hw i hi => by have := sm_at (f := w) hi; omega
        rcases v2 with z | ⟨z1, z2⟩
        · have r1 := vrk_lt n (hb v (by omega))
          have r2 : (fb_sm v n + 1) * 101 ^ n ≤ fb_sm s n * 101 ^ n := Nat.mul_le_mul_right _ z
          rw [Nat.add_mul] at r2
          exact ih v (by omega) (by omega) v1
        · have r1 := vrk_mono n (hb v (by omega)) z2
          exact ih v (by rw [z1]; omega) (by omega) v1
  exact key _ s (Nat.le_refl _) s1 s2
theorem lwS_LW {n t : Nat} (h : EXg n t) : LW n t (lwS n t) ∧ fb_sm (lwS n t) n ≤ 16 := by
  obtain ⟨s, s1, s2⟩ := LW_ex h
  refine ⟨Classical.epsilon_spec (p := fun s => LW n t s) ⟨s, s1⟩, ?_⟩
  rw [← fb_sm_cong (lwS_eq s1)]
  exact s2
/-- floors below every weighing -/
def GoodF (n t : Nat) (F : Nat → Nat) : Prop := ∀ s, sepS n t s → ∀ j, j < n → F j ≤ s j
theorem GoodF_16 {n t : Nat} {F : Nat → Nat} (hx : EXg n t) (h : GoodF n t F) : ∀ j, j < n → F j ≤ 16 := by
  obtain ⟨s, s1, s2⟩ := hx
  intro j hj
  exact Nat.le_trans (h s s2 j hj) (Nat.le_trans (sm_at hj) s1)
theorem updF {f : Nat → Int32} {F : Nat → Nat} {n i x : Nat} (h : ∀ j, j < n → f j = nI (F j)) : ∀ j, j < n → upd f i (nI x) j = nI (setP F i x j) := by
  intro j hj
  unfold upd setP
  by_cases e : j = i
  · rw [if_pos e, if_pos e]
  · rw [if_neg e, if_neg e]
    exact h j hj
set_option maxRecDepth 100000 in
theorem con_X2_raiseFloor {g : jG} {M : jMem} {b sz : Int32} {n t i : Nat} {fr pl : Nat → Int32} {F : Nat → Nat} (hn : n ≤ 5) (hg : isG n t = true) (hx : EXg n t) (h5 : M 5 = .inr (2, oLeast g b sz (nI n) (lN t))) (h7 : M 7 = iA g 5 pl) (h8 : M 8 = iA g 5 fr) (hpl : ∀ j, j < n → pl j = iI (pu n t j)) (hi : i < n) (hfr : ∀ j, j < n → fr j = nI (F j)) (hF : GoodF n t F) : Con g jX2_raiseFloor 1 [.ref (jA g 5), .int (nI i)] M (fun v M2 => v = none ∧ ∃ fr2 F2, M2 = va_up M 8 (iA g 5 fr2) ∧ (∀ j, j < n → fr2 j = nI (F2 j)) ∧ GoodF n t F2 ∧ ∀ j, j ≠ i → F2 j = F j) := by
  have hpb := fun o => pu_bd n t o hn
  refine con_of (l := [some (.ref (jA g 5)), some (.int (nI i)), none]) (by decide) (Nat.le_of_ble_eq_true rfl) rfl ?_
  refine j_iconst (n := 1) (nI 0) dX2_raiseFloor_0 rfl (by decide) ?_
  refine j_istore_n2 (n := 2) dX2_raiseFloor_1 rfl (Nat.le_of_ble_eq_true rfl) rfl ?_
  have key : ∀ o, o ≤ n → ∀ (fr2 : Nat → Int32) (F2 : Nat → Nat), (∀ j, j < n → fr2 j = nI (F2 j)) → GoodF n t F2 → (∀ j, j ≠ i → F2 j = F j) → J g jX2_raiseFloor 1 (fun v M2 => v = none ∧ ∃ fr2 F2, M2 = va_up M 8 (iA g 5 fr2) ∧ (∀ j, j < n → fr2 j = nI (F2 j)) ∧ GoodF n t F2 ∧ ∀ j, j ≠ i → F2 j = F j) 2 [some (.ref (jA g 5)), some (.int (nI i)), some (.int (nI o))] [] (va_up M 8 (iA g 5 fr2)) := by
    refine j_for ?_ ?_
    · intro fr2 F2 q1 q2 q3
      have m5 : va_up M 8 (iA g 5 fr2) 5 = .inr (2, oLeast g b sz (nI n) (lN t)) := h5
      refine j_iload_n2 (n := 3) dX2_raiseFloor_2 rfl ?_
      refine j_aload_n0 (n := 4) dX2_raiseFloor_3 rfl ?_
      refine j_get (n := 7) (k := 3) dX2_raiseFloor_4 rfl jcl2 (Nat.le_of_ble_eq_true rfl) fl_X2_28 (by first | decide | omega) (by first | assumption | rfl) (by rfl) ?_
      refine j_nicmp_ge (n := 10) 60 dX2_raiseFloor_7 rfl (by decide) (by omega) (by omega) (fun h => ?_) (fun h => ?_)
      rotate_left
      · omega
      refine j_vret dX2_raiseFloor_60 rfl ?_
      exact ⟨rfl, fr2, F2, rfl, q1, q2, q3⟩
    · intro o ho ih fr2 F2 q1 q2 q3
      have m5 : va_up M 8 (iA g 5 fr2) 5 = .inr (2, oLeast g b sz (nI n) (lN t)) := h5
      have m7 : va_up M 8 (iA g 5 fr2) 7 = iA g 5 pl := h7
      have m8 : va_up M 8 (iA g 5 fr2) 8 = iA g 5 fr2 := rfl
      have hbo := hpb o
      have hbi := hpb i
      have hFi := GoodF_16 hx q2 i hi
      have hFo := GoodF_16 hx q2 o ho
      refine j_iload_n2 (n := 3) dX2_raiseFloor_2 rfl ?_
      refine j_aload_n0 (n := 4) dX2_raiseFloor_3 rfl ?_
      refine j_get (n := 7) (k := 3) dX2_raiseFloor_4 rfl jcl2 (Nat.le_of_ble_eq_true rfl) fl_X2_28 (by first | decide | omega) (by first | assumption | rfl) (by rfl) ?_
      refine j_nicmp_ge (n := 10) 60 dX2_raiseFloor_7 rfl (by decide) (by omega) (by omega) (fun h => ?_) (fun h => ?_)
      · omega
      refine j_aload_n0 (n := 11) dX2_raiseFloor_10 rfl ?_
      refine j_get (n := 14) (k := 5) dX2_raiseFloor_11 rfl jcl2 (Nat.le_of_ble_eq_true rfl) fl_X2_15 (by first | decide | omega) (by first | assumption | rfl) (by rfl) ?_
      refine j_iload_n2 (n := 15) dX2_raiseFloor_14 rfl ?_
      refine j_iald_n (n := 16) dX2_raiseFloor_15 rfl (by first | decide | omega) (by first | assumption | rfl) (by decide) (by first | assumption | omega) ?_
      rw [hpl o (by omega)]
      refine j_mabs (n := 19) dX2_raiseFloor_16 rfl ml_X2_63 mw_abs (Nat.le_of_ble_eq_true rfl) (Nat.le_of_ble_eq_true rfl) ?_
      refine j_topi _ (iI_abs (by omega)) ?_
      refine j_aload_n0 (n := 20) dX2_raiseFloor_19 rfl ?_
      refine j_get (n := 23) (k := 5) dX2_raiseFloor_20 rfl jcl2 (Nat.le_of_ble_eq_true rfl) fl_X2_15 (by first | decide | omega) (by first | assumption | rfl) (by rfl) ?_
      refine j_iload_n1 (n := 24) dX2_raiseFloor_23 rfl ?_
      refine j_iald_n (n := 25) dX2_raiseFloor_24 rfl (by first | decide | omega) (by first | assumption | rfl) (by decide) (by first | assumption | omega) ?_
      rw [hpl i hi]
      refine j_mabs (n := 28) dX2_raiseFloor_25 rfl ml_X2_63 mw_abs (Nat.le_of_ble_eq_true rfl) (Nat.le_of_ble_eq_true rfl) ?_
      refine j_topi _ (iI_abs (by omega)) ?_
      refine j_nicmp_ge (n := 31) 54 dX2_raiseFloor_28 rfl (by decide) (by omega) (by omega) (fun e1 => ?_) (fun e1 => ?_)
      · refine j_inc2 (n := 57) dX2_raiseFloor_54 rfl (Nat.le_of_ble_eq_true rfl) rfl ?_
        refine j_goto 2 dX2_raiseFloor_57 (by decide) ?_
        exact ih _ _ q1 q2 q3
      refine j_aload_n0 (n := 32) dX2_raiseFloor_31 rfl ?_
      refine j_get (n := 35) (k := 6) dX2_raiseFloor_32 rfl jcl2 (Nat.le_of_ble_eq_true rfl) fl_X2_18 (by first | decide | omega) (by first | assumption | rfl) (by rfl) ?_
      refine j_iload_n1 (n := 36) dX2_raiseFloor_35 rfl ?_
      refine j_aload_n0 (n := 37) dX2_raiseFloor_36 rfl ?_
      refine j_get (n := 40) (k := 6) dX2_raiseFloor_37 rfl jcl2 (Nat.le_of_ble_eq_true rfl) fl_X2_18 (by first | decide | omega) (by first | assumption | rfl) (by rfl) ?_
      refine j_iload_n1 (n := 41) dX2_raiseFloor_40 rfl ?_
      refine j_iald_n (n := 42) dX2_raiseFloor_41 rfl (by first | decide | omega) (by first | assumption | rfl) (by decide) (by first | assumption | omega) ?_
      rw [q1 i hi]
      refine j_aload_n0 (n := 43) dX2_raiseFloor_42 rfl ?_
      refine j_get (n := 46) (k := 6) dX2_raiseFloor_43 rfl jcl2 (Nat.le_of_ble_eq_true rfl) fl_X2_18 (by first | decide | omega) (by first | assumption | rfl) (by rfl) ?_
      refine j_iload_n2 (n := 47) dX2_raiseFloor_46 rfl ?_
      refine j_iald_n (n := 48) dX2_raiseFloor_47 rfl (by first | decide | omega) (by first | assumption | rfl) (by decide) (by first | assumption | omega) ?_
      rw [q1 o ho]
      refine j_iconst (n := 49) (nI 1) dX2_raiseFloor_48 rfl (by decide) ?_
      refine j_iadd (n := 50) dX2_raiseFloor_49 rfl ?_
      refine j_topi (nI (F2 o + 1)) (nI_add _ _) ?_
      refine j_mmax (n := 53) dX2_raiseFloor_50 rfl ml_X2_69 mw_max (Nat.le_of_ble_eq_true rfl) (Nat.le_of_ble_eq_true rfl) ?_
      have em : (if nI (F2 i) < nI (F2 o + 1) then nI (F2 o + 1) else nI (F2 i)) = nI (if F2 i < F2 o + 1 then F2 o + 1 else F2 i) := by
        by_cases z : F2 i < F2 o + 1
        · rw [if_pos z, if_pos ((nI_ltI (by omega) (by omega)).mpr z)]
        · rw [if_neg z, if_neg (fun y => z ((nI_ltI (by omega) (by omega)).mp y))]
      refine j_topi _ em ?_
      refine j_iast_n (n := 54) dX2_raiseFloor_53 rfl (by first | decide | omega) (by first | assumption | rfl) (by decide) (by first | assumption | omega) ?_
      rw [va_uu]
      refine j_inc2 (n := 57) dX2_raiseFloor_54 rfl (Nat.le_of_ble_eq_true rfl) rfl ?_
      refine j_goto 2 dX2_raiseFloor_57 (by decide) ?_
      refine ih _ _ (updF q1) (fun s hs j hj => ?_) (fun j hj => ?_)
      · unfold setP
        by_cases e : j = i
        · rw [if_pos e, e]
          have z1 := q2 s hs i hi
          have z2 := q2 s hs o ho
          have z3 := sep_order hn hi ho hg hs e1
          split <;> omega
        · rw [if_neg e]
          exact q2 s hs j hj
      · unfold setP
        rw [if_neg hj]
        exact q3 j hj
  have h0 := key 0 (Nat.zero_le _) fr F hfr hF (fun j _ => rfl)
  rw [va_self h8] at h0
  exact h0
set_option maxRecDepth 100000 in
theorem con_X2_findFloors {g : jG} {M : jMem} {b sz : Int32} {n t : Nat} {fr pl : Nat → Int32} (h1 : 1 ≤ n) (hn : n ≤ 5) (hg : isG n t = true) (hx : EXg n t) (h5 : M 5 = .inr (2, oLeast g b sz (nI n) (lN t))) (h7 : M 7 = iA g 5 pl) (h8 : M 8 = iA g 5 fr) (hpl : ∀ j, j < n → pl j = iI (pu n t j)) : Con g jX2_findFloors 2 [.ref (jA g 5)] M (fun v M2 => ∃ fr2 F2, v = some (.int (nI (fb_sm F2 n))) ∧ M2 = va_up M 8 (iA g 5 fr2) ∧ (∀ j, j < n → fr2 j = nI (F2 j)) ∧ GoodF n t F2) := by
  have hpb := fun o => pu_bd n t o hn
  refine con_of (l := [some (.ref (jA g 5)), none, none, none]) (by decide) (Nat.le_of_ble_eq_true rfl) rfl ?_
  refine j_iconst (n := 1) (nI 0) dX2_findFloors_0 rfl (by decide) ?_
  refine j_istore_n1 (n := 2) dX2_findFloors_1 rfl (Nat.le_of_ble_eq_true rfl) rfl ?_
  -- the rounds
  have rounds : ∀ rd, rd ≤ n → ∀ (x3 : Option Value) (su : Nat) (fr2 : Nat → Int32) (F2 : Nat → Nat), jNL x3 = true → (∀ j, j < n → fr2 j = nI (F2 j)) → GoodF n t F2 → (rd ≠ 0 → su = fb_sm F2 n) → J g jX2_findFloors 2 (fun v M2 => ∃ fr2 F2, v = some (.int (nI (fb_sm F2 n))) ∧ M2 = va_up M 8 (iA g 5 fr2) ∧ (∀ j, j < n → fr2 j = nI (F2 j)) ∧ GoodF n t F2) 40 [some (.ref (jA g 5)), some (.int (nI su)), some (.int (nI rd)), x3] [] (va_up M 8 (iA g 5 fr2)) := by
    refine j_for ?_ ?_
    · intro x3 su fr2 F2 hx3 q1 q2 q3
      have m5 : va_up M 8 (iA g 5 fr2) 5 = .inr (2, oLeast g b sz (nI n) (lN t)) := h5
      refine j_iload_n2 (n := 41) dX2_findFloors_40 rfl ?_
      refine j_aload_n0 (n := 42) dX2_findFloors_41 rfl ?_
      refine j_get (n := 45) (k := 3) dX2_findFloors_42 rfl jcl2 (Nat.le_of_ble_eq_true rfl) fl_X2_28 (by first | decide | omega) (by first | assumption | rfl) (by rfl) ?_
      refine j_nicmp_ge (n := 48) 86 dX2_findFloors_45 rfl (by decide) (by omega) (by omega) (fun h => ?_) (fun h => ?_)
      rotate_left
      · omega
      refine j_iload_n1 (n := 87) dX2_findFloors_86 rfl ?_
      refine j_iret dX2_findFloors_87 rfl ?_
      exact ⟨fr2, F2, by rw [q3 (by omega)], rfl, q1, q2⟩
    · intro rd hrd ih x3 su fr2 F2 hx3 q1 q2 q3
      have m5 : va_up M 8 (iA g 5 fr2) 5 = .inr (2, oLeast g b sz (nI n) (lN t)) := h5
      refine j_iload_n2 (n := 41) dX2_findFloors_40 rfl ?_
      refine j_aload_n0 (n := 42) dX2_findFloors_41 rfl ?_
      refine j_get (n := 45) (k := 3) dX2_findFloors_42 rfl jcl2 (Nat.le_of_ble_eq_true rfl) fl_X2_28 (by first | decide | omega) (by first | assumption | rfl) (by rfl) ?_
      refine j_nicmp_ge (n := 48) 86 dX2_findFloors_45 rfl (by decide) (by omega) (by omega) (fun h => ?_) (fun h => ?_)
      · omega
      refine j_iconst (n := 49) (nI 0) dX2_findFloors_48 rfl (by decide) ?_
      refine j_istore_n1 (n := 50) dX2_findFloors_49 rfl (Nat.le_of_ble_eq_true rfl) rfl ?_
      refine j_iconst (n := 51) (nI 0) dX2_findFloors_50 rfl (by decide) ?_
      refine j_istore_n3 (n := 52) dX2_findFloors_51 rfl (Nat.le_of_ble_eq_true rfl) rfl ?_
      have inner : ∀ i, i ≤ n → ∀ (fr2 : Nat → Int32) (F2 : Nat → Nat), (∀ j, j < n → fr2 j = nI (F2 j)) → GoodF n t F2 → J g jX2_findFloors 2 (fun v M2 => ∃ fr2 F2, v = some (.int (nI (fb_sm F2 n))) ∧ M2 = va_up M 8 (iA g 5 fr2) ∧ (∀ j, j < n → fr2 j = nI (F2 j)) ∧ GoodF n t F2) 52 [some (.ref (jA g 5)), some (.int (nI (fb_sm F2 i))), some (.int (nI rd)), some (.int (nI i))] [] (va_up M 8 (iA g 5 fr2)) := by
        refine j_for ?_ ?_
        · intro fr2 F2 q1 q2
          have m5 : va_up M 8 (iA g 5 fr2) 5 = .inr (2, oLeast g b sz (nI n) (lN t)) := h5
          refine j_iload_n3 (n := 53) dX2_findFloors_52 rfl ?_
          refine j_aload_n0 (n := 54) dX2_findFloors_53 rfl ?_
          refine j_get (n := 57) (k := 3) dX2_findFloors_54 rfl jcl2 (Nat.le_of_ble_eq_true rfl) fl_X2_28 (by first | decide | omega) (by first | assumption | rfl) (by rfl) ?_
          refine j_nicmp_ge (n := 60) 80 dX2_findFloors_57 rfl (by decide) (by omega) (by omega) (fun h => ?_) (fun h => ?_)
          rotate_left
          · omega
          refine j_inc2 (n := 83) dX2_findFloors_80 rfl (Nat.le_of_ble_eq_true rfl) rfl ?_
          refine j_goto 40 dX2_findFloors_83 (by decide) ?_
          exact ih _ _ _ _ rfl q1 q2 (fun _ => rfl)
        · intro i hi ih2 fr2 F2 q1 q2
          have m5 : va_up M 8 (iA g 5 fr2) 5 = .inr (2, oLeast g b sz (nI n) (lN t)) := h5
          have m7 : va_up M 8 (iA g 5 fr2) 7 = iA g 5 pl := h7
          have m8 : va_up M 8 (iA g 5 fr2) 8 = iA g 5 fr2 := rfl
          refine j_iload_n3 (n := 53) dX2_findFloors_52 rfl ?_
          refine j_aload_n0 (n := 54) dX2_findFloors_53 rfl ?_
          refine j_get (n := 57) (k := 3) dX2_findFloors_54 rfl jcl2 (Nat.le_of_ble_eq_true rfl) fl_X2_28 (by first | decide | omega) (by first | assumption | rfl) (by rfl) ?_
          refine j_nicmp_ge (n := 60) 80 dX2_findFloors_57 rfl (by decide) (by omega) (by omega) (fun h => ?_) (fun h => ?_)
          · omega
          refine j_aload_n0 (n := 61) dX2_findFloors_60 rfl ?_
          refine j_iload_n3 (n := 62) dX2_findFloors_61 rfl ?_
          refine j_cV1 (n := 65) (con_X2_raiseFloor hn hg hx m5 m7 m8 hpl hi q1 q2) dX2_findFloors_62 rfl cal_X2_raiseFloor ml_X2_59 (Nat.le_of_ble_eq_true rfl) (by first | decide | omega) rfl rfl (Nat.le_of_ble_eq_true rfl) (by first | assumption | rfl) ?_
          rintro _ M2 ⟨rfl, fr3, F3, rfl, y1, y2, y3⟩
          rw [va_uu]
          have m5 : va_up M 8 (iA g 5 fr3) 5 = .inr (2, oLeast g b sz (nI n) (lN t)) := h5
          have m8 : va_up M 8 (iA g 5 fr3) 8 = iA g 5 fr3 := rfl
          refine j_iload_n1 (n := 66) dX2_findFloors_65 rfl ?_
          refine j_aload_n0 (n := 67) dX2_findFloors_66 rfl ?_
          refine j_get (n := 70) (k := 6) dX2_findFloors_67 rfl jcl2 (Nat.le_of_ble_eq_true rfl) fl_X2_18 (by first | decide | omega) (by first | assumption | rfl) (by rfl) ?_
          refine j_iload_n3 (n := 71) dX2_findFloors_70 rfl ?_
          refine j_iald_n (n := 72) dX2_findFloors_71 rfl (by first | decide | omega) (by first | assumption | rfl) (by decide) (by first | assumption | omega) ?_
          rw [y1 i hi]
          have e1 : fb_sm F2 i = fb_sm F3 i := fb_sm_cong (fun j hj => (y3 j (by omega)).symm)
          rw [e1]
          refine j_iadd (n := 73) dX2_findFloors_72 rfl ?_
          refine j_topi (nI (fb_sm F3 (i + 1))) (nI_add _ _) ?_
          refine j_istore_n1 (n := 74) dX2_findFloors_73 rfl (Nat.le_of_ble_eq_true rfl) rfl ?_
          refine j_inc3 (n := 77) dX2_findFloors_74 rfl (Nat.le_of_ble_eq_true rfl) rfl ?_
          refine j_goto 52 dX2_findFloors_77 (by decide) ?_
          exact ih2 _ _ y1 y2
      exact inner 0 (Nat.zero_le _) fr2 F2 q1 q2
  have first : ∀ i, i ≤ n → ∀ (x2 x3 : Option Value) (fr2 : Nat → Int32), jNL x2 = true → jNL x3 = true → (∀ j, j < i → fr2 j = nI (if pu n t j = 0 then 0 else 1)) → J g jX2_findFloors 2 (fun v M2 => ∃ fr2 F2, v = some (.int (nI (fb_sm F2 n))) ∧ M2 = va_up M 8 (iA g 5 fr2) ∧ (∀ j, j < n → fr2 j = nI (F2 j)) ∧ GoodF n t F2) 2 [some (.ref (jA g 5)), some (.int (nI i)), x2, x3] [] (va_up M 8 (iA g 5 fr2)) := by
    refine j_for ?_ ?_
    · intro x2 x3 fr2 hx2 hx3 q1
      have m5 : va_up M 8 (iA g 5 fr2) 5 = .inr (2, oLeast g b sz (nI n) (lN t)) := h5
      refine j_iload_n1 (n := 3) dX2_findFloors_2 rfl ?_
      refine j_aload_n0 (n := 4) dX2_findFloors_3 rfl ?_
      refine j_get (n := 7) (k := 3) dX2_findFloors_4 rfl jcl2 (Nat.le_of_ble_eq_true rfl) fl_X2_28 (by first | decide | omega) (by first | assumption | rfl) (by rfl) ?_
      refine j_nicmp_ge (n := 10) 36 dX2_findFloors_7 rfl (by decide) (by omega) (by omega) (fun h => ?_) (fun h => ?_)
      rotate_left
      · omega
      refine j_iconst (n := 37) (nI 0) dX2_findFloors_36 rfl (by decide) ?_
      refine j_istore_n1 (n := 38) dX2_findFloors_37 rfl (Nat.le_of_ble_eq_true rfl) rfl ?_
      refine j_iconst (n := 39) (nI 0) dX2_findFloors_38 rfl (by decide) ?_
      refine j_istore_n2 (n := 40) dX2_findFloors_39 rfl (Nat.le_of_ble_eq_true rfl) rfl ?_
      refine rounds 0 (Nat.zero_le _) _ 0 fr2 (fun j => if pu n t j = 0 then 0 else 1) (by first | assumption | rfl) q1 (fun s hs j hj => ?_) (fun z => (z rfl).elim)
      by_cases z : pu n t j = 0
      · simp [z]
      · simp [z]
        exact sep_pos hn hj hs z
    · intro i hi ih x2 x3 fr2 hx2 hx3 q1
      have m5 : va_up M 8 (iA g 5 fr2) 5 = .inr (2, oLeast g b sz (nI n) (lN t)) := h5
      have m7 : va_up M 8 (iA g 5 fr2) 7 = iA g 5 pl := h7
      have m8 : va_up M 8 (iA g 5 fr2) 8 = iA g 5 fr2 := rfl
      have hpi := hpb i
      have h29 : ∀ z : Nat, z = (if pu n t i = 0 then 0 else 1) → J g jX2_findFloors 2 (fun v M2 => ∃ fr2 F2, v = some (.int (nI (fb_sm F2 n))) ∧ M2 = va_up M 8 (iA g 5 fr2) ∧ (∀ j, j < n → fr2 j = nI (F2 j)) ∧ GoodF n t F2) 29 [some (.ref (jA g 5)), some (.int (nI i)), x2, x3] [.int (nI z), .int (nI i), .ref (jA g 8)] (va_up M 8 (iA g 5 fr2)) := by
        intro z hz
        refine j_iast_n (n := 30) dX2_findFloors_29 rfl (by first | decide | omega) (by first | assumption | rfl) (by decide) (by first | assumption | omega) ?_
        rw [va_uu]
        refine j_inc1 (n := 33) dX2_findFloors_30 rfl (Nat.le_of_ble_eq_true rfl) rfl ?_
        refine j_goto 2 dX2_findFloors_33 (by decide) ?_
        refine ih _ _ _ hx2 hx3 (fun j hj => ?_)
        unfold upd
        by_cases e : j = i
        · rw [if_pos e, e, hz]
        · rw [if_neg e]
          exact q1 j (by omega)
      refine j_iload_n1 (n := 3) dX2_findFloors_2 rfl ?_
      refine j_aload_n0 (n := 4) dX2_findFloors_3 rfl ?_
      refine j_get (n := 7) (k := 3) dX2_findFloors_4 rfl jcl2 (Nat.le_of_ble_eq_true rfl) fl_X2_28 (by first | decide | omega) (by first | assumption | rfl) (by rfl) ?_
      refine j_nicmp_ge (n := 10) 36 dX2_findFloors_7 rfl (by decide) (by omega) (by omega) (fun h => ?_) (fun h => ?_)
      · omega
      refine j_aload_n0 (n := 11) dX2_findFloors_10 rfl ?_
      refine j_get (n := 14) (k := 6) dX2_findFloors_11 rfl jcl2 (Nat.le_of_ble_eq_true rfl) fl_X2_18 (by first | decide | omega) (by first | assumption | rfl) (by rfl) ?_
      refine j_iload_n1 (n := 15) dX2_findFloors_14 rfl ?_
      refine j_aload_n0 (n := 16) dX2_findFloors_15 rfl ?_
      refine j_get (n := 19) (k := 5) dX2_findFloors_16 rfl jcl2 (Nat.le_of_ble_eq_true rfl) fl_X2_15 (by first | decide | omega) (by first | assumption | rfl) (by rfl) ?_
      refine j_iload_n1 (n := 20) dX2_findFloors_19 rfl ?_
      refine j_iald_n (n := 21) dX2_findFloors_20 rfl (by first | decide | omega) (by first | assumption | rfl) (by decide) (by first | assumption | omega) ?_
      rw [hpl i hi]
      refine j_if_ne (n := 24) 28 dX2_findFloors_21 rfl (by decide) (fun e3 => ?_) (fun e3 => ?_)
      · have e4 : pu n t i ≠ 0 := fun z => e3 (by rw [z]; rfl)
        refine j_iconst (n := 29) (nI 1) dX2_findFloors_28 rfl (by decide) ?_
        exact h29 1 (by rw [if_neg e4])
      · have e4 : pu n t i = 0 := (iI_eq (b := 0) (by omega) (by omega)).mp e3
        refine j_iconst (n := 25) (nI 0) dX2_findFloors_24 rfl (by decide) ?_
        refine j_goto 29 dX2_findFloors_25 (by decide) ?_
        exact h29 0 (by rw [if_pos e4])
  have h0 := first 0 (Nat.zero_le _) none none fr rfl rfl (fun j hj => absurd hj (Nat.not_lt_zero j))
  rw [va_self h8] at h0
  exact h0
