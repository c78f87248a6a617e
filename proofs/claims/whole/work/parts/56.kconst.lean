def kTb (n : Nat) (b : Bool) (t : Nat) : Bool := (LMl n t).all (fun u => Nat.ble t u) && (b || isG n t)
theorem chF_all {n t : Nat} (hn : n < 5) (ht : t < 2 ^ 2 ^ n) : decide (chF n t = t) = (LMl n t).all (fun u => Nat.ble t u) := by
  have h1 : t ∈ LC n t := (LC_I hn ht).mem_iff.mpr (t_LI hn ht)
  have h2 : t ∈ LMl n t := (LCM hn ht).mem_iff.mp h1
  obtain ⟨a1, a2, a3⟩ := mn_spec (LMl n t) (2 ^ 2 ^ n - 1)
  rw [Bool.eq_iff_iff, decide_eq_true_eq, List.all_eq_true]
  unfold chF
  constructor
  · intro h u hu
    have := a2 u hu
    exact Nat.ble_eq.mpr (by omega)
  · intro h
    have c1 := a2 t h2
    rcases a3 with z | z
    · omega
    · have := Nat.ble_eq.mp (h _ z)
      omega
theorem kindsF_b {n : Nat} {b : Bool} (hn : n < 5) : kindsF n b = cnt (2 ^ 2 ^ n) (kTb n b) := by
  unfold kindsF
  apply cnt_ext
  intro t ht
  rw [chF_all hn ht]
  rfl
set_option maxRecDepth 100000 in
theorem kc_1 : cnt (2 ^ 2 ^ 1) (kTb 1 true) = 2 ∧ cnt (2 ^ 2 ^ 1) (kTb 1 false) = 2 := by decide +kernel
set_option maxRecDepth 100000 in
theorem kc_2 : cnt (2 ^ 2 ^ 2) (kTb 2 true) = 4 ∧ cnt (2 ^ 2 ^ 2) (kTb 2 false) = 3 := by decide +kernel
set_option maxRecDepth 100000 in
theorem kc_3a : cnt (2 ^ 2 ^ 3) (kTb 3 true) = 14 := by decide +kernel
set_option maxRecDepth 100000 in
theorem kc_3b : cnt (2 ^ 2 ^ 3) (kTb 3 false) = 6 := by decide +kernel
theorem KO_v : ∀ n, 1 ≤ n → n ≤ 3 → (jSt 1).2.2.2.2.2 n = .int (nI (kindsF n true)) := by
  intro n h1 h2
  rw [kindsF_b (by omega)]
  rcases (show n = 1 ∨ n = 2 ∨ n = 3 by omega) with y | y | y <;> subst y
  · rw [kc_1.1]; rfl
  · rw [kc_2.1]; rfl
  · rw [kc_3a]; rfl
theorem KG_v : ∀ n, 1 ≤ n → n ≤ 3 → (jSt 2).2.2.2.2.2 n = .int (nI (kindsF n false)) := by
  intro n h1 h2
  rw [kindsF_b (by omega)]
  rcases (show n = 1 ∨ n = 2 ∨ n = 3 by omega) with y | y | y <;> subst y
  · rw [kc_1.2]; rfl
  · rw [kc_2.2]; rfl
  · rw [kc_3b]; rfl
set_option maxRecDepth 100000 in
theorem con_X7_kinds {g : jG} {M : jMem} {x : Int32} {b : Bool} : Fn g jX7_kinds 1 [.ref (jA g 0), .int x, .int (jB b)] M (.int (sp_kinds x b)) := by
  refine con_of (l := [some (.ref (jA g 0)), some (.int x), some (.int (jB b))]) (by decide) (Nat.le_of_ble_eq_true rfl) rfl ?_
  refine j_iload_n1 (n := 1) dX7_kinds_0 rfl ?_
  refine j_iconst (n := 2) (nI 1) dX7_kinds_1 rfl (by decide) ?_
  refine j_iconst (n := 3) (nI 3) dX7_kinds_2 rfl (by decide) ?_
  refine j_fnS3 (n := 6) con_X7_isWithin dX7_kinds_3 rfl cal_X7_isWithin ml_X7_62 (Nat.le_of_ble_eq_true rfl) (Nat.le_of_ble_eq_true rfl) ?_
  rw [show decide (nI 1 ≤ x ∧ x ≤ nI 3) = isTo 3 x from rfl]
  refine j_bif_ne (n := 9) 12 dX7_kinds_6 rfl (by decide) (fun e1 => ?_) (fun e1 => ?_)
  rotate_left
  · refine j_bipush (n := 11) (-2) dX7_kinds_9 rfl (by decide) ?_
    refine j_iret dX7_kinds_11 rfl ?_
    exact ⟨by simp [sp_kinds, e1], rfl⟩
  obtain ⟨n, hn1, hn3, rfl⟩ := isTo_of (by decide) e1
  have cn := nI_clamp (show n < 2 ^ 31 by omega)
  refine j_iload_n2 (n := 13) dX7_kinds_12 rfl ?_
  refine j_bif_eq (n := 16) 24 dX7_kinds_13 rfl (by decide) (fun e2 => ?_) (fun e2 => ?_)
  · refine j_gets (n := 27) (kz := 2) dX7_kinds_24 rfl (Nat.le_of_ble_eq_true rfl) fl_X7_154 ?_
    refine j_iload_n1 (n := 28) dX7_kinds_27 rfl ?_
    refine j_tild_n (n := 29) (v := nI (kindsF n false)) dX7_kinds_28 rfl (Nat.le_of_ble_eq_true rfl) rfl (by decide) (show n < 4 by omega) (KG_v n hn1 hn3) ?_
    refine j_iret dX7_kinds_29 rfl ?_
    exact ⟨by simp [sp_kinds, e1, cn, e2], rfl⟩
  · refine j_gets (n := 19) (kz := 1) dX7_kinds_16 rfl (Nat.le_of_ble_eq_true rfl) fl_X7_151 ?_
    refine j_iload_n1 (n := 20) dX7_kinds_19 rfl ?_
    refine j_tild_n (n := 21) (v := nI (kindsF n true)) dX7_kinds_20 rfl (Nat.le_of_ble_eq_true rfl) rfl (by decide) (show n < 4 by omega) (KO_v n hn1 hn3) ?_
    refine j_goto 29 dX7_kinds_21 (by decide) ?_
    refine j_iret dX7_kinds_29 rfl ?_
    exact ⟨by simp [sp_kinds, e1, cn, e2], rfl⟩
