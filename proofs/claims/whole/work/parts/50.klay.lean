theorem cnt_no (f : Nat → Bool) : ∀ N, (∀ u, u < N → f u = false) → cnt N f = 0
  | 0, _ => rfl
  | N + 1, h => by
    show cnt N f + (if f N then 1 else 0) = 0
    rw [cnt_no f N (fun u hu => h u (by omega)), h N (by omega)]
    rfl
theorem dis_nil (N : Nat) : dis N [] = 0 := cnt_no _ N (fun u _ => by simp)
/-- what the reference meets for one order -/
def FK (n t k : Nat) : List Nat := if frm (ordK n k) (2 ^ n - 1) n = 2 ^ n - 1 then tlM n (chg n t (ordK n k)) else []
def LK (n t k : Nat) : List Nat := (List.range k).flatMap (FK n t)
theorem LK_s (n t k : Nat) : LK n t (k + 1) = LK n t k ++ FK n t k := by
  unfold LK
  rw [List.range_succ, List.flatMap_append]
  simp
def TK (n u m : Nat) : List Nat := (List.range m).flatMap fun m => [turnT n u m, (2 ^ 2 ^ n - 1) ^^^ turnT n u m]
theorem TK_s (n u m : Nat) : TK n u (m + 1) = TK n u m ++ [turnT n u m, (2 ^ 2 ^ n - 1) ^^^ turnT n u m] := by
  unfold TK
  rw [List.range_succ, List.flatMap_append]
  simp
theorem xor_lt {a b k : Nat} (ha : a < 2 ^ k) (hb : b < 2 ^ k) : a ^^^ b < 2 ^ k := Nat.xor_lt_two_pow ha hb
theorem TK_lt {n u m x : Nat} (h : x ∈ TK n u m) : x < 2 ^ 2 ^ n := by
  unfold TK at h
  obtain ⟨a, _, h2⟩ := List.mem_flatMap.mp h
  have hp : 0 < 2 ^ 2 ^ n := Nat.two_pow_pos _
  rcases List.mem_cons.mp h2 with e | e
  · rw [e]; exact turnT_lt _ _ _
  · rw [List.mem_singleton.mp e]
    exact xor_lt (by omega) (turnT_lt _ _ _)
theorem FK_lt {n t k x : Nat} (h : x ∈ FK n t k) : x < 2 ^ 2 ^ n := by
  unfold FK at h
  split at h
  · exact TK_lt (u := chg n t (ordK n k)) (m := 2 ^ n) h
  · exact (List.not_mem_nil h).elim
theorem LK_lt {n t k x : Nat} (h : x ∈ LK n t k) : x < 2 ^ 2 ^ n := by
  unfold LK at h
  obtain ⟨a, _, h2⟩ := List.mem_flatMap.mp h
  exact FK_lt h2
theorem ones_bit {n i : Nat} (h : i < n) : (2 ^ n - 1).testBit i = true := by
  rw [Nat.testBit_two_pow_sub_one]
  simp [h]
theorem pw65 {n : Nat} (h : n ≤ 4) : 2 ^ 2 ^ n ≤ 65536 := Nat.pow_le_pow_right (n := 2) (by omega) (pw16 h)
theorem pn256 {n : Nat} (h : n ≤ 4) : n ^ n ≤ 256 := by
  rcases (show n = 0 ∨ n = 1 ∨ n = 2 ∨ n = 3 ∨ n = 4 by omega) with e | e | e | e | e <;> rw [e] <;> decide
theorem pni {n i : Nat} (h : n ≤ 4) (hi : i ≤ n) : n ^ i ≤ 256 := by
  have h2 : n ^ i ≤ n ^ n ∨ n = 0 := by
    rcases Nat.eq_zero_or_pos n with e | e
    · exact Or.inr e
    · exact Or.inl (Nat.pow_le_pow_right e hi)
  rcases h2 with e | e
  · exact Nat.le_trans e (pn256 h)
  · rw [e, show i = 0 by omega]
    decide
theorem chg_lt (n t : Nat) (o : Nat → Nat) : chg n t o < 2 ^ 2 ^ n := mkT_lt _ _
set_option maxRecDepth 100000 in
theorem con_X8_layKind {g : jG} {M : jMem} {q : jMq} {n t m : Nat} {od0 f0 : Nat → Int32} (h34 : M 34 = .inr (7, oMod g q)) (h42 : M 42 = iA g 4 od0) (h43 : M 43 = iA g 65536 f0) (h1 : 1 ≤ n) (hn : n ≤ 4) (ht : t < 2 ^ 32) (hq : q.2.2.2.2.1 = nI m) (hm : m + 1 < 2 ^ 31) (hf0 : ∀ u, u < 65536 → ∃ k, k ≤ m ∧ f0 u = nI k) : Con g jX8_layKind 2 [.ref (jA g 34), .long (lN t), .int (nI n)] M (fun v M2 => v = none ∧ ∃ od f, M2 = MK g M q (nI (m + 1)) (chF n t) (kinF n t) od f ∧ ∀ u, u < 65536 → ∃ k, k ≤ m + 1 ∧ f u = nI k) := by
  have h16 := pw16 hn
  have h65 := pw65 hn
  have hpos : 0 < 2 ^ 2 ^ n := Nat.two_pow_pos _
  have hpn : 0 < 2 ^ n := Nat.two_pow_pos _
  have h256 := pn256 hn
  have hne : ∀ u, u < 65536 → f0 u ≠ nI (m + 1) := fun u hu e => by
    obtain ⟨k, hk, hk2⟩ := hf0 u hu
    rw [hk2] at e
    have := (nI_eq (by omega) (by omega)).mp e
    omega
  refine con_of (l := [some (.ref (jA g 34)), some (.long (lN t)), none, some (.int (nI n)), none, none, none, none, none, none, none, none, none]) (by decide) (Nat.le_of_ble_eq_true rfl) rfl ?_
  refine j_aload_n0 (n := 1) dX8_layKind_0 rfl ?_
  refine j_dup (n := 2) dX8_layKind_1 rfl rfl ?_
  refine j_get (n := 5) (k := 13) dX8_layKind_2 rfl jcl7 (Nat.le_of_ble_eq_true rfl) fl_X8_168 (by first | decide | omega) (by first | assumption | rfl) (by rfl) ?_
  rw [hq]
  refine j_iconst (n := 6) (nI 1) dX8_layKind_5 rfl (by decide) ?_
  refine j_iadd (n := 7) dX8_layKind_6 rfl ?_
  refine j_topi (nI (m + 1)) (nI_add _ _) ?_
  refine j_put (n := 10) (k := 13) (fs2 := oMod g (qK q (nI (m + 1)) q.2.2.2.2.2.1 q.2.2.2.2.2.2.1)) dX8_layKind_7 rfl jcl7 tyX8_ok nmX8 (Nat.le_of_ble_eq_true rfl) rfl (tyX8_ok 13 (Nat.le_of_ble_eq_true rfl)) fl_X8_168 (by rfl) (by rfl) (by first | decide | omega) (by first | assumption | rfl) (Nat.le_of_ble_eq_true rfl) (by rfl) ?_
  have m34 : va_up M 34 (.inr (7, oMod g (qK q (nI (m + 1)) q.2.2.2.2.2.1 q.2.2.2.2.2.2.1))) 34 = .inr (7, oMod g (qK q (nI (m + 1)) q.2.2.2.2.2.1 q.2.2.2.2.2.2.1)) := va_at_eq
  refine j_aload_n0 (n := 11) dX8_layKind_10 rfl ?_
  refine j_iload_n3 (n := 12) dX8_layKind_11 rfl ?_
  refine j_fnS1 (n := 15) (con_X8_whole (by omega)) dX8_layKind_12 rfl cal_X8_whole ml_X8_94 (Nat.le_of_ble_eq_true rfl) (Nat.le_of_ble_eq_true rfl) ?_
  refine j_put (n := 18) (k := 14) (fs2 := oMod g (qK q (nI (m + 1)) (lN (2 ^ 2 ^ n - 1)) q.2.2.2.2.2.2.1)) dX8_layKind_15 rfl jcl7 tyX8_ok nmX8 (Nat.le_of_ble_eq_true rfl) rfl (tyX8_ok 14 (Nat.le_of_ble_eq_true rfl)) fl_X8_165 (by rfl) (by rfl) (by first | decide | omega) (by first | assumption | rfl) (Nat.le_of_ble_eq_true rfl) (by rfl) ?_
  rw [va_uu]
  have m34 : va_up M 34 (.inr (7, oMod g (qK q (nI (m + 1)) (lN (2 ^ 2 ^ n - 1)) q.2.2.2.2.2.2.1))) 34 = .inr (7, oMod g (qK q (nI (m + 1)) (lN (2 ^ 2 ^ n - 1)) q.2.2.2.2.2.2.1)) := va_at_eq
  refine j_aload_n0 (n := 19) dX8_layKind_18 rfl ?_
  refine j_iconst (n := 20) (nI 0) dX8_layKind_19 rfl (by decide) ?_
  refine j_put (n := 23) (k := 15) (fs2 := oMod g (qK q (nI (m + 1)) (lN (2 ^ 2 ^ n - 1)) (nI 0))) dX8_layKind_20 rfl jcl7 tyX8_ok nmX8 (Nat.le_of_ble_eq_true rfl) rfl (tyX8_ok 15 (Nat.le_of_ble_eq_true rfl)) fl_X8_171 (by rfl) (by rfl) (by first | decide | omega) (by first | assumption | rfl) (Nat.le_of_ble_eq_true rfl) (by rfl) ?_
  rw [va_uu]
  have eM : va_up M 34 (.inr (7, oMod g (qK q (nI (m + 1)) (lN (2 ^ 2 ^ n - 1)) (nI 0)))) = MK g M q (nI (m + 1)) (mn (2 ^ 2 ^ n - 1) (LK n t 0)) (dis (2 ^ 2 ^ n) (LK n t 0)) od0 f0 := by
    show _ = MK g M q (nI (m + 1)) (2 ^ 2 ^ n - 1) (dis (2 ^ 2 ^ n) []) od0 f0
    rw [dis_nil]
    refine MK_eq va_at_eq ?_ ?_ (fun k k1 k2 k3 => va_at_ne k1)
    · rw [va_at_ne (by decide), h42]
    · rw [va_at_ne (by decide), h43]
  rw [eM]
  clear m34 eM
  refine j_iconst (n := 24) (nI 1) dX8_layKind_23 rfl (by decide) ?_
  refine j_istore4 (n := 26) dX8_layKind_24 rfl (Nat.le_of_ble_eq_true rfl) rfl ?_
  refine j_iconst (n := 27) (nI 0) dX8_layKind_26 rfl (by decide) ?_
  refine j_istore5 (n := 29) dX8_layKind_27 rfl (Nat.le_of_ble_eq_true rfl) rfl ?_
  have lp1 : ∀ i, i ≤ n → J g jX8_layKind 2 (fun v M2 => v = none ∧ ∃ od f, M2 = MK g M q (nI (m + 1)) (chF n t) (kinF n t) od f ∧ ∀ u, u < 65536 → ∃ k, k ≤ m + 1 ∧ f u = nI k) 29 [some (.ref (jA g 34)), some (.long (lN t)), none, some (.int (nI n)), some (.int (nI (n ^ i))), some (.int (nI i)), none, none, none, none, none, none, none] [] (MK g M q (nI (m + 1)) (mn (2 ^ 2 ^ n - 1) (LK n t 0)) (dis (2 ^ 2 ^ n) (LK n t 0)) od0 f0) := by
    refine j_for ?_ ?_
    rotate_left
    · intro i hi ih
      refine j_iload5 (n := 31) dX8_layKind_29 rfl ?_
      refine j_iload_n3 (n := 32) dX8_layKind_31 rfl ?_
      refine j_nicmp_ge (n := 35) 47 dX8_layKind_32 rfl (by decide) (by omega) (by omega) (fun h => ?_) (fun h => ?_)
      · omega
      refine j_iload4 (n := 37) dX8_layKind_35 rfl ?_
      refine j_iload_n3 (n := 38) dX8_layKind_37 rfl ?_
      refine j_imul (n := 39) dX8_layKind_38 rfl ?_
      refine j_topi (nI (n ^ (i + 1))) (by rw [pk_mul, Nat.pow_succ]) ?_
      refine j_istore4 (n := 41) dX8_layKind_39 rfl (Nat.le_of_ble_eq_true rfl) rfl ?_
      refine j_inc5 (n := 44) dX8_layKind_41 rfl (Nat.le_of_ble_eq_true rfl) rfl ?_
      refine j_goto 29 dX8_layKind_44 (by decide) ?_
      exact ih
    · refine j_iload5 (n := 31) dX8_layKind_29 rfl ?_
      refine j_iload_n3 (n := 32) dX8_layKind_31 rfl ?_
      refine j_nicmp_ge (n := 35) 47 dX8_layKind_32 rfl (by decide) (by omega) (by omega) (fun h => ?_) (fun h => ?_)
      rotate_left
      · omega
      refine j_iconst (n := 48) (nI 0) dX8_layKind_47 rfl (by decide) ?_
      refine j_istore5 (n := 50) dX8_layKind_48 rfl (Nat.le_of_ble_eq_true rfl) rfl ?_
      have key : ∀ k, k ≤ n ^ n → ∀ (x6 x7 x8 x9 x10 x11 x12 : Option Value) (od f : Nat → Int32), mkOK (nI (m + 1)) f0 f (LK n t k) → J g jX8_layKind 2 (fun v M2 => v = none ∧ ∃ od f, M2 = MK g M q (nI (m + 1)) (chF n t) (kinF n t) od f ∧ ∀ u, u < 65536 → ∃ k, k ≤ m + 1 ∧ f u = nI k) 50 [some (.ref (jA g 34)), some (.long (lN t)), none, some (.int (nI n)), some (.int (nI (n ^ n))), some (.int (nI k)), x6, x7, x8, x9, x10, x11, x12] [] (MK g M q (nI (m + 1)) (mn (2 ^ 2 ^ n - 1) (LK n t k)) (dis (2 ^ 2 ^ n) (LK n t k)) od f) := by
        refine j_for ?_ ?_
        · intro x6 x7 x8 x9 x10 x11 x12 od f hf
          refine j_iload5 (n := 52) dX8_layKind_50 rfl ?_
          refine j_iload4 (n := 54) dX8_layKind_52 rfl ?_
          refine j_nicmp_ge (n := 57) 178 dX8_layKind_54 rfl (by decide) (by omega) (by omega) (fun h => ?_) (fun h => ?_)
          rotate_left
          · omega
          refine j_vret dX8_layKind_178 rfl ?_
          refine ⟨rfl, od, f, rfl, fun u hu => ?_⟩
          rcases Classical.em (u ∈ LK n t (n ^ n)) with z | z
          · exact ⟨m + 1, Nat.le_refl _, (hf u hu).1 z⟩
          · obtain ⟨k, hk, hk2⟩ := hf0 u hu
            exact ⟨k, by omega, by rw [(hf u hu).2 z, hk2]⟩
        · intro k hk ih x6 x7 x8 x9 x10 x11 x12 od f hf
          refine j_iload5 (n := 52) dX8_layKind_50 rfl ?_
          refine j_iload4 (n := 54) dX8_layKind_52 rfl ?_
          refine j_nicmp_ge (n := 57) 178 dX8_layKind_54 rfl (by decide) (by omega) (by omega) (fun h => ?_) (fun h => ?_)
          · omega
          refine j_iload5 (n := 59) dX8_layKind_57 rfl ?_
          refine j_istore6 (n := 61) dX8_layKind_59 rfl (Nat.le_of_ble_eq_true rfl) rfl ?_
          refine j_iconst (n := 62) (nI 0) dX8_layKind_61 rfl (by decide) ?_
          refine j_istore7 (n := 64) dX8_layKind_62 rfl (Nat.le_of_ble_eq_true rfl) rfl ?_
          refine j_iconst (n := 65) (nI 0) dX8_layKind_64 rfl (by decide) ?_
          refine j_istore8 (n := 67) dX8_layKind_65 rfl (Nat.le_of_ble_eq_true rfl) rfl ?_
          have lp2 : ∀ i, i ≤ n → ∀ od : Nat → Int32, (∀ j, j < i → od j = nI (ordK n k j)) → J g jX8_layKind 2 (fun v M2 => v = none ∧ ∃ od f, M2 = MK g M q (nI (m + 1)) (chF n t) (kinF n t) od f ∧ ∀ u, u < 65536 → ∃ k, k ≤ m + 1 ∧ f u = nI k) 67 [some (.ref (jA g 34)), some (.long (lN t)), none, some (.int (nI n)), some (.int (nI (n ^ n))), some (.int (nI k)), some (.int (nI (k / n ^ i))), some (.int (nI (frm (ordK n k) (2 ^ n - 1) i))), some (.int (nI i)), x9, x10, x11, x12] [] (MK g M q (nI (m + 1)) (mn (2 ^ 2 ^ n - 1) (LK n t k)) (dis (2 ^ 2 ^ n) (LK n t k)) od f) := by
            refine j_for ?_ ?_
            rotate_left
            · intro i hi ih2 od hod
              have m34 : MK g M q (nI (m + 1)) (mn (2 ^ 2 ^ n - 1) (LK n t k)) (dis (2 ^ 2 ^ n) (LK n t k)) od f 34 = .inr (7, oMod g (qK q (nI (m + 1)) (lN (mn (2 ^ 2 ^ n - 1) (LK n t k))) (nI (dis (2 ^ 2 ^ n) (LK n t k))))) := rfl
              have m42 : MK g M q (nI (m + 1)) (mn (2 ^ 2 ^ n - 1) (LK n t k)) (dis (2 ^ 2 ^ n) (LK n t k)) od f 42 = iA g 4 od := rfl
              have hkd : k / n ^ i < 2 ^ 31 := Nat.lt_of_le_of_lt (Nat.div_le_self _ _) (by omega)
              have hn0 : ¬ nI n = 0 := fun e => by
                have := (nI_eq (b := 0) (by omega) (by omega)).mp e
                omega
              have hor : ordK n k i < n := Nat.mod_lt _ h1
              refine j_iload8 (n := 69) dX8_layKind_67 rfl ?_
              refine j_iload_n3 (n := 70) dX8_layKind_69 rfl ?_
              refine j_nicmp_ge (n := 73) 110 dX8_layKind_70 rfl (by decide) (by omega) (by omega) (fun h => ?_) (fun h => ?_)
              · omega
              refine j_aload_n0 (n := 74) dX8_layKind_73 rfl ?_
              refine j_get (n := 77) (k := 11) dX8_layKind_74 rfl jcl7 (Nat.le_of_ble_eq_true rfl) fl_X8_39 (by first | decide | omega) (by first | assumption | rfl) (by rfl) ?_
              refine j_iload8 (n := 79) dX8_layKind_77 rfl ?_
              refine j_iload6 (n := 81) dX8_layKind_79 rfl ?_
              refine j_iload_n3 (n := 82) dX8_layKind_81 rfl ?_
              refine j_irem (n := 83) dX8_layKind_82 rfl (by first | assumption | decide) ?_
              refine j_topi (nI (ordK n k i)) (pk_rem hkd h1 (by omega)) ?_
              refine j_iast_n (n := 84) dX8_layKind_83 rfl (by first | decide | omega) (by first | assumption | rfl) (by decide) (by first | assumption | omega) ?_
              rw [MK_u42]
              have m34 : MK g M q (nI (m + 1)) (mn (2 ^ 2 ^ n - 1) (LK n t k)) (dis (2 ^ 2 ^ n) (LK n t k)) (upd od i (nI (ordK n k i))) f 34 = .inr (7, oMod g (qK q (nI (m + 1)) (lN (mn (2 ^ 2 ^ n - 1) (LK n t k))) (nI (dis (2 ^ 2 ^ n) (LK n t k))))) := rfl
              have m42 : MK g M q (nI (m + 1)) (mn (2 ^ 2 ^ n - 1) (LK n t k)) (dis (2 ^ 2 ^ n) (LK n t k)) (upd od i (nI (ordK n k i))) f 42 = iA g 4 (upd od i (nI (ordK n k i))) := rfl
              refine j_iload7 (n := 86) dX8_layKind_84 rfl ?_
              refine j_iconst (n := 87) (nI 1) dX8_layKind_86 rfl (by decide) ?_
              refine j_aload_n0 (n := 88) dX8_layKind_87 rfl ?_
              refine j_get (n := 91) (k := 11) dX8_layKind_88 rfl jcl7 (Nat.le_of_ble_eq_true rfl) fl_X8_39 (by first | decide | omega) (by first | assumption | rfl) (by rfl) ?_
              refine j_iload8 (n := 93) dX8_layKind_91 rfl ?_
              refine j_iald_n (n := 94) dX8_layKind_93 rfl (by first | decide | omega) (by first | assumption | rfl) (by decide) (by first | assumption | omega) ?_
              refine j_topi (nI (ordK n k i)) (if_pos rfl) ?_
              refine j_ishl (n := 95) dX8_layKind_94 rfl ?_
              refine j_topi (nI (2 ^ ordK n k i)) (ai_shl1 (by omega)) ?_
              refine j_ior (n := 96) dX8_layKind_95 rfl ?_
              refine j_topi (nI (frm (ordK n k) (2 ^ n - 1) (i + 1))) (by rw [fa_or]; show _ = nI (_ ||| (if (2 ^ n - 1).testBit i then 2 ^ ordK n k i else 0)); rw [ones_bit hi, if_pos rfl]) ?_
              refine j_istore7 (n := 98) dX8_layKind_96 rfl (Nat.le_of_ble_eq_true rfl) rfl ?_
              refine j_iload6 (n := 100) dX8_layKind_98 rfl ?_
              refine j_iload_n3 (n := 101) dX8_layKind_100 rfl ?_
              refine j_idiv (n := 102) dX8_layKind_101 rfl (by first | assumption | decide) ?_
              refine j_topi (nI (k / n ^ (i + 1))) (by rw [pk_div hkd h1 (by omega), Nat.div_div_eq_div_mul, Nat.pow_succ]) ?_
              refine j_istore6 (n := 104) dX8_layKind_102 rfl (Nat.le_of_ble_eq_true rfl) rfl ?_
              refine j_inc8 (n := 107) dX8_layKind_104 rfl (Nat.le_of_ble_eq_true rfl) rfl ?_
              refine j_goto 67 dX8_layKind_107 (by decide) ?_
              refine ih2 _ (fun j hj => ?_)
              unfold upd
              by_cases z : j = i
              · rw [if_pos z, z]
              · rw [if_neg z]
                exact hod j (by omega)
            · intro od hod
              have m34 : MK g M q (nI (m + 1)) (mn (2 ^ 2 ^ n - 1) (LK n t k)) (dis (2 ^ 2 ^ n) (LK n t k)) od f 34 = .inr (7, oMod g (qK q (nI (m + 1)) (lN (mn (2 ^ 2 ^ n - 1) (LK n t k))) (nI (dis (2 ^ 2 ^ n) (LK n t k))))) := rfl
              have m42 : MK g M q (nI (m + 1)) (mn (2 ^ 2 ^ n - 1) (LK n t k)) (dis (2 ^ 2 ^ n) (LK n t k)) od f 42 = iA g 4 od := rfl
              have hfu : frm (ordK n k) (2 ^ n - 1) n < 2 ^ n := frm_lt n (by omega) k hk _ (by omega)
              refine j_iload8 (n := 69) dX8_layKind_67 rfl ?_
              refine j_iload_n3 (n := 70) dX8_layKind_69 rfl ?_
              refine j_nicmp_ge (n := 73) 110 dX8_layKind_70 rfl (by decide) (by omega) (by omega) (fun h => ?_) (fun h => ?_)
              rotate_left
              · omega
              refine j_iload7 (n := 112) dX8_layKind_110 rfl ?_
              refine j_iconst (n := 113) (nI 1) dX8_layKind_112 rfl (by decide) ?_
              refine j_iload_n3 (n := 114) dX8_layKind_113 rfl ?_
              refine j_ishl (n := 115) dX8_layKind_114 rfl ?_
              refine j_topi (nI (2 ^ n)) (ai_shl1 (by omega)) ?_
              refine j_iconst (n := 116) (nI 1) dX8_layKind_115 rfl (by decide) ?_
              refine j_isub (n := 117) dX8_layKind_116 rfl ?_
              refine j_topi (nI (2 ^ n - 1)) (pk_sub (by omega)) ?_
              refine j_nicmp_ne (n := 120) 172 dX8_layKind_117 rfl (by decide) (by omega) (by omega) (fun e => ?_) (fun e => ?_)
              · have eF : FK n t k = [] := if_neg e
                refine j_inc5 (n := 175) dX8_layKind_172 rfl (Nat.le_of_ble_eq_true rfl) rfl ?_
                refine j_goto 50 dX8_layKind_175 (by decide) ?_
                have ih3 := ih (some (.int (nI (k / n ^ n)))) (some (.int (nI (frm (ordK n k) (2 ^ n - 1) n)))) (some (.int (nI n))) x9 x10 x11 x12 od f
                rw [LK_s, eF, List.append_nil] at ih3
                exact ih3 hf
              have eF : FK n t k = TK n (chg n t (ordK n k)) (2 ^ n) := if_pos e
              have hct := chg_lt n t (ordK n k)
              refine j_aload_n0 (n := 121) dX8_layKind_120 rfl ?_
              refine j_lload_n1 (n := 122) dX8_layKind_121 rfl ?_
              refine j_iload_n3 (n := 123) dX8_layKind_122 rfl ?_
              refine j_fnV2 (n := 126) (con_X8_changed m34 m42 hn ht (fun i hi => ⟨hod i hi, Nat.mod_lt _ h1⟩)) dX8_layKind_123 rfl cal_X8_changed ml_X8_174 (Nat.le_of_ble_eq_true rfl) (by first | decide | omega) rfl rfl (Nat.le_of_ble_eq_true rfl) (by first | assumption | rfl) ?_
              refine j_lstore8 (n := 128) dX8_layKind_126 rfl (Nat.le_of_ble_eq_true rfl) rfl ?_
              refine j_iconst (n := 129) (nI 0) dX8_layKind_128 rfl (by decide) ?_
              refine j_istore10 (n := 131) dX8_layKind_129 rfl (Nat.le_of_ble_eq_true rfl) rfl ?_
              have lp3 : ∀ j, j ≤ 2 ^ n → ∀ (f : Nat → Int32) (y11 y12 : Option Value), mkOK (nI (m + 1)) f0 f (LK n t k ++ TK n (chg n t (ordK n k)) j) → J g jX8_layKind 2 (fun v M2 => v = none ∧ ∃ od f, M2 = MK g M q (nI (m + 1)) (chF n t) (kinF n t) od f ∧ ∀ u, u < 65536 → ∃ k, k ≤ m + 1 ∧ f u = nI k) 131 [some (.ref (jA g 34)), some (.long (lN t)), none, some (.int (nI n)), some (.int (nI (n ^ n))), some (.int (nI k)), some (.int (nI (k / n ^ n))), some (.int (nI (frm (ordK n k) (2 ^ n - 1) n))), some (.long (lN (chg n t (ordK n k)))), none, some (.int (nI j)), y11, y12] [] (MK g M q (nI (m + 1)) (mn (2 ^ 2 ^ n - 1) (LK n t k ++ TK n (chg n t (ordK n k)) j)) (dis (2 ^ 2 ^ n) (LK n t k ++ TK n (chg n t (ordK n k)) j)) od f) := by
                refine j_for ?_ ?_
                · intro f y11 y12 hf
                  refine j_iload10 (n := 133) dX8_layKind_131 rfl ?_
                  refine j_iconst (n := 134) (nI 1) dX8_layKind_133 rfl (by decide) ?_
                  refine j_iload_n3 (n := 135) dX8_layKind_134 rfl ?_
                  refine j_ishl (n := 136) dX8_layKind_135 rfl ?_
                  refine j_topi (nI (2 ^ n)) (ai_shl1 (by omega)) ?_
                  refine j_nicmp_ge (n := 139) 172 dX8_layKind_136 rfl (by decide) (by omega) (by omega) (fun h => ?_) (fun h => ?_)
                  rotate_left
                  · omega
                  refine j_inc5 (n := 175) dX8_layKind_172 rfl (Nat.le_of_ble_eq_true rfl) rfl ?_
                  refine j_goto 50 dX8_layKind_175 (by decide) ?_
                  have ih3 := ih (some (.int (nI (k / n ^ n)))) (some (.int (nI (frm (ordK n k) (2 ^ n - 1) n)))) (some (.long (lN (chg n t (ordK n k))))) none (some (.int (nI (2 ^ n)))) y11 y12 od f
                  rw [LK_s, eF] at ih3
                  exact ih3 hf
                · intro j hj ih4 f y11 y12 hf
                  have hL : ∀ u, u ∈ LK n t k ++ TK n (chg n t (ordK n k)) j → u < 2 ^ 2 ^ n := fun u hu => by
                    rcases List.mem_append.mp hu with z | z
                    · exact LK_lt z
                    · exact TK_lt z
                  have htt := turnT_lt n (chg n t (ordK n k)) j
                  have hxt : (2 ^ 2 ^ n - 1) ^^^ turnT n (chg n t (ordK n k)) j < 2 ^ 2 ^ n := xor_lt (by omega) htt
                  refine j_iload10 (n := 133) dX8_layKind_131 rfl ?_
                  refine j_iconst (n := 134) (nI 1) dX8_layKind_133 rfl (by decide) ?_
                  refine j_iload_n3 (n := 135) dX8_layKind_134 rfl ?_
                  refine j_ishl (n := 136) dX8_layKind_135 rfl ?_
                  refine j_topi (nI (2 ^ n)) (ai_shl1 (by omega)) ?_
                  refine j_nicmp_ge (n := 139) 172 dX8_layKind_136 rfl (by decide) (by omega) (by omega) (fun h => ?_) (fun h => ?_)
                  · omega
                  refine j_lload8 (n := 141) dX8_layKind_139 rfl ?_
                  refine j_iload_n3 (n := 142) dX8_layKind_141 rfl ?_
                  refine j_iload10 (n := 144) dX8_layKind_142 rfl ?_
                  refine j_fnS3 (n := 147) (con_X8_turned (by omega) (by omega) hj) dX8_layKind_144 rfl cal_X8_turned ml_X8_117 (Nat.le_of_ble_eq_true rfl) (Nat.le_of_ble_eq_true rfl) ?_
                  refine j_lstore11 (n := 149) dX8_layKind_147 rfl (Nat.le_of_ble_eq_true rfl) rfl ?_
                  refine j_aload_n0 (n := 150) dX8_layKind_149 rfl ?_
                  refine j_lload11 (n := 152) dX8_layKind_150 rfl ?_
                  have m34 : MK g M q (nI (m + 1)) (mn (2 ^ 2 ^ n - 1) (LK n t k ++ TK n (chg n t (ordK n k)) j)) (dis (2 ^ 2 ^ n) (LK n t k ++ TK n (chg n t (ordK n k)) j)) od f 34 = .inr (7, oMod g (qK q (nI (m + 1)) (lN (mn (2 ^ 2 ^ n - 1) (LK n t k ++ TK n (chg n t (ordK n k)) j))) (nI (dis (2 ^ 2 ^ n) (LK n t k ++ TK n (chg n t (ordK n k)) j))))) := rfl
                  refine j_cV1 (n := 155) (con_X8_meet h65 (by omega) hL htt hne hf) dX8_layKind_152 rfl cal_X8_meet ml_X8_178 (Nat.le_of_ble_eq_true rfl) (by first | decide | omega) rfl rfl (Nat.le_of_ble_eq_true rfl) (by first | assumption | rfl) ?_
                  rintro _ M2 ⟨rfl, f2, rfl, hf2⟩
                  have hL2 : ∀ u, u ∈ LK n t k ++ TK n (chg n t (ordK n k)) j ++ [turnT n (chg n t (ordK n k)) j] → u < 2 ^ 2 ^ n := fun u hu => by
                    rcases List.mem_append.mp hu with z | z
                    · exact hL u z
                    · rw [List.mem_singleton.mp z]
                      exact htt
                  refine j_aload_n0 (n := 156) dX8_layKind_155 rfl ?_
                  refine j_iload_n3 (n := 157) dX8_layKind_156 rfl ?_
                  refine j_fnS1 (n := 160) (con_X8_whole (by omega)) dX8_layKind_157 rfl cal_X8_whole ml_X8_94 (Nat.le_of_ble_eq_true rfl) (Nat.le_of_ble_eq_true rfl) ?_
                  refine j_lload11 (n := 162) dX8_layKind_160 rfl ?_
                  refine j_lxor (n := 163) dX8_layKind_162 rfl ?_
                  refine j_topl _ (fb_xorL _ _) ?_
                  have m34 : MK g M q (nI (m + 1)) (mn (2 ^ 2 ^ n - 1) (LK n t k ++ TK n (chg n t (ordK n k)) j ++ [turnT n (chg n t (ordK n k)) j])) (dis (2 ^ 2 ^ n) (LK n t k ++ TK n (chg n t (ordK n k)) j ++ [turnT n (chg n t (ordK n k)) j])) od f2 34 = .inr (7, oMod g (qK q (nI (m + 1)) (lN (mn (2 ^ 2 ^ n - 1) (LK n t k ++ TK n (chg n t (ordK n k)) j ++ [turnT n (chg n t (ordK n k)) j]))) (nI (dis (2 ^ 2 ^ n) (LK n t k ++ TK n (chg n t (ordK n k)) j ++ [turnT n (chg n t (ordK n k)) j]))))) := rfl
                  refine j_cV1 (n := 166) (con_X8_meet h65 (by omega) hL2 hxt hne hf2) dX8_layKind_163 rfl cal_X8_meet ml_X8_178 (Nat.le_of_ble_eq_true rfl) (by first | decide | omega) rfl rfl (Nat.le_of_ble_eq_true rfl) (by first | assumption | rfl) ?_
                  rintro _ M3 ⟨rfl, f3, rfl, hf3⟩
                  refine j_inc10 (n := 169) dX8_layKind_166 rfl (Nat.le_of_ble_eq_true rfl) rfl ?_
                  refine j_goto 131 dX8_layKind_169 (by decide) ?_
                  have ih5 := ih4 f3 (some (.long (lN (turnT n (chg n t (ordK n k)) j)))) none
                  have eL : LK n t k ++ TK n (chg n t (ordK n k)) (j + 1) = LK n t k ++ TK n (chg n t (ordK n k)) j ++ [turnT n (chg n t (ordK n k)) j] ++ [(2 ^ 2 ^ n - 1) ^^^ turnT n (chg n t (ordK n k)) j] := by
                    rw [TK_s]
                    simp [List.append_assoc]
                  rw [eL] at ih5
                  exact ih5 hf3
              have l0 := lp3 0 (Nat.zero_le _) f x11 x12
              rw [show TK n (chg n t (ordK n k)) 0 = [] from rfl, List.append_nil] at l0
              exact l0 hf
          have l0 := lp2 0 (Nat.zero_le _) od (fun j hj => absurd hj (Nat.not_lt_zero j))
          rw [Nat.pow_zero, Nat.div_one] at l0
          exact l0
      exact key 0 (Nat.zero_le _) none none none none none none none od0 f0 (fun u hu => ⟨fun z => (List.not_mem_nil z).elim, fun _ => rfl⟩)
  exact lp1 0 (Nat.zero_le _)
