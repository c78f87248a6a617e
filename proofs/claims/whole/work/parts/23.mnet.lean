def qN (q : jMq) (ni ng : Nat) : jMq := (q.1, q.2.1, q.2.2.1, q.2.2.2.1, q.2.2.2.2.1, q.2.2.2.2.2.1, q.2.2.2.2.2.2.1, nI ni, nI ng)
/-- the weights and bounds of the gates, as the reference holds them -/
def nWB (ng : Nat) (W : Nat → Nat → Int) (B : Nat → Int) (nw nb : Nat → Int32) : Prop := (∀ o, o < ng → ∀ k, k < 12 → nw (12 * o + k) = iI (W o k) ∧ -9 ≤ W o k ∧ W o k ≤ 9) ∧ ∀ o, o < ng → nb o = iI (B o) ∧ -99 ≤ B o ∧ B o ≤ 99
set_option maxRecDepth 100000 in
set_option maxHeartbeats 1000000 in
theorem con_X8_work {g : jG} {M : jMem} {q : jMq} {ni ng : Nat} {wk nw nb : Nat → Int32} {W : Nat → Nat → Int} {B : Nat → Int} (h34 : M 34 = .inr (7, oMod g (qN q ni ng))) (h50 : M 50 = iA g 8 wk) (h48 : M 48 = iA g 96 nw) (h49 : M 49 = iA g 8 nb) (hni : ni ≤ 4) (hng : ng ≤ 8) (hWB : nWB ng W B nw nb) {hv : Int32} {hg : Nat} {b : Bool} (hh : ∀ o, o < 8 → (nI o = hv ↔ o = hg)) : Con g jX8_work 0 [.ref (jA g 34), .int hv, .int (jB b)] M (fun v M2 => v = none ∧ ∃ wk2, M2 = va_up M 50 (iA g 8 wk2) ∧ ∀ j, j < ng → wk2 j = nI (nTab ni W B hg b ng j)) := by
  have h16 : 2 ^ ni ≤ 2 ^ 4 := Nat.pow_le_pow_right (by omega) hni
  have h216 : 2 ^ 2 ^ ni ≤ 2 ^ 2 ^ 4 := Nat.pow_le_pow_right (by omega) h16
  refine con_of (l := [some (.ref (jA g 34)), some (.int hv), some (.int (jB b)), none, none, none, none, none, none]) (by decide) (Nat.le_of_ble_eq_true rfl) rfl ?_
  refine j_aload_n0 (n := 1) dX8_work_0 rfl ?_
  refine j_get (n := 4) (k := 19) dX8_work_1 rfl jcl7 (Nat.le_of_ble_eq_true rfl) fl_X8_55 (Nat.le_of_ble_eq_true rfl) (by first | assumption | rfl) (by rfl) ?_
  refine j_istore_n3 (n := 5) dX8_work_4 rfl (Nat.le_of_ble_eq_true rfl) rfl ?_
  refine j_iconst (n := 6) (nI 0) dX8_work_5 rfl (by decide) ?_
  refine j_istore4 (n := 8) dX8_work_6 rfl (Nat.le_of_ble_eq_true rfl) rfl ?_
  have outer : ∀ o, o ≤ ng → ∀ (f : Nat → Int32) (x5 x6 x7 x8 : Option Value), jNL x5 = true → jNL x6 = true → jNL x7 = true → (∀ j, j < o → f j = nI (nTab ni W B hg b o j)) → J g jX8_work 0 (fun v M2 => v = none ∧ ∃ wk2, M2 = va_up M 50 (iA g 8 wk2) ∧ ∀ j, j < ng → wk2 j = nI (nTab ni W B hg b ng j)) 8 [some (.ref (jA g 34)), some (.int hv), some (.int (jB b)), some (.int (nI ni)), some (.int (nI o)), x5, x6, x7, x8] [] (va_up M 50 (iA g 8 f)) := by
    refine j_for ?_ ?_
    · intro f x5 x6 x7 x8 _ _ _ hf
      refine j_iload4 (n := 10) dX8_work_8 rfl ?_
      refine j_aload_n0 (n := 11) dX8_work_10 rfl ?_
      refine j_get (n := 14) (k := 20) dX8_work_11 rfl jcl7 (Nat.le_of_ble_eq_true rfl) fl_X8_202 (Nat.le_of_ble_eq_true rfl) (by first | assumption | rfl) (by rfl) ?_
      refine j_nicmp_ge (a := ng) (b := ng) (n := 17) 207 dX8_work_14 rfl (by decide) (by omega) (by omega) (fun h => ?_) (fun h => ?_)
      · refine j_vret dX8_work_207 rfl ?_
        exact ⟨rfl, f, rfl, hf⟩
      · omega
    · intro o ho ih f x5 x6 x7 x8 hx5 hx6 hx7 hf
      have hW := hWB.1 o ho
      have hB := hWB.2 o ho
      refine j_iload4 (n := 10) dX8_work_8 rfl ?_
      refine j_aload_n0 (n := 11) dX8_work_10 rfl ?_
      refine j_get (n := 14) (k := 20) dX8_work_11 rfl jcl7 (Nat.le_of_ble_eq_true rfl) fl_X8_202 (Nat.le_of_ble_eq_true rfl) (by first | assumption | rfl) (by rfl) ?_
      refine j_nicmp_ge (a := o) (b := ng) (n := 17) 207 dX8_work_14 rfl (by decide) (by omega) (by omega) (fun h => ?_) (fun h => ?_)
      · omega
      refine j_aload_n0 (n := 18) dX8_work_17 rfl ?_
      refine j_get (n := 21) (k := 24) dX8_work_18 rfl jcl7 (Nat.le_of_ble_eq_true rfl) fl_X8_68 (Nat.le_of_ble_eq_true rfl) (by first | assumption | rfl) (by rfl) ?_
      refine j_iload4 (n := 23) dX8_work_21 rfl ?_
      refine j_iconst (n := 24) (nI 0) dX8_work_23 rfl (by decide) ?_
      refine j_iast_n (n := 25) dX8_work_24 rfl (by first | decide | omega) (by first | assumption | rfl) (by decide) (by first | assumption | omega) ?_
      refine j_iconst (n := 26) (nI 0) dX8_work_25 rfl (by decide) ?_
      refine j_istore5 (n := 28) dX8_work_26 rfl (Nat.le_of_ble_eq_true rfl) rfl ?_
      rw [va_uu]
      have mid : ∀ r, r ≤ 2 ^ ni → ∀ (f : Nat → Int32) (x6 x7 x8 : Option Value), jNL x6 = true → jNL x7 = true → (∀ j, j < o → f j = nI (nTab ni W B hg b o j)) → f o = nI (mkT r (nRow ni W B hg b (nTab ni W B hg b o) o)) → J g jX8_work 0 (fun v M2 => v = none ∧ ∃ wk2, M2 = va_up M 50 (iA g 8 wk2) ∧ ∀ j, j < ng → wk2 j = nI (nTab ni W B hg b ng j)) 28 [some (.ref (jA g 34)), some (.int hv), some (.int (jB b)), some (.int (nI ni)), some (.int (nI o)), some (.int (nI r)), x6, x7, x8] [] (va_up M 50 (iA g 8 f)) := by
        refine j_for ?_ ?_
        · intro f x6 x7 x8 hx6 hx7 hf hfo
          refine j_iload5 (n := 30) dX8_work_28 rfl ?_
          refine j_iconst (n := 31) (nI 1) dX8_work_30 rfl (by decide) ?_
          refine j_iload_n3 (n := 32) dX8_work_31 rfl ?_
          refine j_ishl (n := 33) dX8_work_32 rfl ?_
          refine j_topi (nI (2 ^ ni)) (ai_shl1 (by omega)) ?_
          refine j_nicmp_ge (n := 36) 201 dX8_work_33 rfl (by decide) (by omega) (by omega) (fun h => ?_) (fun h => ?_)
          rotate_left
          · omega
          refine j_inc4 (n := 204) dX8_work_201 rfl (Nat.le_of_ble_eq_true rfl) rfl ?_
          refine j_goto 8 dX8_work_204 (by decide) ?_
          refine ih f _ _ _ _ rfl hx6 hx7 (fun j hj => ?_)
          rcases Nat.lt_or_ge j o with h1 | h1
          · rw [nTab_keep h1]
            exact hf j h1
          · have e : j = o := by omega
            rw [e, nTab_new]
            exact hfo
        · intro r hr ih2 f x6 x7 x8 hx6 hx7 hf hfo
          refine j_iload5 (n := 30) dX8_work_28 rfl ?_
          refine j_iconst (n := 31) (nI 1) dX8_work_30 rfl (by decide) ?_
          refine j_iload_n3 (n := 32) dX8_work_31 rfl ?_
          refine j_ishl (n := 33) dX8_work_32 rfl ?_
          refine j_topi (nI (2 ^ ni)) (ai_shl1 (by omega)) ?_
          refine j_nicmp_ge (n := 36) 201 dX8_work_33 rfl (by decide) (by omega) (by omega) (fun h => ?_) (fun h => ?_)
          · omega
          refine j_iconst (n := 37) (nI 0) dX8_work_36 rfl (by decide) ?_
          refine j_istore6 (n := 39) dX8_work_37 rfl (Nat.le_of_ble_eq_true rfl) rfl ?_
          refine j_iconst (n := 40) (nI 0) dX8_work_39 rfl (by decide) ?_
          refine j_istore7 (n := 42) dX8_work_40 rfl (Nat.le_of_ble_eq_true rfl) rfl ?_
          have inner : ∀ k, k ≤ ni + o → ∀ x8 : Option Value, J g jX8_work 0 (fun v M2 => v = none ∧ ∃ wk2, M2 = va_up M 50 (iA g 8 wk2) ∧ ∀ j, j < ng → wk2 j = nI (nTab ni W B hg b ng j)) 42 [some (.ref (jA g 34)), some (.int hv), some (.int (jB b)), some (.int (nI ni)), some (.int (nI o)), some (.int (nI r)), some (.int (iI (nSum ni (W o) (nTab ni W B hg b o) r k))), some (.int (nI k)), x8] [] (va_up M 50 (iA g 8 f)) := by
            refine j_for ?_ ?_
            · intro x8
              have hbd := nSum_bd (ni := ni) (T := nTab ni W B hg b o) (r := r) (ni + o) (fun j hj => (hW j (by omega)).2)
              have fin : ∀ (c : Bool) (x7 : Option Value), nRow ni W B hg b (nTab ni W B hg b o) o r = c → J g jX8_work 0 (fun v M2 => v = none ∧ ∃ wk2, M2 = va_up M 50 (iA g 8 wk2) ∧ ∀ j, j < ng → wk2 j = nI (nTab ni W B hg b ng j)) 170 [some (.ref (jA g 34)), some (.int hv), some (.int (jB b)), some (.int (nI ni)), some (.int (nI o)), some (.int (nI r)), some (.int (iI (nSum ni (W o) (nTab ni W B hg b o) r (ni + o)))), x7, x8] [.int (jB c)] (va_up M 50 (iA g 8 f)) := by
                intro c x7 hc
                refine j_istore7 (n := 172) dX8_work_170 rfl (Nat.le_of_ble_eq_true rfl) rfl ?_
                refine j_aload_n0 (n := 173) dX8_work_172 rfl ?_
                refine j_get (n := 176) (k := 24) dX8_work_173 rfl jcl7 (Nat.le_of_ble_eq_true rfl) fl_X8_68 (Nat.le_of_ble_eq_true rfl) (by first | assumption | rfl) (by rfl) ?_
                refine j_iload4 (n := 178) dX8_work_176 rfl ?_
                refine j_dup2_11 (n := 179) dX8_work_178 rfl rfl rfl ?_
                refine j_iald_n (n := 180) dX8_work_179 rfl (by first | decide | omega) (by first | assumption | rfl) (by decide) (by first | assumption | omega) ?_
                rw [hfo]
                refine j_iload7 (n := 182) dX8_work_180 rfl ?_
                have hnx : ∀ z : Nat, z = mkT (r + 1) (nRow ni W B hg b (nTab ni W B hg b o) o) → J g jX8_work 0 (fun v M2 => v = none ∧ ∃ wk2, M2 = va_up M 50 (iA g 8 wk2) ∧ ∀ j, j < ng → wk2 j = nI (nTab ni W B hg b ng j)) 194 [some (.ref (jA g 34)), some (.int hv), some (.int (jB b)), some (.int (nI ni)), some (.int (nI o)), some (.int (nI r)), some (.int (iI (nSum ni (W o) (nTab ni W B hg b o) r (ni + o)))), some (.int (jB c)), x8] [.int (nI z), .int (nI o), .ref (jA g 50)] (va_up M 50 (iA g 8 f)) := by
                  intro z hz
                  refine j_iast_n (n := 195) dX8_work_194 rfl (by first | decide | omega) (by first | assumption | rfl) (by decide) (by first | assumption | omega) ?_
                  refine j_inc5 (n := 198) dX8_work_195 rfl (Nat.le_of_ble_eq_true rfl) rfl ?_
                  refine j_goto 28 dX8_work_198 (by decide) ?_
                  rw [va_uu]
                  refine ih2 _ _ _ _ rfl rfl (fun j hj => ?_) ?_
                  · rw [pk_un (by omega)]
                    exact hf j hj
                  · rw [pk_us, hz]
                refine j_bif_eq (n := 185) 192 dX8_work_182 rfl (by decide) (fun e => ?_) (fun e => ?_)
                · refine j_iconst (n := 193) (nI 0) dX8_work_192 rfl (by decide) ?_
                  refine j_ior (n := 194) dX8_work_193 rfl ?_
                  rw [fa_or]
                  exact hnx _ (by rw [e] at hc; simp [mkT, hc])
                · refine j_iconst (n := 186) (nI 1) dX8_work_185 rfl (by decide) ?_
                  refine j_iload5 (n := 188) dX8_work_186 rfl ?_
                  refine j_ishl (n := 189) dX8_work_188 rfl ?_
                  refine j_topi (nI (2 ^ r)) (ai_shl1 (by omega)) ?_
                  refine j_goto 193 dX8_work_189 (by decide) ?_
                  refine j_ior (n := 194) dX8_work_193 rfl ?_
                  rw [fa_or]
                  exact hnx _ (by rw [e] at hc; simp [mkT, hc])
              refine j_iload7 (n := 44) dX8_work_42 rfl ?_
              refine j_iload_n3 (n := 45) dX8_work_44 rfl ?_
              refine j_iload4 (n := 47) dX8_work_45 rfl ?_
              refine j_iadd (n := 48) dX8_work_47 rfl ?_
              refine j_topi (nI (ni + o)) (nI_add ni o) ?_
              refine j_nicmp_ge (n := 51) 134 dX8_work_48 rfl (by decide) (by omega) (by omega) (fun h => ?_) (fun h => ?_)
              rotate_left
              · omega
              refine j_iload4 (n := 136) dX8_work_134 rfl ?_
              refine j_iload_n1 (n := 137) dX8_work_136 rfl ?_
              refine j_icmp_ne (n := 140) 153 dX8_work_137 rfl (by decide) (fun e => ?_) (fun e => ?_)
              · refine j_iload6 (n := 155) dX8_work_153 rfl ?_
                refine j_aload_n0 (n := 156) dX8_work_155 rfl ?_
                refine j_get (n := 159) (k := 23) dX8_work_156 rfl jcl7 (Nat.le_of_ble_eq_true rfl) fl_X8_65 (Nat.le_of_ble_eq_true rfl) (by first | assumption | rfl) (by rfl) ?_
                refine j_iload4 (n := 161) dX8_work_159 rfl ?_
                refine j_iald_n (n := 162) dX8_work_161 rfl (by first | decide | omega) (by first | assumption | rfl) (by decide) (by first | assumption | omega) ?_
                rw [hB.1]
                refine j_zicmp_lt (n := 165) 169 dX8_work_162 rfl (by decide) (by omega) (by omega) (fun e2 => ?_) (fun e2 => ?_)
                · refine j_iconst (n := 170) (nI 0) dX8_work_169 rfl (by decide) ?_
                  refine fin false _ ?_
                  have e3 : ¬ o = hg := fun z => e ((hh o (by omega)).mpr z)
                  unfold nRow
                  rw [if_neg e3]
                  exact decide_eq_false (by omega)
                · refine j_iconst (n := 166) (nI 1) dX8_work_165 rfl (by decide) ?_
                  refine j_goto 170 dX8_work_166 (by decide) ?_
                  refine fin true _ ?_
                  have e3 : ¬ o = hg := fun z => e ((hh o (by omega)).mpr z)
                  unfold nRow
                  rw [if_neg e3]
                  exact decide_eq_true (by omega)
              · have e3 : o = hg := (hh o (by omega)).mp e
                refine j_iload_n2 (n := 141) dX8_work_140 rfl ?_
                refine j_iconst (n := 142) (nI 1) dX8_work_141 rfl (by decide) ?_
                refine j_b1_ne (n := 145) 149 dX8_work_142 rfl (by decide) (fun e4 => ?_) (fun e4 => ?_)
                · refine j_iconst (n := 150) (nI 0) dX8_work_149 rfl (by decide) ?_
                  refine j_goto 170 dX8_work_150 (by decide) ?_
                  refine fin false _ ?_
                  unfold nRow
                  rw [if_pos e3, e4]
                · refine j_iconst (n := 146) (nI 1) dX8_work_145 rfl (by decide) ?_
                  refine j_goto 170 dX8_work_146 (by decide) ?_
                  refine fin true _ ?_
                  unfold nRow
                  rw [if_pos e3, e4]
            · intro k hk ih3 x8
              have hw := hW k (by omega)
              refine j_iload7 (n := 44) dX8_work_42 rfl ?_
              refine j_iload_n3 (n := 45) dX8_work_44 rfl ?_
              refine j_iload4 (n := 47) dX8_work_45 rfl ?_
              refine j_iadd (n := 48) dX8_work_47 rfl ?_
              refine j_topi (nI (ni + o)) (nI_add ni o) ?_
              refine j_nicmp_ge (n := 51) 134 dX8_work_48 rfl (by decide) (by omega) (by omega) (fun h => ?_) (fun h => ?_)
              · omega
              have fin : ∀ (c : Bool), (if k < ni then r.testBit k else (nTab ni W B hg b o (k - ni)).testBit r) = c → J g jX8_work 0 (fun v M2 => v = none ∧ ∃ wk2, M2 = va_up M 50 (iA g 8 wk2) ∧ ∀ j, j < ng → wk2 j = nI (nTab ni W B hg b ng j)) 99 [some (.ref (jA g 34)), some (.int hv), some (.int (jB b)), some (.int (nI ni)), some (.int (nI o)), some (.int (nI r)), some (.int (iI (nSum ni (W o) (nTab ni W B hg b o) r k))), some (.int (nI k)), x8] [.int (jB c)] (va_up M 50 (iA g 8 f)) := by
                intro c hc
                refine j_istore8 (n := 101) dX8_work_99 rfl (Nat.le_of_ble_eq_true rfl) rfl ?_
                refine j_iload6 (n := 103) dX8_work_101 rfl ?_
                refine j_iload8 (n := 105) dX8_work_103 rfl ?_
                refine j_bif_eq (n := 108) 124 dX8_work_105 rfl (by decide) (fun e => ?_) (fun e => ?_)
                · refine j_iconst (n := 125) (nI 0) dX8_work_124 rfl (by decide) ?_
                  refine j_iadd (n := 126) dX8_work_125 rfl ?_
                  refine j_topi (iI (nSum ni (W o) (nTab ni W B hg b o) r (k + 1))) (by rw [← iI_nat, iI_add]; rw [e] at hc; simp [nSum, hc]) ?_
                  refine j_istore6 (n := 128) dX8_work_126 rfl (Nat.le_of_ble_eq_true rfl) rfl ?_
                  refine j_inc7 (n := 131) dX8_work_128 rfl (Nat.le_of_ble_eq_true rfl) rfl ?_
                  refine j_goto 42 dX8_work_131 (by decide) ?_
                  exact ih3 _
                · refine j_aload_n0 (n := 109) dX8_work_108 rfl ?_
                  refine j_get (n := 112) (k := 22) dX8_work_109 rfl jcl7 (Nat.le_of_ble_eq_true rfl) fl_X8_62 (Nat.le_of_ble_eq_true rfl) (by first | assumption | rfl) (by rfl) ?_
                  refine j_bipush (n := 114) (nI 12) dX8_work_112 rfl (by decide) ?_
                  refine j_iload4 (n := 116) dX8_work_114 rfl ?_
                  refine j_imul (n := 117) dX8_work_116 rfl ?_
                  refine j_iload7 (n := 119) dX8_work_117 rfl ?_
                  refine j_iadd (n := 120) dX8_work_119 rfl ?_
                  refine j_topi (nI (12 * o + k)) (by rw [pk_mul, nI_add]) ?_
                  refine j_iald_n (n := 121) dX8_work_120 rfl (by first | decide | omega) (by first | assumption | rfl) (by decide) (by first | assumption | omega) ?_
                  rw [hw.1]
                  refine j_goto 125 dX8_work_121 (by decide) ?_
                  refine j_iadd (n := 126) dX8_work_125 rfl ?_
                  refine j_topi (iI (nSum ni (W o) (nTab ni W B hg b o) r (k + 1))) (by rw [iI_add]; rw [e] at hc; simp [nSum, hc]) ?_
                  refine j_istore6 (n := 128) dX8_work_126 rfl (Nat.le_of_ble_eq_true rfl) rfl ?_
                  refine j_inc7 (n := 131) dX8_work_128 rfl (Nat.le_of_ble_eq_true rfl) rfl ?_
                  refine j_goto 42 dX8_work_131 (by decide) ?_
                  exact ih3 _
              refine j_iload7 (n := 53) dX8_work_51 rfl ?_
              refine j_iload_n3 (n := 54) dX8_work_53 rfl ?_
              refine j_nicmp_ge (n := 57) 76 dX8_work_54 rfl (by decide) (by omega) (by omega) (fun e => ?_) (fun e => ?_)
              · refine j_aload_n0 (n := 77) dX8_work_76 rfl ?_
                refine j_get (n := 80) (k := 24) dX8_work_77 rfl jcl7 (Nat.le_of_ble_eq_true rfl) fl_X8_68 (Nat.le_of_ble_eq_true rfl) (by first | assumption | rfl) (by rfl) ?_
                refine j_iload7 (n := 82) dX8_work_80 rfl ?_
                refine j_iload_n3 (n := 83) dX8_work_82 rfl ?_
                refine j_isub (n := 84) dX8_work_83 rfl ?_
                refine j_topi (nI (k - ni)) (pk_sub e) ?_
                refine j_iald_n (n := 85) dX8_work_84 rfl (by first | decide | omega) (by first | assumption | rfl) (by decide) (by first | assumption | omega) ?_
                rw [hf (k - ni) (by omega)]
                refine j_iload5 (n := 87) dX8_work_85 rfl ?_
                refine j_ishr (n := 88) dX8_work_87 rfl ?_
                refine j_iconst (n := 89) (nI 1) dX8_work_88 rfl (by decide) ?_
                refine j_iand (n := 90) dX8_work_89 rfl ?_
                have ht := nTab_lt (ni := ni) (W := W) (B := B) (hg := hg) (b := b) o (k - ni)
                refine j_topi (jB ((nTab ni W B hg b o (k - ni)).testBit r)) (ai_bit (by omega) (by omega)) ?_
                refine j_iconst (n := 91) (nI 1) dX8_work_90 rfl (by decide) ?_
                refine j_b1_ne (n := 94) 98 dX8_work_91 rfl (by decide) (fun e4 => ?_) (fun e4 => ?_)
                · refine j_iconst (n := 99) (nI 0) dX8_work_98 rfl (by decide) ?_
                  exact fin false (by rw [if_neg (by omega), e4])
                · refine j_iconst (n := 95) (nI 1) dX8_work_94 rfl (by decide) ?_
                  refine j_goto 99 dX8_work_95 (by decide) ?_
                  exact fin true (by rw [if_neg (by omega), e4])
              · refine j_iload5 (n := 59) dX8_work_57 rfl ?_
                refine j_iload7 (n := 61) dX8_work_59 rfl ?_
                refine j_ishr (n := 62) dX8_work_61 rfl ?_
                refine j_iconst (n := 63) (nI 1) dX8_work_62 rfl (by decide) ?_
                refine j_iand (n := 64) dX8_work_63 rfl ?_
                refine j_topi (jB (r.testBit k)) (ai_bit (by omega) (by omega)) ?_
                refine j_iconst (n := 65) (nI 1) dX8_work_64 rfl (by decide) ?_
                refine j_b1_ne (n := 68) 72 dX8_work_65 rfl (by decide) (fun e4 => ?_) (fun e4 => ?_)
                · refine j_iconst (n := 73) (nI 0) dX8_work_72 rfl (by decide) ?_
                  refine j_goto 99 dX8_work_73 (by decide) ?_
                  exact fin false (by rw [if_pos e, e4])
                · refine j_iconst (n := 69) (nI 1) dX8_work_68 rfl (by decide) ?_
                  refine j_goto 99 dX8_work_69 (by decide) ?_
                  exact fin true (by rw [if_pos e, e4])
          exact inner 0 (Nat.zero_le _) _
      refine mid 0 (Nat.zero_le _) _ _ _ _ hx6 hx7 (fun j hj => ?_) ?_
      · rw [pk_un (by omega)]
        exact hf j hj
      · exact pk_us
  have hM : va_up M 50 (iA g 8 wk) = M := va_self h50
  have h0 := outer 0 (Nat.zero_le _) wk none none none none rfl rfl rfl (fun j hj => absurd hj (Nat.not_lt_zero j))
  rw [hM] at h0
  exact h0
