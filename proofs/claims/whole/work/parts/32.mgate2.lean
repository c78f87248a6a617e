/-- what isGate of the reference leaves in the cells: the codes, the sums, the rows a and b -/
def gM (g : jG) (M M2 : jMem) (n t : Nat) : Prop := ∃ th2 hf2 wt2, M2 = va_up (va_up (va_up M 37 (iA g 32 th2)) 38 (zA g 243 hf2)) 39 (iA g 4 wt2) ∧ (∀ r, r < 2 ^ n → th2 r = nI (c3 n r)) ∧ (isG n t = false → wt2 0 = nI (wA n t) ∧ wt2 1 = nI (wB n t (wA n t)))
theorem hf_end {n t : Nat} {f : Nat → Int32} (hn : n ≤ 5) (h : hfOK n t (2 ^ n) 0 f) {a b : Nat} (ha : a < 2 ^ n) (hb : b < 2 ^ n) : f (c3 n a + c3 n b) = jB (hasC n t a b) := by
  have h5 := pw5 hn
  have hlt := (c3_dec n (by omega) a ha b hb).2.2.2
  obtain ⟨c, h1, h2⟩ := h _ hlt
  rw [h1]
  have e : c = hasC n t a b := by
    cases hc : hasC n t a b with
    | true =>
      obtain ⟨c1, d1, q1, q2, q3⟩ := (hasC_iff hn ha hb).mp hc
      exact h2.mpr ⟨c1, d1, by omega, q1, q2, q3⟩
    | false =>
      cases c with
      | false => rfl
      | true =>
        obtain ⟨c1, d1, -, q1, q2, q3⟩ := h2.mp rfl
        have := (hasC_iff hn ha hb).mpr ⟨c1, d1, q1, q2, q3⟩
        rw [hc] at this
        cases this
  rw [e]
theorem hasC_same {n t a : Nat} (hn : n ≤ 5) (ha : a < 2 ^ n) (h : t.testBit a = true) : hasC n t a a = false := by
  have h5 := pw5 hn
  cases hc : hasC n t a a with
  | false => rfl
  | true =>
    obtain ⟨c, d, q1, q2, q3, q4, q5⟩ := (hasC_iff hn ha ha).mp hc
    obtain ⟨p1, p2⟩ := (c3_iff (by omega) ha ha (by omega) q2).mp q5
    rw [Nat.and_self] at p1
    rw [Nat.or_self] at p2
    have r1 := (par_1 c (by omega) d (by omega)).1
    have r2 : c &&& d ≤ c := Nat.and_le_left
    have r3 : c ≤ c ||| d := Nat.left_le_or
    have e : c = a := by omega
    rw [e, h] at q3
    cases q3
set_option maxRecDepth 100000 in
theorem con_X8_isGate {g : jG} {M : jMem} {q : jMq} {n t : Nat} {th hf wt : Nat → Int32} (h34 : M 34 = .inr (7, oMod g q)) (h37 : M 37 = iA g 32 th) (h38 : M 38 = zA g 243 hf) (h39 : M 39 = iA g 4 wt) (hn : n ≤ 5) (h1 : 1 ≤ n) (ht : t < 2 ^ 32) : Con g jX8_isGate 2 [.ref (jA g 34), .long (lN t), .int (nI n)] M (fun v M2 => v = some (.int (jB (isG n t))) ∧ gM g M M2 n t) := by
  have h5 := pw5 hn
  refine con_of (l := [some (.ref (jA g 34)), some (.long (lN t)), none, some (.int (nI n)), none, none]) (by decide) (Nat.le_of_ble_eq_true rfl) rfl ?_
  refine j_aload_n0 (n := 1) dX8_isGate_0 rfl ?_
  refine j_lload_n1 (n := 2) dX8_isGate_1 rfl ?_
  refine j_iload_n3 (n := 3) dX8_isGate_2 rfl ?_
  refine j_cV2 (n := 6) (con_X8_layFalse h34 h37 h38 hn h1 ht) dX8_isGate_3 rfl cal_X8_layFalse ml_X8_125 (Nat.le_of_ble_eq_true rfl) (by first | decide | omega) rfl rfl (Nat.le_of_ble_eq_true rfl) (by first | assumption | rfl) ?_
  rintro _ M2 ⟨rfl, th2, hf2, rfl, hth, hhf⟩
  refine j_iconst (n := 7) (nI 0) dX8_isGate_6 rfl (by decide) ?_
  refine j_istore4 (n := 9) dX8_isGate_7 rfl (Nat.le_of_ble_eq_true rfl) rfl ?_
  have hend := fun {a b : Nat} (ha : a < 2 ^ n) (hb : b < 2 ^ n) => hf_end hn hhf ha hb
  have key : ∀ a, a ≤ 2 ^ n → ∀ x5 : Option Value, (∀ j, j < a → pA n t j = false) → J g jX8_isGate 2 (fun v M2 => v = some (.int (jB (isG n t))) ∧ gM g M M2 n t) 9 [some (.ref (jA g 34)), some (.long (lN t)), none, some (.int (nI n)), some (.int (nI a)), x5] [] (va_up (va_up M 37 (iA g 32 th2)) 38 (zA g 243 hf2)) := by
    refine j_for ?_ ?_
    · intro x5 hno
      refine j_iload4 (n := 11) dX8_isGate_9 rfl ?_
      refine j_iconst (n := 12) (nI 1) dX8_isGate_11 rfl (by decide) ?_
      refine j_iload_n3 (n := 13) dX8_isGate_12 rfl ?_
      refine j_ishl (n := 14) dX8_isGate_13 rfl ?_
      refine j_topi (nI (2 ^ n)) (ai_shl1 (by omega)) ?_
      refine j_nicmp_ge (n := 17) 100 dX8_isGate_14 rfl (by decide) (by omega) (by omega) (fun h => ?_) (fun h => ?_)
      rotate_left
      · omega
      have hg : isG n t = true := by unfold isG; rw [dec_first_f hno]; rfl
      refine j_iconst (n := 101) (nI 1) dX8_isGate_100 rfl (by decide) ?_
      refine j_ret1 hg dX8_isGate_101 rfl ⟨rfl, th2, hf2, wt, ?_, hth, fun z => by rw [hg] at z; cases z⟩
      exact (va_self (M := va_up (va_up M 37 (iA g 32 th2)) 38 (zA g 243 hf2)) (k := 39) h39).symm
    · intro a ha ih x5 hno
      refine j_iload4 (n := 11) dX8_isGate_9 rfl ?_
      refine j_iconst (n := 12) (nI 1) dX8_isGate_11 rfl (by decide) ?_
      refine j_iload_n3 (n := 13) dX8_isGate_12 rfl ?_
      refine j_ishl (n := 14) dX8_isGate_13 rfl ?_
      refine j_topi (nI (2 ^ n)) (ai_shl1 (by omega)) ?_
      refine j_nicmp_ge (n := 17) 100 dX8_isGate_14 rfl (by decide) (by omega) (by omega) (fun h => ?_) (fun h => ?_)
      · omega
      refine j_iload4 (n := 19) dX8_isGate_17 rfl ?_
      refine j_istore5 (n := 21) dX8_isGate_19 rfl (Nat.le_of_ble_eq_true rfl) rfl ?_
      have fin : ∀ b : Nat, pA n t a = false → J g jX8_isGate 2 (fun v M2 => v = some (.int (jB (isG n t))) ∧ gM g M M2 n t) 94 [some (.ref (jA g 34)), some (.long (lN t)), none, some (.int (nI n)), some (.int (nI a)), some (.int (nI b))] [] (va_up (va_up M 37 (iA g 32 th2)) 38 (zA g 243 hf2)) := by
        intro b hq
        refine j_inc4 (n := 97) dX8_isGate_94 rfl (Nat.le_of_ble_eq_true rfl) rfl ?_
        refine j_goto 9 dX8_isGate_97 (by decide) ?_
        refine ih _ (fun j hj => ?_)
        by_cases e : j = a
        · rw [e]; exact hq
        · exact hno j (by omega)
      have inner : ∀ b, b ≤ 2 ^ n → a ≤ b → (∀ j, j < b → pB n t a j = false) → J g jX8_isGate 2 (fun v M2 => v = some (.int (jB (isG n t))) ∧ gM g M M2 n t) 21 [some (.ref (jA g 34)), some (.long (lN t)), none, some (.int (nI n)), some (.int (nI a)), some (.int (nI b))] [] (va_up (va_up M 37 (iA g 32 th2)) 38 (zA g 243 hf2)) := by
        refine j_for ?_ ?_
        · intro _ hno2
          refine j_iload5 (n := 23) dX8_isGate_21 rfl ?_
          refine j_iconst (n := 24) (nI 1) dX8_isGate_23 rfl (by decide) ?_
          refine j_iload_n3 (n := 25) dX8_isGate_24 rfl ?_
          refine j_ishl (n := 26) dX8_isGate_25 rfl ?_
          refine j_topi (nI (2 ^ n)) (ai_shl1 (by omega)) ?_
          refine j_nicmp_ge (n := 29) 94 dX8_isGate_26 rfl (by decide) (by omega) (by omega) (fun h => ?_) (fun h => ?_)
          · refine fin _ ?_
            unfold pA
            rw [dec_first_f hno2]
            simp
          · omega
        · intro b hb ih2 hab hno2
          refine j_iload5 (n := 23) dX8_isGate_21 rfl ?_
          refine j_iconst (n := 24) (nI 1) dX8_isGate_23 rfl (by decide) ?_
          refine j_iload_n3 (n := 25) dX8_isGate_24 rfl ?_
          refine j_ishl (n := 26) dX8_isGate_25 rfl ?_
          refine j_topi (nI (2 ^ n)) (ai_shl1 (by omega)) ?_
          refine j_nicmp_ge (n := 29) 94 dX8_isGate_26 rfl (by decide) (by omega) (by omega) (fun h => ?_) (fun h => ?_)
          · omega
          refine j_lload_n1 (n := 30) dX8_isGate_29 rfl ?_
          refine j_iload4 (n := 32) dX8_isGate_30 rfl ?_
          refine j_fnS2 (n := 35) (con_X8_is (by omega) (by omega)) dX8_isGate_32 rfl cal_X8_is ml_X8_80 (Nat.le_of_ble_eq_true rfl) (Nat.le_of_ble_eq_true rfl) ?_
          refine j_bif_eq (n := 38) 94 dX8_isGate_35 rfl (by decide) (fun e1 => ?_) (fun e1 => ?_)
          · exact fin _ (by simp [pA, e1])
          have next : pB n t a b = false → J g jX8_isGate 2 (fun v M2 => v = some (.int (jB (isG n t))) ∧ gM g M M2 n t) 88 [some (.ref (jA g 34)), some (.long (lN t)), none, some (.int (nI n)), some (.int (nI a)), some (.int (nI b))] [] (va_up (va_up M 37 (iA g 32 th2)) 38 (zA g 243 hf2)) := by
            intro hq
            refine j_inc5 (n := 91) dX8_isGate_88 rfl (Nat.le_of_ble_eq_true rfl) rfl ?_
            refine j_goto 21 dX8_isGate_91 (by decide) ?_
            refine ih2 (by omega) (fun j hj => ?_)
            by_cases e : j = b
            · rw [e]; exact hq
            · exact hno2 j (by omega)
          refine j_lload_n1 (n := 39) dX8_isGate_38 rfl ?_
          refine j_iload5 (n := 41) dX8_isGate_39 rfl ?_
          refine j_fnS2 (n := 44) (con_X8_is (by omega) (by omega)) dX8_isGate_41 rfl cal_X8_is ml_X8_80 (Nat.le_of_ble_eq_true rfl) (Nat.le_of_ble_eq_true rfl) ?_
          refine j_bif_eq (n := 47) 88 dX8_isGate_44 rfl (by decide) (fun e2 => ?_) (fun e2 => ?_)
          · exact next (by simp [pB, e2])
          refine j_aload_n0 (n := 48) dX8_isGate_47 rfl ?_
          refine j_get (n := 51) (k := 3) dX8_isGate_48 rfl jcl7 (Nat.le_of_ble_eq_true rfl) fl_X8_20 (by first | decide | omega) (by first | assumption | rfl) (by rfl) ?_
          refine j_aload_n0 (n := 52) dX8_isGate_51 rfl ?_
          refine j_get (n := 55) (k := 2) dX8_isGate_52 rfl jcl7 (Nat.le_of_ble_eq_true rfl) fl_X8_17 (by first | decide | omega) (by first | assumption | rfl) (by rfl) ?_
          refine j_iload4 (n := 57) dX8_isGate_55 rfl ?_
          refine j_iald_n (n := 58) dX8_isGate_57 rfl (by first | decide | omega) (by first | assumption | rfl) (by decide) (by first | assumption | omega) ?_
          rw [hth a (by omega)]
          refine j_aload_n0 (n := 59) dX8_isGate_58 rfl ?_
          refine j_get (n := 62) (k := 2) dX8_isGate_59 rfl jcl7 (Nat.le_of_ble_eq_true rfl) fl_X8_17 (by first | decide | omega) (by first | assumption | rfl) (by rfl) ?_
          refine j_iload5 (n := 64) dX8_isGate_62 rfl ?_
          refine j_iald_n (n := 65) dX8_isGate_64 rfl (by first | decide | omega) (by first | assumption | rfl) (by decide) (by first | assumption | omega) ?_
          rw [hth b (by omega)]
          refine j_iadd (n := 66) dX8_isGate_65 rfl ?_
          have hlt := (c3_dec n (by omega) a (by omega) b (by omega)).2.2.2
          refine j_topi (nI (c3 n a + c3 n b)) (nI_add _ _) ?_
          refine j_zald_n (n := 67) dX8_isGate_66 rfl (by first | decide | omega) (by first | assumption | rfl) (by decide) (by first | assumption | omega) ?_
          rw [hend ha hb]
          refine j_bif_eq (n := 70) 88 dX8_isGate_67 rfl (by decide) (fun e3 => ?_) (fun e3 => ?_)
          · exact next (by simp [pB, e3])
          have hab2 : a < b := by
            rcases Nat.lt_or_ge a b with z | z
            · exact z
            · have e : b = a := by omega
              rw [e, hasC_same hn ha e1] at e3
              cases e3
          have hyes : pB n t a b = true := by simp [pB, e2, e3, hab2]
          have hwb : wB n t a = b := first_at hno2 hyes _ hb
          have hyesA : pA n t a = true := by
            unfold pA
            rw [e1, dec_first_t hno2 hyes hb]
            rfl
          have hwa : wA n t = a := first_at hno hyesA _ ha
          have hg : isG n t = false := by unfold isG; rw [dec_first_t hno hyesA ha]; rfl
          refine j_aload_n0 (n := 71) dX8_isGate_70 rfl ?_
          refine j_get (n := 74) (k := 4) dX8_isGate_71 rfl jcl7 (Nat.le_of_ble_eq_true rfl) fl_X8_24 (by first | decide | omega) (by first | assumption | rfl) (by rfl) ?_
          refine j_iconst (n := 75) (nI 0) dX8_isGate_74 rfl (by decide) ?_
          refine j_iload4 (n := 77) dX8_isGate_75 rfl ?_
          refine j_iast_n (n := 78) dX8_isGate_77 rfl (by first | decide | omega) (by first | assumption | rfl) (by decide) (by first | assumption | omega) ?_
          refine j_aload_n0 (n := 79) dX8_isGate_78 rfl ?_
          refine j_get (n := 82) (k := 4) dX8_isGate_79 rfl jcl7 (Nat.le_of_ble_eq_true rfl) fl_X8_24 (by first | decide | omega) (by first | assumption | rfl) (by rfl) ?_
          refine j_iconst (n := 83) (nI 1) dX8_isGate_82 rfl (by decide) ?_
          refine j_iload5 (n := 85) dX8_isGate_83 rfl ?_
          refine j_iast_n (n := 86) dX8_isGate_85 rfl (by first | decide | omega) (by first | assumption | rfl) (by decide) (by first | assumption | omega) ?_
          rw [va_uu]
          refine j_iconst (n := 87) (nI 0) dX8_isGate_86 rfl (by decide) ?_
          refine j_ret0 hg dX8_isGate_87 rfl ⟨rfl, th2, hf2, _, rfl, hth, fun _ => ?_⟩
          rw [hwa, hwb]
          exact ⟨rfl, rfl⟩
      refine inner a (by omega) (Nat.le_refl _) (fun j hj => ?_)
      simp [pB, show ¬ a < j by omega]
  exact key 0 (Nat.zero_le _) _ (fun j hj => absurd hj (Nat.not_lt_zero j))
theorem wit_in {n t : Nat} (h : isG n t = false) : wA n t < 2 ^ n ∧ wB n t (wA n t) < 2 ^ n ∧ wC n t (wA n t) (wB n t (wA n t)) < 2 ^ n := by
  have h1 : wA n t < 2 ^ n := by
    unfold isG at h
    cases hd : decide (fa_first (pA n t) (2 ^ n) < 2 ^ n) with
    | true => exact of_decide_eq_true hd
    | false => rw [hd] at h; cases h
  have h2 := fa_first_yes (pA n t) (2 ^ n) h1
  have h3 : pA n t (wA n t) = true := h2
  unfold pA at h3
  have h4 : wB n t (wA n t) < 2 ^ n := of_decide_eq_true (Bool.and_eq_true _ _ ▸ h3).2
  have h5 : pB n t (wA n t) (wB n t (wA n t)) = true := fa_first_yes (pB n t (wA n t)) (2 ^ n) h4
  unfold pB hasC at h5
  simp only [Bool.and_eq_true, decide_eq_true_eq] at h5
  exact ⟨h1, h4, h5.2.2⟩
set_option maxRecDepth 100000 in
theorem con_X8_findOthers {g : jG} {M : jMem} {q : jMq} {n t : Nat} {th wt : Nat → Int32} (h34 : M 34 = .inr (7, oMod g q)) (h37 : M 37 = iA g 32 th) (h39 : M 39 = iA g 4 wt) (hn : n ≤ 5) (ht : t < 2 ^ 32) (hth : ∀ r, r < 2 ^ n → th r = nI (c3 n r)) (hg : isG n t = false) (hw : wt 0 = nI (wA n t) ∧ wt 1 = nI (wB n t (wA n t))) : Con g jX8_findOthers 1 [.ref (jA g 34), .long (lN t), .int (nI n)] M (fun v M2 => v = none ∧ ∃ wt2, M2 = va_up M 39 (iA g 4 wt2) ∧ witF wt2 (wA n t) (wB n t (wA n t)) (wC n t (wA n t) (wB n t (wA n t))) (wD n t (wA n t) (wB n t (wA n t)))) := by
  have h5 := pw5 hn
  obtain ⟨hA, hB, hC⟩ := wit_in hg
  obtain ⟨hw0, hw1⟩ := hw
  have hcyes : okC t (wA n t) (wB n t (wA n t)) (wC n t (wA n t) (wB n t (wA n t))) = true := fa_first_yes _ _ hC
  have hcno := fa_first_no (okC t (wA n t) (wB n t (wA n t))) (2 ^ n)
  unfold wD
  generalize hcC : wC n t (wA n t) (wB n t (wA n t)) = C at *
  have hcC2 : fa_first (okC t (wA n t) (wB n t (wA n t))) (2 ^ n) = C := hcC
  rw [hcC2] at hcno
  generalize wA n t = A at *
  generalize wB n t A = B at *
  obtain ⟨D, eD, pD1, pD2, pD3, pD4, pD5⟩ := pair_okC hn hA hB hC hcyes
  have hl1 := (c3_dec n (by omega) A (by omega) B (by omega)).2.2.2
  refine con_of (l := [some (.ref (jA g 34)), some (.long (lN t)), none, some (.int (nI n)), none, none, none]) (by decide) (Nat.le_of_ble_eq_true rfl) rfl ?_
  refine j_aload_n0 (n := 1) dX8_findOthers_0 rfl ?_
  refine j_get (n := 4) (k := 2) dX8_findOthers_1 rfl jcl7 (Nat.le_of_ble_eq_true rfl) fl_X8_17 (by first | decide | omega) (by first | assumption | rfl) (by rfl) ?_
  refine j_aload_n0 (n := 5) dX8_findOthers_4 rfl ?_
  refine j_get (n := 8) (k := 4) dX8_findOthers_5 rfl jcl7 (Nat.le_of_ble_eq_true rfl) fl_X8_24 (by first | decide | omega) (by first | assumption | rfl) (by rfl) ?_
  refine j_iconst (n := 9) (nI 0) dX8_findOthers_8 rfl (by decide) ?_
  refine j_iald_n (n := 10) dX8_findOthers_9 rfl (by first | decide | omega) (by first | assumption | rfl) (by decide) (by first | assumption | omega) ?_
  rw [hw0]
  refine j_iald_n (n := 11) dX8_findOthers_10 rfl (by first | decide | omega) (by first | assumption | rfl) (by decide) (by first | assumption | omega) ?_
  rw [hth A hA]
  refine j_aload_n0 (n := 12) dX8_findOthers_11 rfl ?_
  refine j_get (n := 15) (k := 2) dX8_findOthers_12 rfl jcl7 (Nat.le_of_ble_eq_true rfl) fl_X8_17 (by first | decide | omega) (by first | assumption | rfl) (by rfl) ?_
  refine j_aload_n0 (n := 16) dX8_findOthers_15 rfl ?_
  refine j_get (n := 19) (k := 4) dX8_findOthers_16 rfl jcl7 (Nat.le_of_ble_eq_true rfl) fl_X8_24 (by first | decide | omega) (by first | assumption | rfl) (by rfl) ?_
  refine j_iconst (n := 20) (nI 1) dX8_findOthers_19 rfl (by decide) ?_
  refine j_iald_n (n := 21) dX8_findOthers_20 rfl (by first | decide | omega) (by first | assumption | rfl) (by decide) (by first | assumption | omega) ?_
  rw [hw1]
  refine j_iald_n (n := 22) dX8_findOthers_21 rfl (by first | decide | omega) (by first | assumption | rfl) (by decide) (by first | assumption | omega) ?_
  rw [hth B hB]
  refine j_iadd (n := 23) dX8_findOthers_22 rfl ?_
  refine j_topi (nI (c3 n A + c3 n B)) (nI_add _ _) ?_
  refine j_istore4 (n := 25) dX8_findOthers_23 rfl (Nat.le_of_ble_eq_true rfl) rfl ?_
  refine j_iconst (n := 26) (nI 0) dX8_findOthers_25 rfl (by decide) ?_
  refine j_istore5 (n := 28) dX8_findOthers_26 rfl (Nat.le_of_ble_eq_true rfl) rfl ?_
  have key : ∀ c, c ≤ C → ∀ x6 : Option Value, J g jX8_findOthers 1 (fun v M2 => v = none ∧ ∃ wt2, M2 = va_up M 39 (iA g 4 wt2) ∧ witF wt2 A B C ((A &&& B) + (A ||| B) - C)) 28 [some (.ref (jA g 34)), some (.long (lN t)), none, some (.int (nI n)), some (.int (nI (c3 n A + c3 n B))), some (.int (nI c)), x6] [] M := by
    refine j_for ?_ ?_
    · intro x6
      refine j_iload5 (n := 30) dX8_findOthers_28 rfl ?_
      refine j_iconst (n := 31) (nI 1) dX8_findOthers_30 rfl (by decide) ?_
      refine j_iload_n3 (n := 32) dX8_findOthers_31 rfl ?_
      refine j_ishl (n := 33) dX8_findOthers_32 rfl ?_
      refine j_topi (nI (2 ^ n)) (ai_shl1 (by omega)) ?_
      refine j_nicmp_ge (n := 36) 115 dX8_findOthers_33 rfl (by decide) (by omega) (by omega) (fun h => ?_) (fun h => ?_)
      · omega
      refine j_iload5 (n := 38) dX8_findOthers_36 rfl ?_
      refine j_istore6 (n := 40) dX8_findOthers_38 rfl (Nat.le_of_ble_eq_true rfl) rfl ?_
      have inner : ∀ d, d ≤ D → C ≤ d → J g jX8_findOthers 1 (fun v M2 => v = none ∧ ∃ wt2, M2 = va_up M 39 (iA g 4 wt2) ∧ witF wt2 A B C ((A &&& B) + (A ||| B) - C)) 40 [some (.ref (jA g 34)), some (.long (lN t)), none, some (.int (nI n)), some (.int (nI (c3 n A + c3 n B))), some (.int (nI C)), some (.int (nI d))] [] M := by
        refine j_for ?_ ?_
        · intro _
          refine j_iload6 (n := 42) dX8_findOthers_40 rfl ?_
          refine j_iconst (n := 43) (nI 1) dX8_findOthers_42 rfl (by decide) ?_
          refine j_iload_n3 (n := 44) dX8_findOthers_43 rfl ?_
          refine j_ishl (n := 45) dX8_findOthers_44 rfl ?_
          refine j_topi (nI (2 ^ n)) (ai_shl1 (by omega)) ?_
          refine j_nicmp_ge (n := 48) 109 dX8_findOthers_45 rfl (by decide) (by omega) (by omega) (fun h => ?_) (fun h => ?_)
          · omega
          refine j_lload_n1 (n := 49) dX8_findOthers_48 rfl ?_
          refine j_iload5 (n := 51) dX8_findOthers_49 rfl ?_
          refine j_fnS2 (n := 54) (con_X8_is (by omega) (by omega)) dX8_findOthers_51 rfl cal_X8_is ml_X8_80 (Nat.le_of_ble_eq_true rfl) (Nat.le_of_ble_eq_true rfl) ?_
          rw [pD3]
          refine j_bif_ne (n := 57) 109 dX8_findOthers_54 rfl (by decide) (fun e1 => ?_) (fun e1 => ?_)
          · cases e1
          refine j_lload_n1 (n := 58) dX8_findOthers_57 rfl ?_
          refine j_iload6 (n := 60) dX8_findOthers_58 rfl ?_
          refine j_fnS2 (n := 63) (con_X8_is (by omega) (by omega)) dX8_findOthers_60 rfl cal_X8_is ml_X8_80 (Nat.le_of_ble_eq_true rfl) (Nat.le_of_ble_eq_true rfl) ?_
          rw [pD4]
          refine j_bif_ne (n := 66) 103 dX8_findOthers_63 rfl (by decide) (fun e2 => ?_) (fun e2 => ?_)
          · cases e2
          refine j_aload_n0 (n := 67) dX8_findOthers_66 rfl ?_
          refine j_get (n := 70) (k := 2) dX8_findOthers_67 rfl jcl7 (Nat.le_of_ble_eq_true rfl) fl_X8_17 (by first | decide | omega) (by first | assumption | rfl) (by rfl) ?_
          refine j_iload5 (n := 72) dX8_findOthers_70 rfl ?_
          refine j_iald_n (n := 73) dX8_findOthers_72 rfl (by first | decide | omega) (by first | assumption | rfl) (by decide) (by first | assumption | omega) ?_
          rw [hth C hC]
          refine j_aload_n0 (n := 74) dX8_findOthers_73 rfl ?_
          refine j_get (n := 77) (k := 2) dX8_findOthers_74 rfl jcl7 (Nat.le_of_ble_eq_true rfl) fl_X8_17 (by first | decide | omega) (by first | assumption | rfl) (by rfl) ?_
          refine j_iload6 (n := 79) dX8_findOthers_77 rfl ?_
          refine j_iald_n (n := 80) dX8_findOthers_79 rfl (by first | decide | omega) (by first | assumption | rfl) (by decide) (by first | assumption | omega) ?_
          rw [hth D pD2]
          refine j_iadd (n := 81) dX8_findOthers_80 rfl ?_
          refine j_topi (nI (c3 n C + c3 n D)) (nI_add _ _) ?_
          refine j_iload4 (n := 83) dX8_findOthers_81 rfl ?_
          rw [pD5]
          refine j_nicmp_ne (n := 86) 103 dX8_findOthers_83 rfl (by decide) (by omega) (by omega) (fun e3 => ?_) (fun e3 => ?_)
          · exact absurd rfl e3
          refine j_aload_n0 (n := 87) dX8_findOthers_86 rfl ?_
          refine j_get (n := 90) (k := 4) dX8_findOthers_87 rfl jcl7 (Nat.le_of_ble_eq_true rfl) fl_X8_24 (by first | decide | omega) (by first | assumption | rfl) (by rfl) ?_
          refine j_iconst (n := 91) (nI 2) dX8_findOthers_90 rfl (by decide) ?_
          refine j_iload5 (n := 93) dX8_findOthers_91 rfl ?_
          refine j_iast_n (n := 94) dX8_findOthers_93 rfl (by first | decide | omega) (by first | assumption | rfl) (by decide) (by first | assumption | omega) ?_
          refine j_aload_n0 (n := 95) dX8_findOthers_94 rfl ?_
          refine j_get (n := 98) (k := 4) dX8_findOthers_95 rfl jcl7 (Nat.le_of_ble_eq_true rfl) fl_X8_24 (by first | decide | omega) (by first | assumption | rfl) (by rfl) ?_
          refine j_iconst (n := 99) (nI 3) dX8_findOthers_98 rfl (by decide) ?_
          refine j_iload6 (n := 101) dX8_findOthers_99 rfl ?_
          refine j_iast_n (n := 102) dX8_findOthers_101 rfl (by first | decide | omega) (by first | assumption | rfl) (by decide) (by first | assumption | omega) ?_
          rw [va_uu]
          refine j_vret dX8_findOthers_102 rfl ?_
          refine ⟨rfl, _, rfl, ?_⟩
          rw [← eD]
          exact ⟨hw0, hw1, rfl, rfl⟩
        · intro d hd ih2 hcd
          refine j_iload6 (n := 42) dX8_findOthers_40 rfl ?_
          refine j_iconst (n := 43) (nI 1) dX8_findOthers_42 rfl (by decide) ?_
          refine j_iload_n3 (n := 44) dX8_findOthers_43 rfl ?_
          refine j_ishl (n := 45) dX8_findOthers_44 rfl ?_
          refine j_topi (nI (2 ^ n)) (ai_shl1 (by omega)) ?_
          refine j_nicmp_ge (n := 48) 109 dX8_findOthers_45 rfl (by decide) (by omega) (by omega) (fun h => ?_) (fun h => ?_)
          · omega
          refine j_lload_n1 (n := 49) dX8_findOthers_48 rfl ?_
          refine j_iload5 (n := 51) dX8_findOthers_49 rfl ?_
          refine j_fnS2 (n := 54) (con_X8_is (by omega) (by omega)) dX8_findOthers_51 rfl cal_X8_is ml_X8_80 (Nat.le_of_ble_eq_true rfl) (Nat.le_of_ble_eq_true rfl) ?_
          rw [pD3]
          refine j_bif_ne (n := 57) 109 dX8_findOthers_54 rfl (by decide) (fun e1 => ?_) (fun e1 => ?_)
          · cases e1
          have next : J g jX8_findOthers 1 (fun v M2 => v = none ∧ ∃ wt2, M2 = va_up M 39 (iA g 4 wt2) ∧ witF wt2 A B C ((A &&& B) + (A ||| B) - C)) 103 [some (.ref (jA g 34)), some (.long (lN t)), none, some (.int (nI n)), some (.int (nI (c3 n A + c3 n B))), some (.int (nI C)), some (.int (nI d))] [] M := by
            refine j_inc6 (n := 106) dX8_findOthers_103 rfl (Nat.le_of_ble_eq_true rfl) rfl ?_
            refine j_goto 40 dX8_findOthers_106 (by decide) ?_
            exact ih2 (by omega)
          refine j_lload_n1 (n := 58) dX8_findOthers_57 rfl ?_
          refine j_iload6 (n := 60) dX8_findOthers_58 rfl ?_
          refine j_fnS2 (n := 63) (con_X8_is (by omega) (by omega)) dX8_findOthers_60 rfl cal_X8_is ml_X8_80 (Nat.le_of_ble_eq_true rfl) (Nat.le_of_ble_eq_true rfl) ?_
          refine j_bif_ne (n := 66) 103 dX8_findOthers_63 rfl (by decide) (fun e2 => ?_) (fun e2 => ?_)
          · exact next
          refine j_aload_n0 (n := 67) dX8_findOthers_66 rfl ?_
          refine j_get (n := 70) (k := 2) dX8_findOthers_67 rfl jcl7 (Nat.le_of_ble_eq_true rfl) fl_X8_17 (by first | decide | omega) (by first | assumption | rfl) (by rfl) ?_
          refine j_iload5 (n := 72) dX8_findOthers_70 rfl ?_
          refine j_iald_n (n := 73) dX8_findOthers_72 rfl (by first | decide | omega) (by first | assumption | rfl) (by decide) (by first | assumption | omega) ?_
          rw [hth C hC]
          refine j_aload_n0 (n := 74) dX8_findOthers_73 rfl ?_
          refine j_get (n := 77) (k := 2) dX8_findOthers_74 rfl jcl7 (Nat.le_of_ble_eq_true rfl) fl_X8_17 (by first | decide | omega) (by first | assumption | rfl) (by rfl) ?_
          refine j_iload6 (n := 79) dX8_findOthers_77 rfl ?_
          refine j_iald_n (n := 80) dX8_findOthers_79 rfl (by first | decide | omega) (by first | assumption | rfl) (by decide) (by first | assumption | omega) ?_
          rw [hth d (by omega)]
          refine j_iadd (n := 81) dX8_findOthers_80 rfl ?_
          have hl2 := (c3_dec n (by omega) C (by omega) d (by omega)).2.2.2
          refine j_topi (nI (c3 n C + c3 n d)) (nI_add _ _) ?_
          refine j_iload4 (n := 83) dX8_findOthers_81 rfl ?_
          refine j_nicmp_ne (n := 86) 103 dX8_findOthers_83 rfl (by decide) (by omega) (by omega) (fun e3 => ?_) (fun e3 => ?_)
          · exact next
          have := (okC_pair hn hA hB hcd (by omega) pD3 e2 e3).2
          omega
      exact inner C pD1 (Nat.le_refl _)
    · intro c hc ih x6
      refine j_iload5 (n := 30) dX8_findOthers_28 rfl ?_
      refine j_iconst (n := 31) (nI 1) dX8_findOthers_30 rfl (by decide) ?_
      refine j_iload_n3 (n := 32) dX8_findOthers_31 rfl ?_
      refine j_ishl (n := 33) dX8_findOthers_32 rfl ?_
      refine j_topi (nI (2 ^ n)) (ai_shl1 (by omega)) ?_
      refine j_nicmp_ge (n := 36) 115 dX8_findOthers_33 rfl (by decide) (by omega) (by omega) (fun h => ?_) (fun h => ?_)
      · omega
      refine j_iload5 (n := 38) dX8_findOthers_36 rfl ?_
      refine j_istore6 (n := 40) dX8_findOthers_38 rfl (Nat.le_of_ble_eq_true rfl) rfl ?_
      have fin : ∀ d : Nat, J g jX8_findOthers 1 (fun v M2 => v = none ∧ ∃ wt2, M2 = va_up M 39 (iA g 4 wt2) ∧ witF wt2 A B C ((A &&& B) + (A ||| B) - C)) 109 [some (.ref (jA g 34)), some (.long (lN t)), none, some (.int (nI n)), some (.int (nI (c3 n A + c3 n B))), some (.int (nI c)), some (.int (nI d))] [] M := by
        intro d
        refine j_inc5 (n := 112) dX8_findOthers_109 rfl (Nat.le_of_ble_eq_true rfl) rfl ?_
        refine j_goto 28 dX8_findOthers_112 (by decide) ?_
        exact ih _
      have inner : ∀ d, d ≤ 2 ^ n → c ≤ d → J g jX8_findOthers 1 (fun v M2 => v = none ∧ ∃ wt2, M2 = va_up M 39 (iA g 4 wt2) ∧ witF wt2 A B C ((A &&& B) + (A ||| B) - C)) 40 [some (.ref (jA g 34)), some (.long (lN t)), none, some (.int (nI n)), some (.int (nI (c3 n A + c3 n B))), some (.int (nI c)), some (.int (nI d))] [] M := by
        refine j_for ?_ ?_
        · intro _
          refine j_iload6 (n := 42) dX8_findOthers_40 rfl ?_
          refine j_iconst (n := 43) (nI 1) dX8_findOthers_42 rfl (by decide) ?_
          refine j_iload_n3 (n := 44) dX8_findOthers_43 rfl ?_
          refine j_ishl (n := 45) dX8_findOthers_44 rfl ?_
          refine j_topi (nI (2 ^ n)) (ai_shl1 (by omega)) ?_
          refine j_nicmp_ge (n := 48) 109 dX8_findOthers_45 rfl (by decide) (by omega) (by omega) (fun h => ?_) (fun h => ?_)
          · exact fin _
          · omega
        · intro d hd ih2 hcd
          refine j_iload6 (n := 42) dX8_findOthers_40 rfl ?_
          refine j_iconst (n := 43) (nI 1) dX8_findOthers_42 rfl (by decide) ?_
          refine j_iload_n3 (n := 44) dX8_findOthers_43 rfl ?_
          refine j_ishl (n := 45) dX8_findOthers_44 rfl ?_
          refine j_topi (nI (2 ^ n)) (ai_shl1 (by omega)) ?_
          refine j_nicmp_ge (n := 48) 109 dX8_findOthers_45 rfl (by decide) (by omega) (by omega) (fun h => ?_) (fun h => ?_)
          · omega
          refine j_lload_n1 (n := 49) dX8_findOthers_48 rfl ?_
          refine j_iload5 (n := 51) dX8_findOthers_49 rfl ?_
          refine j_fnS2 (n := 54) (con_X8_is (by omega) (by omega)) dX8_findOthers_51 rfl cal_X8_is ml_X8_80 (Nat.le_of_ble_eq_true rfl) (Nat.le_of_ble_eq_true rfl) ?_
          refine j_bif_ne (n := 57) 109 dX8_findOthers_54 rfl (by decide) (fun e1 => ?_) (fun e1 => ?_)
          · exact fin _
          have next : J g jX8_findOthers 1 (fun v M2 => v = none ∧ ∃ wt2, M2 = va_up M 39 (iA g 4 wt2) ∧ witF wt2 A B C ((A &&& B) + (A ||| B) - C)) 103 [some (.ref (jA g 34)), some (.long (lN t)), none, some (.int (nI n)), some (.int (nI (c3 n A + c3 n B))), some (.int (nI c)), some (.int (nI d))] [] M := by
            refine j_inc6 (n := 106) dX8_findOthers_103 rfl (Nat.le_of_ble_eq_true rfl) rfl ?_
            refine j_goto 40 dX8_findOthers_106 (by decide) ?_
            exact ih2 (by omega)
          refine j_lload_n1 (n := 58) dX8_findOthers_57 rfl ?_
          refine j_iload6 (n := 60) dX8_findOthers_58 rfl ?_
          refine j_fnS2 (n := 63) (con_X8_is (by omega) (by omega)) dX8_findOthers_60 rfl cal_X8_is ml_X8_80 (Nat.le_of_ble_eq_true rfl) (Nat.le_of_ble_eq_true rfl) ?_
          refine j_bif_ne (n := 66) 103 dX8_findOthers_63 rfl (by decide) (fun e2 => ?_) (fun e2 => ?_)
          · exact next
          refine j_aload_n0 (n := 67) dX8_findOthers_66 rfl ?_
          refine j_get (n := 70) (k := 2) dX8_findOthers_67 rfl jcl7 (Nat.le_of_ble_eq_true rfl) fl_X8_17 (by first | decide | omega) (by first | assumption | rfl) (by rfl) ?_
          refine j_iload5 (n := 72) dX8_findOthers_70 rfl ?_
          refine j_iald_n (n := 73) dX8_findOthers_72 rfl (by first | decide | omega) (by first | assumption | rfl) (by decide) (by first | assumption | omega) ?_
          rw [hth c (by omega)]
          refine j_aload_n0 (n := 74) dX8_findOthers_73 rfl ?_
          refine j_get (n := 77) (k := 2) dX8_findOthers_74 rfl jcl7 (Nat.le_of_ble_eq_true rfl) fl_X8_17 (by first | decide | omega) (by first | assumption | rfl) (by rfl) ?_
          refine j_iload6 (n := 79) dX8_findOthers_77 rfl ?_
          refine j_iald_n (n := 80) dX8_findOthers_79 rfl (by first | decide | omega) (by first | assumption | rfl) (by decide) (by first | assumption | omega) ?_
          rw [hth d (by omega)]
          refine j_iadd (n := 81) dX8_findOthers_80 rfl ?_
          have hl2 := (c3_dec n (by omega) c (by omega) d (by omega)).2.2.2
          refine j_topi (nI (c3 n c + c3 n d)) (nI_add _ _) ?_
          refine j_iload4 (n := 83) dX8_findOthers_81 rfl ?_
          refine j_nicmp_ne (n := 86) 103 dX8_findOthers_83 rfl (by decide) (by omega) (by omega) (fun e3 => ?_) (fun e3 => ?_)
          · exact next
          have h9 := (okC_pair hn hA hB hcd (by omega) e1 e2 e3).1
          rw [hcno c hc] at h9
          cases h9
      exact inner c (by omega) (Nat.le_refl _)
  exact key 0 (Nat.zero_le _) _
