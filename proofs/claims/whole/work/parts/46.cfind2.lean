set_option maxRecDepth 100000 in
theorem con_J6_bitCount_0f7a4 {g : jG} {M : jMem} {r : Nat} (hr : r < 32) : Fn g jJ6_bitCount_0f7a4 0 [.int (nI r)] M (.int (nI (cnt 32 r.testBit))) := by
  refine con_of (l := [some (.int (nI r))]) (by decide) (Nat.le_of_ble_eq_true rfl) rfl ?_
  refine j_iload_n0 (n := 1) dJ6_bitCount_0f7a4_0 rfl ?_
  refine j_iload_n0 (n := 2) dJ6_bitCount_0f7a4_1 rfl ?_
  refine j_iconst (n := 3) (nI 1) dJ6_bitCount_0f7a4_2 rfl (by decide) ?_
  refine j_iushr (n := 4) dJ6_bitCount_0f7a4_3 rfl ?_
  refine j_ldcw (n := 7) dJ6_bitCount_0f7a4_4 rfl cn_J6_265 ?_
  refine j_iand (n := 8) dJ6_bitCount_0f7a4_7 rfl ?_
  refine j_isub (n := 9) dJ6_bitCount_0f7a4_8 rfl ?_
  refine j_istore_n0 (n := 10) dJ6_bitCount_0f7a4_9 rfl (Nat.le_of_ble_eq_true rfl) ?_
  refine j_iload_n0 (n := 11) dJ6_bitCount_0f7a4_10 rfl ?_
  refine j_ldcw (n := 14) dJ6_bitCount_0f7a4_11 rfl cn_J6_266 ?_
  refine j_iand (n := 15) dJ6_bitCount_0f7a4_14 rfl ?_
  refine j_iload_n0 (n := 16) dJ6_bitCount_0f7a4_15 rfl ?_
  refine j_iconst (n := 17) (nI 2) dJ6_bitCount_0f7a4_16 rfl (by decide) ?_
  refine j_iushr (n := 18) dJ6_bitCount_0f7a4_17 rfl ?_
  refine j_ldcw (n := 21) dJ6_bitCount_0f7a4_18 rfl cn_J6_266 ?_
  refine j_iand (n := 22) dJ6_bitCount_0f7a4_21 rfl ?_
  refine j_iadd (n := 23) dJ6_bitCount_0f7a4_22 rfl ?_
  refine j_istore_n0 (n := 24) dJ6_bitCount_0f7a4_23 rfl (Nat.le_of_ble_eq_true rfl) ?_
  refine j_iload_n0 (n := 25) dJ6_bitCount_0f7a4_24 rfl ?_
  refine j_iload_n0 (n := 26) dJ6_bitCount_0f7a4_25 rfl ?_
  refine j_iconst (n := 27) (nI 4) dJ6_bitCount_0f7a4_26 rfl (by decide) ?_
  refine j_iushr (n := 28) dJ6_bitCount_0f7a4_27 rfl ?_
  refine j_iadd (n := 29) dJ6_bitCount_0f7a4_28 rfl ?_
  refine j_ldcw (n := 32) dJ6_bitCount_0f7a4_29 rfl cn_J6_267 ?_
  refine j_iand (n := 33) dJ6_bitCount_0f7a4_32 rfl ?_
  refine j_istore_n0 (n := 34) dJ6_bitCount_0f7a4_33 rfl (Nat.le_of_ble_eq_true rfl) ?_
  refine j_iload_n0 (n := 35) dJ6_bitCount_0f7a4_34 rfl ?_
  refine j_iload_n0 (n := 36) dJ6_bitCount_0f7a4_35 rfl ?_
  refine j_bipush (n := 38) (nI 8) dJ6_bitCount_0f7a4_36 rfl (by decide) ?_
  refine j_iushr (n := 39) dJ6_bitCount_0f7a4_38 rfl ?_
  refine j_iadd (n := 40) dJ6_bitCount_0f7a4_39 rfl ?_
  refine j_istore_n0 (n := 41) dJ6_bitCount_0f7a4_40 rfl (Nat.le_of_ble_eq_true rfl) ?_
  refine j_iload_n0 (n := 42) dJ6_bitCount_0f7a4_41 rfl ?_
  refine j_iload_n0 (n := 43) dJ6_bitCount_0f7a4_42 rfl ?_
  refine j_bipush (n := 45) (nI 16) dJ6_bitCount_0f7a4_43 rfl (by decide) ?_
  refine j_iushr (n := 46) dJ6_bitCount_0f7a4_45 rfl ?_
  refine j_iadd (n := 47) dJ6_bitCount_0f7a4_46 rfl ?_
  refine j_istore_n0 (n := 48) dJ6_bitCount_0f7a4_47 rfl (Nat.le_of_ble_eq_true rfl) ?_
  refine j_iload_n0 (n := 49) dJ6_bitCount_0f7a4_48 rfl ?_
  refine j_bipush (n := 51) (nI 63) dJ6_bitCount_0f7a4_49 rfl (by decide) ?_
  refine j_iand (n := 52) dJ6_bitCount_0f7a4_51 rfl ?_
  refine j_topi (nI (cnt 32 r.testBit)) ?_ ?_
  · clear M g
    revert r
    decide +kernel
  refine j_iret dJ6_bitCount_0f7a4_52 rfl ?_
  exact ⟨rfl, rfl⟩
/-- the class's least weighing, at rest -/
def lsI (g : jG) (M : jMem) : Prop := ∃ b sz nn bits wt pl fr lo gz sm, M 5 = .inr (2, oLeast g b sz nn bits) ∧ M 6 = iA g 5 wt ∧ M 7 = iA g 5 pl ∧ M 8 = iA g 5 fr ∧ M 9 = .inr (4, oSums g 10 lo gz) ∧ M 10 = iA g 32 sm ∧ sm 0 = iI 0
/-- what it tells of a gate -/
def lsOK (g : jG) (M : jMem) (n t : Nat) : Prop := ∃ wt lo gz sm, M 5 = .inr (2, oLeast g (iI (bndW n t (lwW n t))) (nI (fb_sm (lwS n t) n)) (nI n) (lN t)) ∧ M 6 = iA g 5 wt ∧ (∀ j, j < n → wt j = iI (lwW n t j)) ∧ M 9 = .inr (4, oSums g 10 lo gz) ∧ M 10 = iA g 32 sm ∧ ∀ j, j < 2 ^ n → sm j = iI (rsum (lwW n t) j n)
theorem cnt32_all {n t : Nat} (hn : n ≤ 5) (ht : t < 2 ^ 2 ^ n) : cnt 32 t.testBit = cnt (2 ^ n) t.testBit := by
  have h := cnt_32 hn ht (fun _ => true)
  simp only [Bool.and_true] at h
  exact h
set_option maxRecDepth 100000 in
theorem con_X2_find {g : jG} {M : jMem} {n t : Nat} (h1 : 1 ≤ n) (hn : n ≤ 5) (ht : t < 2 ^ 2 ^ n) (hg : isG n t = true) (hL : lsI g M) : Con g jX2_find 9 [.ref (jA g 5), .int (nI n), .long (lN t)] M (fun v M2 => v = some (.int (jB true)) ∧ lsI g M2 ∧ lsOK g M2 n t ∧ ∀ k, k < 5 ∨ 10 < k → M2 k = M k) := by
  have hx : EXg n t := EX_all n t h1 hn ht hg
  obtain ⟨hlw, h16⟩ := lwS_LW hx
  have ht32 : t < 2 ^ 32 := Nat.lt_of_lt_of_le ht (Nat.pow_le_pow_right (by omega) (pw5 hn))
  obtain ⟨b, sz, nn, bits, wt, pl, fr, lo, gz, sm, h5, h6, h7, h8, h9, h10, hs0⟩ := hL
  refine con_of (l := [some (.ref (jA g 5)), some (.int (nI n)), some (.long (lN t)), none, none, none]) (by decide) (Nat.le_of_ble_eq_true rfl) rfl ?_
  refine j_aload_n0 (n := 1) dX2_find_0 rfl ?_
  refine j_iload_n1 (n := 2) dX2_find_1 rfl ?_
  refine j_put (n := 5) (k := 3) (fs2 := oLeast g b sz (nI n) bits) dX2_find_2 rfl jcl2 tyX2_ok nmX2 (Nat.le_of_ble_eq_true rfl) rfl (tyX2_ok 3 (Nat.le_of_ble_eq_true rfl)) fl_X2_28 (by rfl) (by rfl) (by first | decide | omega) (by first | assumption | rfl) (Nat.le_of_ble_eq_true rfl) (by rfl) ?_
  refine j_aload_n0 (n := 6) dX2_find_5 rfl ?_
  refine j_lload_n2 (n := 7) dX2_find_6 rfl ?_
  refine j_put (k := 4) (n := 10) (fs2 := oLeast g b sz (nI n) (lN t)) dX2_find_7 rfl jcl2 tyX2_ok nmX2 (Nat.le_of_ble_eq_true rfl) rfl (tyX2_ok 4 (Nat.le_of_ble_eq_true rfl)) fl_X2_32 (by rfl) (by rfl) (by omega) va_at_eq (Nat.le_of_ble_eq_true rfl) (by rfl) ?_
  rw [va_uu]
  refine j_iconst (n := 11) (nI 0) dX2_find_10 rfl (by decide) ?_
  refine j_istore4 (n := 13) dX2_find_11 rfl (Nat.le_of_ble_eq_true rfl) rfl ?_
  -- the search
  have srch : ∀ (pl fr : Nat → Int32) (F : Nat → Nat) (B : jMem), B 5 = .inr (2, oLeast g b sz (nI n) (lN t)) → B 7 = iA g 5 pl → B 8 = iA g 5 fr → (∀ k, k < 5 ∨ 10 < k → B k = M k) → (∀ j, j < n → pl j = iI (pu n t j)) → (∀ j, j < n → fr j = nI (F j)) → GoodF n t F → ∀ sp, sp ≤ fb_sm (lwS n t) n - fb_sm F n → ∀ (b2 lo2 gz2 : Int32) (wt2 sm2 : Nat → Int32), sm2 0 = iI 0 → J g jX2_find 9 (fun v M2 => v = some (.int (jB true)) ∧ lsI g M2 ∧ lsOK g M2 n t ∧ ∀ k, k < 5 ∨ 10 < k → M2 k = M k) 63 [some (.ref (jA g 5)), some (.int (nI n)), some (.long (lN t)), none, some (.int (nI (fb_sm F n))), some (.int (nI sp))] [] (LM g B sz n t b2 wt2 sm2 lo2 gz2) := by
    intro pl fr F B b5 b7 b8 bk hpl hfr hF
    have hFs := hF _ hlw.1
    have hsm : fb_sm F n ≤ fb_sm (lwS n t) n := fb_sm_le hFs
    have adm : AdmP n t F (fb_sm (lwS n t) n - fb_sm F n) 0 (fun _ => 0) (lwS n t) := by
      refine ⟨fun j hj => absurd hj (Nat.not_lt_zero j), fun j _ hj => ⟨hFs j hj, fun z => ?_, fun o ho hb => ?_⟩, ?_, hlw.1⟩
      · have := LW_zero hn hj hg hlw (by omega) z
        have := hFs j hj
        omega
      · rcases hb with ⟨q1, q2⟩ | ⟨q1, q2⟩
        · have := sep_order hn (show o < n by omega) hj hg hlw.1 q1
          omega
        · have := sep_order hn hj (show o < n by omega) hg hlw.1 q1
          omega
      · show fb_sm (lwS n t) n + 0 = 0 + fb_sm F n + (fb_sm (lwS n t) n - fb_sm F n)
        omega
    have body : ∀ sp, sp ≤ fb_sm (lwS n t) n - fb_sm F n → (sp < fb_sm (lwS n t) n - fb_sm F n → ∀ (b2 lo2 gz2 : Int32) (wt2 sm2 : Nat → Int32), sm2 0 = iI 0 → J g jX2_find 9 (fun v M2 => v = some (.int (jB true)) ∧ lsI g M2 ∧ lsOK g M2 n t ∧ ∀ k, k < 5 ∨ 10 < k → M2 k = M k) 63 [some (.ref (jA g 5)), some (.int (nI n)), some (.long (lN t)), none, some (.int (nI (fb_sm F n))), some (.int (nI (sp + 1)))] [] (LM g B sz n t b2 wt2 sm2 lo2 gz2)) → ∀ (b2 lo2 gz2 : Int32) (wt2 sm2 : Nat → Int32), sm2 0 = iI 0 → J g jX2_find 9 (fun v M2 => v = some (.int (jB true)) ∧ lsI g M2 ∧ lsOK g M2 n t ∧ ∀ k, k < 5 ∨ 10 < k → M2 k = M k) 63 [some (.ref (jA g 5)), some (.int (nI n)), some (.long (lN t)), none, some (.int (nI (fb_sm F n))), some (.int (nI sp))] [] (LM g B sz n t b2 wt2 sm2 lo2 gz2) := by
      intro sp hsp ih b2 lo2 gz2 wt2 sm2 hz
      refine j_iload4 (n := 65) dX2_find_63 rfl ?_
      refine j_iload5 (n := 67) dX2_find_65 rfl ?_
      refine j_iadd (n := 68) dX2_find_67 rfl ?_
      refine j_topi (nI (fb_sm F n + sp)) (nI_add _ _) ?_
      refine j_bipush (n := 70) (nI 16) dX2_find_68 rfl (by decide) ?_
      refine j_nicmp_gt (n := 73) 100 dX2_find_70 rfl (by decide) (by omega) (by omega) (fun h => ?_) (fun h => ?_)
      · omega
      refine j_aload_n0 (n := 74) dX2_find_73 rfl ?_
      refine j_iconst (n := 75) (nI 0) dX2_find_74 rfl (by decide) ?_
      refine j_iload5 (n := 77) dX2_find_75 rfl ?_
      refine j_cV2 (n := 80) (con_X2_share (pl := pl) (fr := fr) (F := F) h1 hn ht hg b7 b8 hpl hfr (GoodF_16 hx hF) n 0 (by omega) sp (fun _ => 0) b2 lo2 gz2 wt2 sm2 (by omega) (fun j hj => absurd hj (Nat.not_lt_zero j)) (fun j hj => absurd hj (Nat.not_lt_zero j)) (fun j hj => ?_)) dX2_find_77 rfl cal_X2_share ml_X2_52 (by omega) (by decide) rfl rfl (Nat.le_of_ble_eq_true rfl) LM_5 ?_
      · have : j = 0 := by
          have : (2 : Nat) ^ 0 = 1 := rfl
          omega
        rw [this, hz]
        rfl
      rintro _ M2 ⟨r, rfl, b3, wt3, sm3, lo3, gz3, rfl, hT, hF3⟩
      refine j_bif_eq (n := 83) 94 dX2_find_80 rfl (by decide) (fun e1 => ?_) (fun e1 => ?_)
      · obtain ⟨y1, y2, y3⟩ := hF3 e1
        have hne : sp < fb_sm (lwS n t) n - fb_sm F n := by
          rcases Nat.eq_or_lt_of_le hsp with q | q
          · rw [q] at y1
            exact (y1 _ adm).elim
          · exact q
        refine j_inc5 (n := 97) dX2_find_94 rfl (Nat.le_of_ble_eq_true rfl) rfl ?_
        refine j_goto 63 dX2_find_97 (by decide) ?_
        exact ih hne _ _ _ _ _ (by rw [y3 0 (by decide)]; exact hz)
      · obtain ⟨s, y1, y2, y3, y4, y5⟩ := hT e1
        have es : fb_sm s n = fb_sm F n + sp := by
          have := y1.2.2.1
          have e0 : fb_sm F 0 = 0 := rfl
          have e00 : fb_sm (fun _ => 0) 0 = 0 := rfl
          omega
        have heq : sp = fb_sm (lwS n t) n - fb_sm F n := by
          rcases Nat.eq_or_lt_of_le hsp with q | q
          · exact q
          · exact (hlw.2.1 s (by omega) y1.2.2.2).elim
        have hss : ∀ i, i < n → s i = lwS n t i := by
          rcases vtri n s (lwS n t) with q | q | q
          · exact q
          · exact (hlw.2.2 s (by omega) q y1.2.2.2).elim
          · rw [heq] at y2
            exact (y2 _ adm q).elim
        have hw : ∀ i, i < n → wOf (fl n t) s i = lwW n t i := fun i hi => wOf_cong rfl (hss i hi)
        have m5 : LM g B sz n t b3 wt3 sm3 lo3 gz3 5 = .inr (2, oLeast g b3 sz (nI n) (lN t)) := rfl
        refine j_aload_n0 (n := 84) dX2_find_83 rfl ?_
        refine j_iload4 (n := 86) dX2_find_84 rfl ?_
        refine j_iload5 (n := 88) dX2_find_86 rfl ?_
        refine j_iadd (n := 89) dX2_find_88 rfl ?_
        refine j_topi (nI (fb_sm (lwS n t) n)) (by rw [nI_add]; congr 1; omega) ?_
        refine j_put (n := 92) (k := 2) (fs2 := oLeast g b3 (nI (fb_sm (lwS n t) n)) (nI n) (lN t)) dX2_find_89 rfl jcl2 tyX2_ok nmX2 (Nat.le_of_ble_eq_true rfl) rfl (tyX2_ok 2 (Nat.le_of_ble_eq_true rfl)) fl_X2_56 (by rfl) (by rfl) (by first | decide | omega) (by first | assumption | rfl) (Nat.le_of_ble_eq_true rfl) (by rfl) ?_
        refine j_iconst (n := 93) (nI 1) dX2_find_92 rfl (by decide) ?_
        refine j_ret1 (b := true) rfl dX2_find_93 rfl ⟨rfl, ⟨_, _, _, _, wt3, pl, fr, lo3, gz3, sm3, rfl, rfl, b7, b8, rfl, rfl, ?_⟩, ⟨wt3, lo3, gz3, sm3, ?_, rfl, fun j hj => ?_, rfl, rfl, fun j hj => ?_⟩, fun k hk => ?_⟩
        · rw [y4 0 (Nat.two_pow_pos n)]
          congr 1
          have : ∀ m, rsum (wOf (fl n t) s) 0 m = 0 := by
            intro m
            induction m with
            | zero => rfl
            | succ m ih => unfold rsum; rw [ih]; simp
          exact this n
        · show Sum.inr (2, oLeast g b3 (nI (fb_sm (lwS n t) n)) (nI n) (lN t)) = _
          rw [y5, (sep_cong hw).2]
        · rw [y3 j hj, hw j hj]
        · rw [y4 j hj, rsum_cong n hw]
        · rw [va_at_ne (by omega), LM_k (by omega) (by omega) (by omega) (by omega)]
          exact bk k hk
    refine j_for ?_ ?_
    · exact body _ (Nat.le_refl _) (fun z => absurd z (Nat.lt_irrefl _))
    · intro sp hsp ih
      exact body sp (by omega) (fun _ => ih)
  -- the pulls
  have pul : ∀ i, i ≤ n → ∀ (x5 : Option Value) (pl2 : Nat → Int32), jNL x5 = true → (∀ j, j < i → pl2 j = iI (pu n t j)) → J g jX2_find 9 (fun v M2 => v = some (.int (jB true)) ∧ lsI g M2 ∧ lsOK g M2 n t ∧ ∀ k, k < 5 ∨ 10 < k → M2 k = M k) 13 [some (.ref (jA g 5)), some (.int (nI n)), some (.long (lN t)), none, some (.int (nI i)), x5] [] (va_up (va_up M 5 (.inr (2, oLeast g b sz (nI n) (lN t)))) 7 (iA g 5 pl2)) := by
    refine j_for ?_ ?_
    · intro x5 pl2 hx5 q1
      have m5 : va_up (va_up M 5 (.inr (2, oLeast g b sz (nI n) (lN t)))) 7 (iA g 5 pl2) 5 = .inr (2, oLeast g b sz (nI n) (lN t)) := rfl
      refine j_iload4 (n := 15) dX2_find_13 rfl ?_
      refine j_aload_n0 (n := 16) dX2_find_15 rfl ?_
      refine j_get (n := 19) (k := 3) dX2_find_16 rfl jcl2 (Nat.le_of_ble_eq_true rfl) fl_X2_28 (by first | decide | omega) (by first | assumption | rfl) (by rfl) ?_
      refine j_nicmp_ge (n := 22) 54 dX2_find_19 rfl (by decide) (by omega) (by omega) (fun h => ?_) (fun h => ?_)
      rotate_left
      · omega
      refine j_aload_n0 (n := 55) dX2_find_54 rfl ?_
      refine j_cV0 (n := 58) (con_X2_findFloors (fr := fr) (pl := pl2) h1 hn hg hx m5 rfl h8 q1) dX2_find_55 rfl cal_X2_findFloors ml_X2_48 (Nat.le_of_ble_eq_true rfl) (by first | decide | omega) rfl rfl (Nat.le_of_ble_eq_true rfl) (by first | assumption | rfl) ?_
      rintro _ M2 ⟨fr2, F2, rfl, rfl, y1, y2⟩
      refine j_istore4 (n := 60) dX2_find_58 rfl (Nat.le_of_ble_eq_true rfl) rfl ?_
      refine j_iconst (n := 61) (nI 0) dX2_find_60 rfl (by decide) ?_
      refine j_istore5 (n := 63) dX2_find_61 rfl (Nat.le_of_ble_eq_true rfl) rfl ?_
      have hh := srch pl2 fr2 F2 (va_up (va_up (va_up M 5 (.inr (2, oLeast g b sz (nI n) (lN t)))) 7 (iA g 5 pl2)) 8 (iA g 5 fr2)) rfl rfl rfl (fun k hk => by rw [va_at_ne (by omega), va_at_ne (by omega), va_at_ne (by omega)]) q1 y1 y2 0 (Nat.zero_le _) b lo gz wt sm hs0
      rw [← LM_eq (M2 := va_up (va_up (va_up M 5 (.inr (2, oLeast g b sz (nI n) (lN t)))) 7 (iA g 5 pl2)) 8 (iA g 5 fr2)) (M := va_up (va_up (va_up M 5 (.inr (2, oLeast g b sz (nI n) (lN t)))) 7 (iA g 5 pl2)) 8 (iA g 5 fr2)) rfl h6 h9 h10 (fun k _ _ _ _ => rfl)] at hh
      exact hh
    · intro i hi ih x5 pl2 hx5 q1
      have m5 : va_up (va_up M 5 (.inr (2, oLeast g b sz (nI n) (lN t)))) 7 (iA g 5 pl2) 5 = .inr (2, oLeast g b sz (nI n) (lN t)) := rfl
      have m7 : va_up (va_up M 5 (.inr (2, oLeast g b sz (nI n) (lN t)))) 7 (iA g 5 pl2) 7 = iA g 5 pl2 := rfl
      refine j_iload4 (n := 15) dX2_find_13 rfl ?_
      refine j_aload_n0 (n := 16) dX2_find_15 rfl ?_
      refine j_get (n := 19) (k := 3) dX2_find_16 rfl jcl2 (Nat.le_of_ble_eq_true rfl) fl_X2_28 (by first | decide | omega) (by first | assumption | rfl) (by rfl) ?_
      refine j_nicmp_ge (n := 22) 54 dX2_find_19 rfl (by decide) (by omega) (by omega) (fun h => ?_) (fun h => ?_)
      · omega
      refine j_aload_n0 (n := 23) dX2_find_22 rfl ?_
      refine j_get (n := 26) (k := 5) dX2_find_23 rfl jcl2 (Nat.le_of_ble_eq_true rfl) fl_X2_15 (by first | decide | omega) (by first | assumption | rfl) (by rfl) ?_
      refine j_iload4 (n := 28) dX2_find_26 rfl ?_
      refine j_iconst (n := 29) (nI 2) dX2_find_28 rfl (by decide) ?_
      refine j_aload_n0 (n := 30) dX2_find_29 rfl ?_
      refine j_get (n := 33) (k := 4) dX2_find_30 rfl jcl2 (Nat.le_of_ble_eq_true rfl) fl_X2_32 (by first | decide | omega) (by first | assumption | rfl) (by rfl) ?_
      refine j_iload4 (n := 35) dX2_find_33 rfl ?_
      refine j_fnS2 (n := 38) (con_X5_onesWith ht32 (by omega)) dX2_find_35 rfl cal_X5_onesWith ml_X2_36 (Nat.le_of_ble_eq_true rfl) (Nat.le_of_ble_eq_true rfl) ?_
      refine j_imul (n := 39) dX2_find_38 rfl ?_
      refine j_aload_n0 (n := 40) dX2_find_39 rfl ?_
      refine j_get (n := 43) (k := 4) dX2_find_40 rfl jcl2 (Nat.le_of_ble_eq_true rfl) fl_X2_32 (by first | decide | omega) (by first | assumption | rfl) (by rfl) ?_
      refine j_fnS1 (n := 46) (con_J13_bitCount_95d88 ht32) dX2_find_43 rfl cal_J13_bitCount_95d88 ml_X2_42 (Nat.le_of_ble_eq_true rfl) (Nat.le_of_ble_eq_true rfl) ?_
      refine j_isub (n := 47) dX2_find_46 rfl ?_
      refine j_topi (iI (pu n t i)) ?_ ?_
      · rw [← iI_nat, ← iI_nat, ← iI_nat, iI_mul, iI_sub, cnt_32 hn ht, cnt32_all hn ht]
        rfl
      refine j_iast_n (n := 48) dX2_find_47 rfl (by first | decide | omega) (by first | assumption | rfl) (by decide) (by first | assumption | omega) ?_
      rw [va_uu]
      refine j_inc4 (n := 51) dX2_find_48 rfl (Nat.le_of_ble_eq_true rfl) rfl ?_
      refine j_goto 13 dX2_find_51 (by decide) ?_
      refine ih _ _ hx5 (fun j hj => ?_)
      unfold upd
      by_cases e : j = i
      · rw [if_pos e, e]
      · rw [if_neg e]
        exact q1 j (by omega)
  have h0 := pul 0 (Nat.zero_le _) none pl rfl (fun j hj => absurd hj (Nat.not_lt_zero j))
  rw [va_self (M := va_up M 5 (.inr (2, oLeast g b sz (nI n) (lN t)))) (k := 7) h7] at h0
  exact h0
