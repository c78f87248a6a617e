theorem mkT_true : ∀ R, mkT R (fun _ => true) = 2 ^ R - 1 := by
  intro R
  apply Nat.eq_of_testBit_eq
  intro r
  rw [mkT_bit, Nat.testBit_two_pow_sub_one]
  simp
theorem mkT_false : ∀ R, mkT R (fun _ => false) = 0 := by
  intro R
  apply Nat.eq_of_testBit_eq
  intro r
  rw [mkT_bit]
  simp
set_option maxRecDepth 100000 in
theorem con_X3_lastToldWith {g : jG} {M : jMem} {ni ng o : Nat} {W : Nat → Nat → Int} {B P : Nat → Int} {is : Bool} (C : cNet g M ni ng W B P) (hok : nOK ni ng W B P) (ho : o < ng) : Con g jX3_lastToldWith 3 [.ref (jA g 19), .int (nI o), .int (jB is)] M (fun v M2 => v = some (.long (lN (nTab ni W B o is ng (ng - 1)))) ∧ cNet g M2 ni ng W B P ∧ cFr M M2) := by
  have C0 := C
  obtain ⟨h19, h22, ⟨tl, h20, htl⟩, ⟨dp, h21, hdp⟩, ⟨bd, h32, hbd⟩, ⟨sp, h33⟩, hrow⟩ := C
  have hni4 : ni ≤ 4 := hok.1.2.1
  have hng8 : ng ≤ 8 := hok.1.2.2
  have h16 : 2 ^ ni ≤ 2 ^ 4 := Nat.pow_le_pow_right (by omega) hni4
  have h216 : 2 ^ 2 ^ ni ≤ 2 ^ 2 ^ 4 := Nat.pow_le_pow_right (by omega) h16
  have hC : ∀ f : Nat → Int64, cNet g (va_up M 33 (lA g 8 f)) ni ng W B P := fun f => ⟨h19, h22, ⟨tl, h20, htl⟩, ⟨dp, h21, hdp⟩, ⟨bd, h32, hbd⟩, ⟨f, rfl⟩, fun p hp => by
    obtain ⟨wr, q1, q2, q3⟩ := hrow p hp
    exact ⟨wr, (va_at_ne (by omega)).trans q1, q2, q3⟩⟩
  refine con_of (l := [some (.ref (jA g 19)), some (.int (nI o)), some (.int (jB is)), none]) (by decide) (Nat.le_of_ble_eq_true rfl) rfl ?_
  refine j_iconst (n := 1) (nI 0) dX3_lastToldWith_0 rfl (by decide) ?_
  refine j_istore_n3 (n := 2) dX3_lastToldWith_1 rfl (Nat.le_of_ble_eq_true rfl) rfl ?_
  have key : ∀ i, i ≤ ng → ∀ f : Nat → Int64, (∀ j, j < i → f j = lN (nTab ni W B o is i j)) → J g jX3_lastToldWith 3 (fun v M2 => v = some (.long (lN (nTab ni W B o is ng (ng - 1)))) ∧ cNet g M2 ni ng W B P ∧ cFr M M2) 2 [some (.ref (jA g 19)), some (.int (nI o)), some (.int (jB is)), some (.int (nI i))] [] (va_up M 33 (lA g 8 f)) := by
    refine j_for ?_ ?_
    · intro f hf
      refine j_iload_n3 (n := 3) dX3_lastToldWith_2 rfl ?_
      refine j_aload_n0 (n := 4) dX3_lastToldWith_3 rfl ?_
      refine j_get (n := 7) (k := 1) dX3_lastToldWith_4 rfl jcl3 (Nat.le_of_ble_eq_true rfl) fl_X3_34 (Nat.le_of_ble_eq_true rfl) (by first | assumption | rfl) (by rfl) ?_
      refine j_nicmp_ge (a := ng) (b := ng) (n := 10) 60 dX3_lastToldWith_7 rfl (by decide) (by omega) (by omega) (fun h => ?_) (fun h => ?_)
      rotate_left
      · omega
      refine j_aload_n0 (n := 61) dX3_lastToldWith_60 rfl ?_
      refine j_get (n := 64) (k := 1) dX3_lastToldWith_61 rfl jcl3 (Nat.le_of_ble_eq_true rfl) fl_X3_34 (Nat.le_of_ble_eq_true rfl) (by first | assumption | rfl) (by rfl) ?_
      refine j_if_le (n := 67) 81 dX3_lastToldWith_64 rfl (by decide) (fun e => ?_) (fun e => ?_)
      · have q : nI ng ≤ nI 0 := e
        have := (nI_leI (by omega) (by omega)).mp q
        omega
      refine j_aload_n0 (n := 68) dX3_lastToldWith_67 rfl ?_
      refine j_get (n := 71) (k := 6) dX3_lastToldWith_68 rfl jcl3 (Nat.le_of_ble_eq_true rfl) fl_X3_31 (Nat.le_of_ble_eq_true rfl) (by first | assumption | rfl) (by rfl) ?_
      refine j_aload_n0 (n := 72) dX3_lastToldWith_71 rfl ?_
      refine j_get (n := 75) (k := 1) dX3_lastToldWith_72 rfl jcl3 (Nat.le_of_ble_eq_true rfl) fl_X3_34 (Nat.le_of_ble_eq_true rfl) (by first | assumption | rfl) (by rfl) ?_
      refine j_iconst (n := 76) (nI 1) dX3_lastToldWith_75 rfl (by decide) ?_
      refine j_isub (n := 77) dX3_lastToldWith_76 rfl ?_
      refine j_topi (nI (ng - 1)) (pk_sub (by omega)) ?_
      refine j_lald_n (n := 78) dX3_lastToldWith_77 rfl (by first | decide | omega) (by first | assumption | rfl) (by decide) (by first | assumption | omega) ?_
      rw [hf (ng - 1) (by omega)]
      refine j_goto 82 dX3_lastToldWith_78 (by decide) ?_
      refine j_lret dX3_lastToldWith_82 rfl ?_
      exact ⟨rfl, hC f, cFr.rf.up (by decide) (by decide)⟩
    · intro i hi ih f hf
      obtain ⟨wr, hw, hw1, -⟩ := hrow i (by omega)
      have fin : ∀ x : Nat, x = nTab ni W B o is (i + 1) i → J g jX3_lastToldWith 3 (fun v M2 => v = some (.long (lN (nTab ni W B o is ng (ng - 1)))) ∧ cNet g M2 ni ng W B P ∧ cFr M M2) 54 [some (.ref (jA g 19)), some (.int (nI o)), some (.int (jB is)), some (.int (nI i))] [] (va_up M 33 (lA g 8 (vp_updL f i (lN x)))) := by
        intro x hx
        refine j_inc3 (n := 57) dX3_lastToldWith_54 rfl (Nat.le_of_ble_eq_true rfl) rfl ?_
        refine j_goto 2 dX3_lastToldWith_57 (by decide) ?_
        refine ih _ (fun j hj => ?_)
        by_cases e : j = i
        · rw [e, pk_uLs, hx]
        · rw [pk_uLn e, nTab_keep (by omega)]
          exact hf j (by omega)
      refine j_iload_n3 (n := 3) dX3_lastToldWith_2 rfl ?_
      refine j_aload_n0 (n := 4) dX3_lastToldWith_3 rfl ?_
      refine j_get (n := 7) (k := 1) dX3_lastToldWith_4 rfl jcl3 (Nat.le_of_ble_eq_true rfl) fl_X3_34 (Nat.le_of_ble_eq_true rfl) (by first | assumption | rfl) (by rfl) ?_
      refine j_nicmp_ge (a := i) (b := ng) (n := 10) 60 dX3_lastToldWith_7 rfl (by decide) (by omega) (by omega) (fun h => ?_) (fun h => ?_)
      · omega
      refine j_iload_n3 (n := 11) dX3_lastToldWith_10 rfl ?_
      refine j_iload_n1 (n := 12) dX3_lastToldWith_11 rfl ?_
      refine j_nicmp_ne (n := 15) 39 dX3_lastToldWith_12 rfl (by decide) (by omega) (by omega) (fun e => ?_) (fun e => ?_)
      · refine j_aload_n0 (n := 40) dX3_lastToldWith_39 rfl ?_
        refine j_get (n := 43) (k := 6) dX3_lastToldWith_40 rfl jcl3 (Nat.le_of_ble_eq_true rfl) fl_X3_31 (Nat.le_of_ble_eq_true rfl) (by first | assumption | rfl) (by rfl) ?_
        refine j_iload_n3 (n := 44) dX3_lastToldWith_43 rfl ?_
        refine j_aload_n0 (n := 45) dX3_lastToldWith_44 rfl ?_
        refine j_iload_n3 (n := 46) dX3_lastToldWith_45 rfl ?_
        refine j_aload_n0 (n := 47) dX3_lastToldWith_46 rfl ?_
        refine j_get (n := 50) (k := 6) dX3_lastToldWith_47 rfl jcl3 (Nat.le_of_ble_eq_true rfl) fl_X3_31 (Nat.le_of_ble_eq_true rfl) (by first | assumption | rfl) (by rfl) ?_
        refine j_fnV2 (n := 53) (con_X3_toldBy (M := va_up M 33 (lA g 8 f)) (o := i) (ka := 33) (w := W i) (T := nTab ni W B o is i) (b := B i) h19 h22 ((va_at_ne (by omega)).trans hw) (fun k hk => ⟨hw1 hi k (by omega), hok.2.1 i hi k (by omega)⟩) h32 ⟨hbd i hi, hok.2.2.1 i hi⟩ (by omega) hni4 (by decide) rfl (fun j hj => ⟨hf j hj, by have := nTab_lt (ni := ni) (W := W) (B := B) (hg := o) (b := is) i j; omega⟩)) dX3_lastToldWith_50 rfl cal_X3_toldBy ml_X3_43 (Nat.le_of_ble_eq_true rfl) (by first | decide | omega) rfl rfl (Nat.le_of_ble_eq_true rfl) (by first | assumption | rfl) ?_
        refine j_last_n (n := 54) dX3_lastToldWith_53 rfl (by first | decide | omega) (by first | assumption | rfl) (by decide) (by first | assumption | omega) ?_
        rw [va_uu]
        refine fin _ ?_
        rw [nTab_new]
        apply mkT_ext
        intro r hr
        unfold nRow
        rw [if_neg e]
      · have hn : nTab ni W B o is (i + 1) i = mkT (2 ^ ni) (fun _ => is) := by
          rw [nTab_new]
          apply mkT_ext
          intro r hr
          unfold nRow
          rw [if_pos e]
        refine j_aload_n0 (n := 16) dX3_lastToldWith_15 rfl ?_
        refine j_get (n := 19) (k := 6) dX3_lastToldWith_16 rfl jcl3 (Nat.le_of_ble_eq_true rfl) fl_X3_31 (Nat.le_of_ble_eq_true rfl) (by first | assumption | rfl) (by rfl) ?_
        refine j_iload_n3 (n := 20) dX3_lastToldWith_19 rfl ?_
        refine j_iload_n2 (n := 21) dX3_lastToldWith_20 rfl ?_
        refine j_bif_eq (n := 24) 34 dX3_lastToldWith_21 rfl (by decide) (fun e2 => ?_) (fun e2 => ?_)
        · refine j_lconst (n := 35) (lN 0) dX3_lastToldWith_34 rfl rfl ?_
          refine j_last_n (n := 36) dX3_lastToldWith_35 rfl (by first | decide | omega) (by first | assumption | rfl) (by decide) (by first | assumption | omega) ?_
          refine j_goto 54 dX3_lastToldWith_36 (by decide) ?_
          rw [va_uu]
          exact fin 0 (by rw [hn, e2, mkT_false])
        · refine j_aload_n0 (n := 25) dX3_lastToldWith_24 rfl ?_
          refine j_get (n := 28) (k := 0) dX3_lastToldWith_25 rfl jcl3 (Nat.le_of_ble_eq_true rfl) fl_X3_9 (Nat.le_of_ble_eq_true rfl) (by first | assumption | rfl) (by rfl) ?_
          refine j_fnS1 (n := 31) (con_X5_all (by omega)) dX3_lastToldWith_28 rfl cal_X5_all ml_X3_51 (Nat.le_of_ble_eq_true rfl) (Nat.le_of_ble_eq_true rfl) ?_
          refine j_goto 35 dX3_lastToldWith_31 (by decide) ?_
          refine j_last_n (n := 36) dX3_lastToldWith_35 rfl (by first | decide | omega) (by first | assumption | rfl) (by decide) (by first | assumption | omega) ?_
          refine j_goto 54 dX3_lastToldWith_36 (by decide) ?_
          rw [va_uu]
          exact fin (2 ^ 2 ^ ni - 1) (by rw [hn, e2, mkT_true])
  have h0 := key 0 (Nat.zero_le _) sp (fun j hj => absurd hj (Nat.not_lt_zero j))
  rw [va_self h33] at h0
  exact h0
set_option maxRecDepth 100000 in
theorem con_X7_isGateOfNet {g : jG} {M : jMem} {ni ng : Nat} {W : Nat → Nat → Int} {B P : Nat → Int} (h0 : M 0 = .inr (6, oX g)) (C : cNet g M ni ng W B P) {o : Int32} : Fn g jX7_isGateOfNet 1 [.ref (jA g 0), .int o] M (.int (jB (isGt ng o))) := by
  have h19 := C.1
  refine con_of (l := [some (.ref (jA g 0)), some (.int o)]) (by decide) (Nat.le_of_ble_eq_true rfl) rfl ?_
  refine j_iload_n1 (n := 1) dX7_isGateOfNet_0 rfl ?_
  refine j_iconst (n := 2) (nI 0) dX7_isGateOfNet_1 rfl (by decide) ?_
  refine j_aload_n0 (n := 3) dX7_isGateOfNet_2 rfl ?_
  refine j_get (n := 6) (k := 6) dX7_isGateOfNet_3 rfl jcl6 (Nat.le_of_ble_eq_true rfl) fl_X7_48 (Nat.le_of_ble_eq_true rfl) (by first | assumption | rfl) (by rfl) ?_
  refine j_get (n := 9) (k := 1) dX7_isGateOfNet_6 rfl jcl3 (Nat.le_of_ble_eq_true rfl) fl_X7_161 (Nat.le_of_ble_eq_true rfl) (by first | assumption | rfl) (by rfl) ?_
  refine j_iconst (n := 10) (nI 1) dX7_isGateOfNet_9 rfl (by decide) ?_
  refine j_isub (n := 11) dX7_isGateOfNet_10 rfl ?_
  refine j_fnS3 (n := 14) con_X7_isWithin dX7_isGateOfNet_11 rfl cal_X7_isWithin ml_X7_62 (Nat.le_of_ble_eq_true rfl) (Nat.le_of_ble_eq_true rfl) ?_
  refine j_bret dX7_isGateOfNet_14 rfl ?_
  exact ⟨rfl, rfl⟩
set_option maxRecDepth 100000 in
theorem con_X7_net {g : jG} {M : jMem} {ni ng : Nat} {W : Nat → Nat → Int} {B P : Nat → Int} (h0 : M 0 = .inr (6, oX g)) (C : cNet g M ni ng W B P) {n : Int32} : Con g jX7_net 2 [.ref (jA g 0), .int n] M (fun v M2 => v = some (.int (sp_net ng n)) ∧ cFr M M2 ∧ ((isTo 4 n = false ∧ cNet g M2 ni ng W B P) ∨ (isTo 4 n = true ∧ cNet g M2 n.toNatClampNeg 0 W B (fun _ => 0)))) := by
  have h19 := C.1
  refine con_of (l := [some (.ref (jA g 0)), some (.int n), none]) (by decide) (Nat.le_of_ble_eq_true rfl) rfl ?_
  refine j_iload_n1 (n := 1) dX7_net_0 rfl ?_
  refine j_iconst (n := 2) (nI 1) dX7_net_1 rfl (by decide) ?_
  refine j_iconst (n := 3) (nI 4) dX7_net_2 rfl (by decide) ?_
  refine j_fnS3 (n := 6) con_X7_isWithin dX7_net_3 rfl cal_X7_isWithin ml_X7_62 (Nat.le_of_ble_eq_true rfl) (Nat.le_of_ble_eq_true rfl) ?_
  have e5 : decide (nI 1 ≤ n ∧ n ≤ nI 4) = isTo 4 n := rfl
  rw [e5]
  refine j_bif_ne (n := 9) 12 dX7_net_6 rfl (by decide) (fun k1 => ?_) (fun k1 => ?_)
  rotate_left
  · refine j_bipush (n := 11) (-2) dX7_net_9 rfl (by decide) ?_
    refine j_iret dX7_net_11 rfl ?_
    exact ⟨by simp [sp_net, k1], cFr.rf, Or.inl ⟨k1, C⟩⟩
  obtain ⟨m, hm1, hm4, rfl⟩ := isTo_of (by decide) k1
  have cm := nI_clamp (show m < 2 ^ 31 by omega)
  rw [cm]
  refine j_aload_n0 (n := 13) dX7_net_12 rfl ?_
  refine j_get (n := 16) (k := 6) dX7_net_13 rfl jcl6 (Nat.le_of_ble_eq_true rfl) fl_X7_48 (Nat.le_of_ble_eq_true rfl) (by first | assumption | rfl) (by rfl) ?_
  refine j_get (n := 19) (k := 1) dX7_net_16 rfl jcl3 (Nat.le_of_ble_eq_true rfl) fl_X7_161 (Nat.le_of_ble_eq_true rfl) (by first | assumption | rfl) (by rfl) ?_
  refine j_istore_n2 (n := 20) dX7_net_19 rfl (Nat.le_of_ble_eq_true rfl) rfl ?_
  refine j_aload_n0 (n := 21) dX7_net_20 rfl ?_
  refine j_get (n := 24) (k := 6) dX7_net_21 rfl jcl6 (Nat.le_of_ble_eq_true rfl) fl_X7_48 (Nat.le_of_ble_eq_true rfl) (by first | assumption | rfl) (by rfl) ?_
  refine j_iload_n1 (n := 25) dX7_net_24 rfl ?_
  refine j_cV1 (n := 28) (con_X3_clear C) dX7_net_25 rfl cal_X3_clear ml_X7_164 (Nat.le_of_ble_eq_true rfl) (by first | decide | omega) rfl rfl (Nat.le_of_ble_eq_true rfl) (by first | assumption | rfl) ?_
  rintro _ M2 ⟨rfl, C2, F2⟩
  refine j_iload_n2 (n := 29) dX7_net_28 rfl ?_
  refine j_iret dX7_net_29 rfl ?_
  exact ⟨by simp [sp_net, k1], F2, Or.inr ⟨k1, C2⟩⟩
set_option maxRecDepth 100000 in
theorem con_X7_put {g : jG} {M : jMem} {ni ng : Nat} {W : Nat → Nat → Int} {B P : Nat → Int} (h0 : M 0 = .inr (6, oX g)) (C : cNet g M ni ng W B P) (hok : nOK ni ng W B P) {o w : Int32} : Con g jX7_put 1 [.ref (jA g 0), .int o, .int w] M (fun v M2 => v = some (.int (sp_put ni ng P o w)) ∧ cFr M M2 ∧ (((isGt (ni + ng) o && isW 9 w) = false ∧ cNet g M2 ni ng W B P) ∨ ((isGt (ni + ng) o && isW 9 w) = true ∧ cNet g M2 ni ng W B (fun j => if j = o.toNatClampNeg then w.toInt else P j)))) := by
  have h19 := C.1
  have hni4 : ni ≤ 4 := hok.1.2.1
  have hng8 : ng ≤ 8 := hok.1.2.2
  refine con_of (l := [some (.ref (jA g 0)), some (.int o), some (.int w)]) (by decide) (Nat.le_of_ble_eq_true rfl) rfl ?_
  refine j_iload_n1 (n := 1) dX7_put_0 rfl ?_
  refine j_iconst (n := 2) (nI 0) dX7_put_1 rfl (by decide) ?_
  refine j_aload_n0 (n := 3) dX7_put_2 rfl ?_
  refine j_get (n := 6) (k := 6) dX7_put_3 rfl jcl6 (Nat.le_of_ble_eq_true rfl) fl_X7_48 (Nat.le_of_ble_eq_true rfl) (by first | assumption | rfl) (by rfl) ?_
  refine j_get (n := 9) (k := 0) dX7_put_6 rfl jcl3 (Nat.le_of_ble_eq_true rfl) fl_X7_168 (Nat.le_of_ble_eq_true rfl) (by first | assumption | rfl) (by rfl) ?_
  refine j_aload_n0 (n := 10) dX7_put_9 rfl ?_
  refine j_get (n := 13) (k := 6) dX7_put_10 rfl jcl6 (Nat.le_of_ble_eq_true rfl) fl_X7_48 (Nat.le_of_ble_eq_true rfl) (by first | assumption | rfl) (by rfl) ?_
  refine j_get (n := 16) (k := 1) dX7_put_13 rfl jcl3 (Nat.le_of_ble_eq_true rfl) fl_X7_161 (Nat.le_of_ble_eq_true rfl) (by first | assumption | rfl) (by rfl) ?_
  refine j_iadd (n := 17) dX7_put_16 rfl ?_
  refine j_iconst (n := 18) (nI 1) dX7_put_17 rfl (by decide) ?_
  refine j_isub (n := 19) dX7_put_18 rfl ?_
  refine j_fnS3 (n := 22) con_X7_isWithin dX7_put_19 rfl cal_X7_isWithin ml_X7_62 (Nat.le_of_ble_eq_true rfl) (Nat.le_of_ble_eq_true rfl) ?_
  have e5 : decide (nI 0 ≤ o ∧ o ≤ nI ni + nI ng - nI 1) = isGt (ni + ng) o := by
    rw [nI_add]
    rfl
  rw [e5]
  refine j_bif_ne (n := 25) 27 dX7_put_22 rfl (by decide) (fun k1 => ?_) (fun k1 => ?_)
  rotate_left
  · refine j_iconst (n := 26) (-1) dX7_put_25 rfl (by decide) ?_
    refine j_iret dX7_put_26 rfl ?_
    exact ⟨by simp [sp_put, k1], cFr.rf, Or.inl ⟨by rw [k1]; rfl, C⟩⟩
  refine j_iload_n2 (n := 28) dX7_put_27 rfl ?_
  refine j_bipush (n := 30) (-9) dX7_put_28 rfl (by decide) ?_
  refine j_bipush (n := 32) (nI 9) dX7_put_30 rfl (by decide) ?_
  refine j_fnS3 (n := 35) con_X7_isWithin dX7_put_32 rfl cal_X7_isWithin ml_X7_62 (Nat.le_of_ble_eq_true rfl) (Nat.le_of_ble_eq_true rfl) ?_
  have e7 : decide ((-9 : Int32) ≤ w ∧ w ≤ nI 9) = isW 9 w := rfl
  rw [e7]
  refine j_bif_ne (n := 38) 41 dX7_put_35 rfl (by decide) (fun k2 => ?_) (fun k2 => ?_)
  rotate_left
  · refine j_bipush (n := 40) (-2) dX7_put_38 rfl (by decide) ?_
    refine j_iret dX7_put_40 rfl ?_
    exact ⟨by simp [sp_put, k1, k2], cFr.rf, Or.inl ⟨by rw [k1, k2]; rfl, C⟩⟩
  obtain ⟨j, hj, rfl⟩ := isGt_of (by omega) k1
  obtain ⟨z, hz1, hz2, rfl⟩ := isW_of (by omega) k2
  have cj := nI_clamp (show j < 2 ^ 31 by omega)
  refine j_aload_n0 (n := 42) dX7_put_41 rfl ?_
  refine j_get (n := 45) (k := 6) dX7_put_42 rfl jcl6 (Nat.le_of_ble_eq_true rfl) fl_X7_48 (Nat.le_of_ble_eq_true rfl) (by first | assumption | rfl) (by rfl) ?_
  refine j_iload_n1 (n := 46) dX7_put_45 rfl ?_
  refine j_iload_n2 (n := 47) dX7_put_46 rfl ?_
  refine j_cV2 (n := 50) (con_X3_swapNextWeight C hng8 (by omega)) dX7_put_47 rfl cal_X3_swapNextWeight ml_X7_171 (Nat.le_of_ble_eq_true rfl) (by first | decide | omega) rfl rfl (Nat.le_of_ble_eq_true rfl) (by first | assumption | rfl) ?_
  rintro _ M2 ⟨rfl, C2, F2⟩
  refine j_iret dX7_put_50 rfl ?_
  refine ⟨by simp [sp_put, k1, k2, cj], F2, Or.inr ⟨by rw [k1, k2]; rfl, ?_⟩⟩
  rw [cj, iI_toInt (by omega)]
  exact C2
set_option maxRecDepth 100000 in
theorem con_X7_add {g : jG} {M : jMem} {ni ng : Nat} {W : Nat → Nat → Int} {B P : Nat → Int} (h0 : M 0 = .inr (6, oX g)) (C : cNet g M ni ng W B P) (hok : nOK ni ng W B P) {b : Int32} : Con g jX7_add 4 [.ref (jA g 0), .int b] M (fun v M2 => v = some (.int (sp_add ng b)) ∧ cFr M M2 ∧ (((isW 99 b = false ∨ ng = 8) ∧ cNet g M2 ni ng W B P) ∨ ((isW 99 b = true ∧ ng < 8) ∧ cNet g M2 ni (ng + 1) (fun o => if o = ng then P else W o) (fun o => if o = ng then b.toInt else B o) (fun _ => 0)))) := by
  have h19 := C.1
  have hni4 : ni ≤ 4 := hok.1.2.1
  have hng8 : ng ≤ 8 := hok.1.2.2
  refine con_of (l := [some (.ref (jA g 0)), some (.int b)]) (by decide) (Nat.le_of_ble_eq_true rfl) rfl ?_
  refine j_iload_n1 (n := 1) dX7_add_0 rfl ?_
  refine j_bipush (n := 3) (-99) dX7_add_1 rfl (by decide) ?_
  refine j_bipush (n := 5) (nI 99) dX7_add_3 rfl (by decide) ?_
  refine j_fnS3 (n := 8) con_X7_isWithin dX7_add_5 rfl cal_X7_isWithin ml_X7_62 (Nat.le_of_ble_eq_true rfl) (Nat.le_of_ble_eq_true rfl) ?_
  have e7 : decide ((-99 : Int32) ≤ b ∧ b ≤ nI 99) = isW 99 b := rfl
  rw [e7]
  refine j_bif_ne (n := 11) 14 dX7_add_8 rfl (by decide) (fun k1 => ?_) (fun k1 => ?_)
  rotate_left
  · refine j_bipush (n := 13) (-2) dX7_add_11 rfl (by decide) ?_
    refine j_iret dX7_add_13 rfl ?_
    exact ⟨by simp [sp_add, k1], cFr.rf, Or.inl ⟨Or.inl k1, C⟩⟩
  refine j_aload_n0 (n := 15) dX7_add_14 rfl ?_
  refine j_get (n := 18) (k := 6) dX7_add_15 rfl jcl6 (Nat.le_of_ble_eq_true rfl) fl_X7_48 (Nat.le_of_ble_eq_true rfl) (by first | assumption | rfl) (by rfl) ?_
  refine j_get (n := 21) (k := 1) dX7_add_18 rfl jcl3 (Nat.le_of_ble_eq_true rfl) fl_X7_161 (Nat.le_of_ble_eq_true rfl) (by first | assumption | rfl) (by rfl) ?_
  refine j_bipush (n := 23) (nI 8) dX7_add_21 rfl (by decide) ?_
  refine j_nicmp_lt (a := ng) (b := 8) (n := 26) 29 dX7_add_23 rfl (by decide) (by omega) (by omega) (fun e => ?_) (fun e => ?_)
  rotate_left
  · refine j_bipush (n := 28) (-4) dX7_add_26 rfl (by decide) ?_
    refine j_iret dX7_add_28 rfl ?_
    have e8 : ng = 8 := by omega
    exact ⟨by simp [sp_add, k1, e8], cFr.rf, Or.inl ⟨Or.inr e8, C⟩⟩
  obtain ⟨z, hz1, hz2, rfl⟩ := isW_of (by omega) k1
  refine j_aload_n0 (n := 30) dX7_add_29 rfl ?_
  refine j_get (n := 33) (k := 6) dX7_add_30 rfl jcl6 (Nat.le_of_ble_eq_true rfl) fl_X7_48 (Nat.le_of_ble_eq_true rfl) (by first | assumption | rfl) (by rfl) ?_
  refine j_iload_n1 (n := 34) dX7_add_33 rfl ?_
  refine j_cV1 (n := 37) (con_X3_append C hok e ⟨hz1, hz2⟩) dX7_add_34 rfl cal_X3_append ml_X7_175 (Nat.le_of_ble_eq_true rfl) (by first | decide | omega) rfl rfl (Nat.le_of_ble_eq_true rfl) (by first | assumption | rfl) ?_
  rintro _ M2 ⟨rfl, C2, F2⟩
  refine j_iret dX7_add_37 rfl ?_
  refine ⟨by simp [sp_add, k1, show ¬ ng = 8 by omega], F2, Or.inr ⟨⟨k1, e⟩, ?_⟩⟩
  rw [iI_toInt (by omega)]
  exact C2
set_option maxRecDepth 100000 in
theorem con_X7_tell {g : jG} {M : jMem} {ni ng : Nat} {W : Nat → Nat → Int} {B P : Nat → Int} {sn sT : Nat → Nat} (h0 : M 0 = .inr (6, oX g)) (h1 : M 1 = iA g 8 fun j => nI (sn j)) (h2 : M 2 = lA g 8 fun j => lN (sT j)) (C : cNet g M ni ng W B P) (hok : nOK ni ng W B P) {s o : Int32} : Con g jX7_tell 2 [.ref (jA g 0), .int s, .int o] M (fun v M2 => v = some (.int (sp_tell sn sT ni ng W B s o).1) ∧ M2 = setM g 1 M (sp_tell sn sT ni ng W B s o).2.1 (sp_tell sn sT ni ng W B s o).2.2) := by
  have hid := setM_id h1 h2
  have h19 := C.1
  obtain ⟨tl, h20, htl⟩ := C.2.2.1
  have hni4 : ni ≤ 4 := hok.1.2.1
  have hng8 : ng ≤ 8 := hok.1.2.2
  have h16 : 2 ^ ni ≤ 2 ^ 4 := Nat.pow_le_pow_right (by omega) hni4
  have h216 : 2 ^ 2 ^ ni ≤ 2 ^ 2 ^ 4 := Nat.pow_le_pow_right (by omega) h16
  refine con_of (l := [some (.ref (jA g 0)), some (.int s), some (.int o)]) (by decide) (Nat.le_of_ble_eq_true rfl) rfl ?_
  refine j_iload_n1 (n := 1) dX7_tell_0 rfl ?_
  refine j_fnS1 (n := 4) con_X7_isSlot dX7_tell_1 rfl cal_X7_isSlot ml_X7_58 (Nat.le_of_ble_eq_true rfl) (Nat.le_of_ble_eq_true rfl) ?_
  refine j_bif_eq (n := 7) 15 dX7_tell_4 rfl (by decide) (fun k1 => ?_) (fun k1 => ?_)
  · refine j_iconst (n := 16) (-1) dX7_tell_15 rfl (by decide) ?_
    refine j_iret dX7_tell_16 rfl ?_
    simp [sp_tell, k1, hid]
  refine j_aload_n0 (n := 8) dX7_tell_7 rfl ?_
  refine j_iload_n2 (n := 9) dX7_tell_8 rfl ?_
  refine j_fnV1 (n := 12) (con_X7_isGateOfNet h0 C) dX7_tell_9 rfl cal_X7_isGateOfNet ml_X7_178 (Nat.le_of_ble_eq_true rfl) (by first | decide | omega) rfl rfl (Nat.le_of_ble_eq_true rfl) (by first | assumption | rfl) ?_
  refine j_bif_ne (n := 15) 17 dX7_tell_12 rfl (by decide) (fun k2 => ?_) (fun k2 => ?_)
  rotate_left
  · refine j_iconst (n := 16) (-1) dX7_tell_15 rfl (by decide) ?_
    refine j_iret dX7_tell_16 rfl ?_
    simp [sp_tell, k1, k2, hid]
  obtain ⟨j, hj, rfl⟩ := isSl_of k1
  obtain ⟨o, ho, rfl⟩ := isGt_of (by omega) k2
  have c1 := nI_clamp (show j < 2 ^ 31 by omega)
  have c2 := nI_clamp (show o < 2 ^ 31 by omega)
  have hT := nTab_lt (ni := ni) (W := W) (B := B) (hg := 99) (b := false) ng o
  refine j_aload_n0 (n := 18) dX7_tell_17 rfl ?_
  refine j_iload_n1 (n := 19) dX7_tell_18 rfl ?_
  refine j_aload_n0 (n := 20) dX7_tell_19 rfl ?_
  refine j_get (n := 23) (k := 6) dX7_tell_20 rfl jcl6 (Nat.le_of_ble_eq_true rfl) fl_X7_48 (Nat.le_of_ble_eq_true rfl) (by first | assumption | rfl) (by rfl) ?_
  refine j_get (n := 26) (k := 0) dX7_tell_23 rfl jcl3 (Nat.le_of_ble_eq_true rfl) fl_X7_168 (Nat.le_of_ble_eq_true rfl) (by first | assumption | rfl) (by rfl) ?_
  refine j_aload_n0 (n := 27) dX7_tell_26 rfl ?_
  refine j_get (n := 30) (k := 6) dX7_tell_27 rfl jcl6 (Nat.le_of_ble_eq_true rfl) fl_X7_48 (Nat.le_of_ble_eq_true rfl) (by first | assumption | rfl) (by rfl) ?_
  refine j_get (n := 33) (k := 2) dX7_tell_30 rfl jcl3 (Nat.le_of_ble_eq_true rfl) fl_X7_181 (Nat.le_of_ble_eq_true rfl) (by first | assumption | rfl) (by rfl) ?_
  refine j_iload_n2 (n := 34) dX7_tell_33 rfl ?_
  refine j_lald_n (n := 35) dX7_tell_34 rfl (by first | decide | omega) (by first | assumption | rfl) (by decide) (by first | assumption | omega) ?_
  rw [htl o ho]
  refine j_cV3 (n := 38) (con_X7_keep h0 h1 h2 hj (n := ni) (by omega)) dX7_tell_35 rfl cal_X7_keep ml_X7_72 (Nat.le_of_ble_eq_true rfl) (by first | decide | omega) rfl rfl (Nat.le_of_ble_eq_true rfl) (by first | assumption | rfl) ?_
  rintro _ M2 ⟨rfl, rfl⟩
  refine j_iret dX7_tell_38 rfl ?_
  simp [sp_tell, k1, k2, c1, c2]
set_option maxRecDepth 100000 in
theorem con_X7_unlike {g : jG} {M : jMem} {ni ng : Nat} {W : Nat → Nat → Int} {B P : Nat → Int} {sn sT : Nat → Nat} (h0 : M 0 = .inr (6, oX g)) (h1 : M 1 = iA g 8 fun j => nI (sn j)) (h2 : M 2 = lA g 8 fun j => lN (sT j)) (ok : slOK sn sT) (C : cNet g M ni ng W B P) (hok : nOK ni ng W B P) {s : Int32} : Fn g jX7_unlike 2 [.ref (jA g 0), .int s] M (.int (sp_unlike sn sT ni ng W B s)) := by
  have h19 := C.1
  have hni4 : ni ≤ 4 := hok.1.2.1
  have hng8 : ng ≤ 8 := hok.1.2.2
  have h16 : 2 ^ ni ≤ 2 ^ 4 := Nat.pow_le_pow_right (by omega) hni4
  have h216 : 2 ^ 2 ^ ni ≤ 2 ^ 2 ^ 4 := Nat.pow_le_pow_right (by omega) h16
  refine con_of (l := [some (.ref (jA g 0)), some (.int s), none, none]) (by decide) (Nat.le_of_ble_eq_true rfl) rfl ?_
  refine j_iload_n1 (n := 1) dX7_unlike_0 rfl ?_
  refine j_fnS1 (n := 4) con_X7_isSlot dX7_unlike_1 rfl cal_X7_isSlot ml_X7_58 (Nat.le_of_ble_eq_true rfl) (Nat.le_of_ble_eq_true rfl) ?_
  refine j_bif_ne (n := 7) 9 dX7_unlike_4 rfl (by decide) (fun k1 => ?_) (fun k1 => ?_)
  rotate_left
  · refine j_iconst (n := 8) (-1) dX7_unlike_7 rfl (by decide) ?_
    refine j_iret dX7_unlike_8 rfl ?_
    simp [sp_unlike, k1]
  obtain ⟨j, hj, rfl⟩ := isSl_of k1
  have c1 := nI_clamp (show j < 2 ^ 31 by omega)
  have b2 := ok j hj
  have b3 := ok.b hj
  refine j_aload_n0 (n := 10) dX7_unlike_9 rfl ?_
  refine j_get (n := 13) (k := 6) dX7_unlike_10 rfl jcl6 (Nat.le_of_ble_eq_true rfl) fl_X7_48 (Nat.le_of_ble_eq_true rfl) (by first | assumption | rfl) (by rfl) ?_
  refine j_get (n := 16) (k := 1) dX7_unlike_13 rfl jcl3 (Nat.le_of_ble_eq_true rfl) fl_X7_161 (Nat.le_of_ble_eq_true rfl) (by first | assumption | rfl) (by rfl) ?_
  refine j_if_eq (n := 19) 35 dX7_unlike_16 rfl (by decide) (fun e0 => ?_) (fun e0 => ?_)
  · have e1 : ng = 0 := (nI_eq (by omega) (by omega)).mp e0
    refine j_bipush (n := 37) (-3) dX7_unlike_35 rfl (by decide) ?_
    refine j_iret dX7_unlike_37 rfl ?_
    simp [sp_unlike, k1, e1]
  have e1 : ¬ ng = 0 := fun z => e0 (by rw [z]; rfl)
  refine j_aload_n0 (n := 20) dX7_unlike_19 rfl ?_
  refine j_get (n := 23) (k := 6) dX7_unlike_20 rfl jcl6 (Nat.le_of_ble_eq_true rfl) fl_X7_48 (Nat.le_of_ble_eq_true rfl) (by first | assumption | rfl) (by rfl) ?_
  refine j_get (n := 26) (k := 0) dX7_unlike_23 rfl jcl3 (Nat.le_of_ble_eq_true rfl) fl_X7_168 (Nat.le_of_ble_eq_true rfl) (by first | assumption | rfl) (by rfl) ?_
  refine j_aload_n0 (n := 27) dX7_unlike_26 rfl ?_
  refine j_get (n := 30) (k := 0) dX7_unlike_27 rfl jcl6 (Nat.le_of_ble_eq_true rfl) fl_X7_9 (Nat.le_of_ble_eq_true rfl) (by first | assumption | rfl) (by rfl) ?_
  refine j_iload_n1 (n := 31) dX7_unlike_30 rfl ?_
  refine j_iald_n (n := 32) dX7_unlike_31 rfl (by first | decide | omega) (by first | assumption | rfl) (by decide) (by first | assumption | omega) ?_
  refine j_nicmp_eq (a := ni) (b := sn j) (n := 35) 38 dX7_unlike_32 rfl (by decide) (by omega) (by omega) (fun e2 => ?_) (fun e2 => ?_)
  rotate_left
  · refine j_bipush (n := 37) (-3) dX7_unlike_35 rfl (by decide) ?_
    refine j_iret dX7_unlike_37 rfl ?_
    have e3 : ¬ sn j = ni := fun z => e2 z.symm
    simp [sp_unlike, k1, e1, c1, e3]
  have hs : sp_unlike sn sT ni ng W B (nI j) = if fa_first (fun r => (sT j).testBit r != (nTab ni W B 99 false ng (ng - 1)).testBit r) (2 ^ ni) < 2 ^ ni then nI (fa_first (fun r => (sT j).testBit r != (nTab ni W B 99 false ng (ng - 1)).testBit r) (2 ^ ni)) else -1000000 := by
    simp [sp_unlike, k1, e1, c1, e2]
  rw [hs]
  have hT := nTab_lt (ni := ni) (W := W) (B := B) (hg := 99) (b := false) ng (ng - 1)
  have hsT : sT j < 2 ^ 2 ^ ni := by rw [e2]; exact b2.2.2
  have hX : nTab ni W B 99 false ng (ng - 1) ^^^ sT j < 2 ^ 2 ^ ni := Nat.xor_lt_two_pow hT hsT
  refine j_aload_n0 (n := 39) dX7_unlike_38 rfl ?_
  refine j_get (n := 42) (k := 6) dX7_unlike_39 rfl jcl6 (Nat.le_of_ble_eq_true rfl) fl_X7_48 (Nat.le_of_ble_eq_true rfl) (by first | assumption | rfl) (by rfl) ?_
  refine j_fnV0 (n := 45) (con_X3_lastTold C hng8 (by omega)) dX7_unlike_42 rfl cal_X3_lastTold ml_X7_184 (Nat.le_of_ble_eq_true rfl) (by first | decide | omega) rfl rfl (Nat.le_of_ble_eq_true rfl) (by first | assumption | rfl) ?_
  refine j_aload_n0 (n := 46) dX7_unlike_45 rfl ?_
  refine j_get (n := 49) (k := 1) dX7_unlike_46 rfl jcl6 (Nat.le_of_ble_eq_true rfl) fl_X7_13 (Nat.le_of_ble_eq_true rfl) (by first | assumption | rfl) (by rfl) ?_
  refine j_iload_n1 (n := 50) dX7_unlike_49 rfl ?_
  refine j_lald_n (n := 51) dX7_unlike_50 rfl (by first | decide | omega) (by first | assumption | rfl) (by decide) (by first | assumption | omega) ?_
  refine j_lxor (n := 52) dX7_unlike_51 rfl ?_
  refine j_topl (lN (nTab ni W B 99 false ng (ng - 1) ^^^ sT j)) (fb_xorL _ _) ?_
  refine j_lstore_n2 (n := 53) dX7_unlike_52 rfl (Nat.le_of_ble_eq_true rfl) rfl ?_
  refine j_lload_n2 (n := 54) dX7_unlike_53 rfl ?_
  refine j_lconst (n := 55) (lN 0) dX7_unlike_54 rfl rfl ?_
  refine j_lcmp (n := 56) dX7_unlike_55 rfl ?_
  have hbit : ∀ r, (nTab ni W B 99 false ng (ng - 1) ^^^ sT j).testBit r = ((sT j).testBit r != (nTab ni W B 99 false ng (ng - 1)).testBit r) := by
    intro r
    rw [Nat.testBit_xor]
    cases (sT j).testBit r <;> cases (nTab ni W B 99 false ng (ng - 1)).testBit r <;> rfl
  refine j_lif_ne (n := 59) 64 dX7_unlike_56 rfl (by decide) (fun e3 => ?_) (fun e3 => ?_)
  · have e4 : 0 < nTab ni W B 99 false ng (ng - 1) ^^^ sT j := Nat.pos_of_ne_zero (fun z => e3 (by rw [z]))
    obtain ⟨k, m, hk⟩ := ntz_ex _ e4
    refine j_lload_n2 (n := 65) dX7_unlike_64 rfl ?_
    refine j_fnS1 (n := 68) (con_J13_numberOfTrailingZeros_95d88 hk (by omega)) dX7_unlike_65 rfl cal_J13_numberOfTrailingZeros_95d88 ml_X7_188 (Nat.le_of_ble_eq_true rfl) (Nat.le_of_ble_eq_true rfl) ?_
    refine j_iret dX7_unlike_68 rfl ?_
    have q1 : ∀ i, i < k → ((sT j).testBit i != (nTab ni W B 99 false ng (ng - 1)).testBit i) = false := by
      intro i hi
      rw [← hbit, hk, ntz_bit]
      simp [show ¬ k ≤ i by omega]
    have q2 : ((sT j).testBit k != (nTab ni W B 99 false ng (ng - 1)).testBit k) = true := by
      rw [← hbit, hk, ntz_bit]
      simp
    have q3 : k < 2 ^ ni := by
      rcases Nat.lt_or_ge k (2 ^ ni) with z | z
      · exact z
      · have := tb_no hX z
        rw [hbit, q2] at this
        cases this
    rw [first_at q1 q2 _ q3, if_pos q3]
    exact ⟨rfl, rfl⟩
  · have e4 : nTab ni W B 99 false ng (ng - 1) ^^^ sT j = 0 := (pk_lEQ (by omega) (by omega)).mp e3
    refine j_ldc (n := 61) dX7_unlike_59 rfl cn_X7_89 ?_
    refine j_goto 68 dX7_unlike_61 (by decide) ?_
    refine j_iret dX7_unlike_68 rfl ?_
    have q1 : ∀ i, i < 2 ^ ni → ((sT j).testBit i != (nTab ni W B 99 false ng (ng - 1)).testBit i) = false := by
      intro i hi
      rw [← hbit, e4]
      simp
    rw [if_neg (first_no q1)]
    exact ⟨rfl, rfl⟩
set_option maxRecDepth 100000 in
theorem con_X7_depth {g : jG} {M : jMem} {ni ng : Nat} {W : Nat → Nat → Int} {B P : Nat → Int} (h0 : M 0 = .inr (6, oX g)) (C : cNet g M ni ng W B P) (hok : nOK ni ng W B P) {o : Int32} : Fn g jX7_depth 2 [.ref (jA g 0), .int o] M (.int (sp_depth ni ng W o)) := by
  have h19 := C.1
  obtain ⟨dp, h21, hdp⟩ := C.2.2.2.1
  have hng8 : ng ≤ 8 := hok.1.2.2
  refine con_of (l := [some (.ref (jA g 0)), some (.int o)]) (by decide) (Nat.le_of_ble_eq_true rfl) rfl ?_
  refine j_aload_n0 (n := 1) dX7_depth_0 rfl ?_
  refine j_iload_n1 (n := 2) dX7_depth_1 rfl ?_
  refine j_fnV1 (n := 5) (con_X7_isGateOfNet h0 C) dX7_depth_2 rfl cal_X7_isGateOfNet ml_X7_178 (Nat.le_of_ble_eq_true rfl) (by first | decide | omega) rfl rfl (Nat.le_of_ble_eq_true rfl) (by first | assumption | rfl) ?_
  refine j_bif_eq (n := 8) 20 dX7_depth_5 rfl (by decide) (fun k1 => ?_) (fun k1 => ?_)
  · refine j_iconst (n := 21) (-1) dX7_depth_20 rfl (by decide) ?_
    refine j_iret dX7_depth_21 rfl ?_
    simp [sp_depth, k1]
  obtain ⟨o, ho, rfl⟩ := isGt_of (by omega) k1
  have c1 := nI_clamp (show o < 2 ^ 31 by omega)
  refine j_aload_n0 (n := 9) dX7_depth_8 rfl ?_
  refine j_get (n := 12) (k := 6) dX7_depth_9 rfl jcl6 (Nat.le_of_ble_eq_true rfl) fl_X7_48 (Nat.le_of_ble_eq_true rfl) (by first | assumption | rfl) (by rfl) ?_
  refine j_get (n := 15) (k := 3) dX7_depth_12 rfl jcl3 (Nat.le_of_ble_eq_true rfl) fl_X7_191 (Nat.le_of_ble_eq_true rfl) (by first | assumption | rfl) (by rfl) ?_
  refine j_iload_n1 (n := 16) dX7_depth_15 rfl ?_
  refine j_iald_n (n := 17) dX7_depth_16 rfl (by first | decide | omega) (by first | assumption | rfl) (by decide) (by first | assumption | omega) ?_
  rw [hdp o ho]
  refine j_goto 21 dX7_depth_17 (by decide) ?_
  refine j_iret dX7_depth_21 rfl ?_
  simp [sp_depth, k1, c1]
set_option maxRecDepth 100000 in
theorem con_X7_idle {g : jG} {M : jMem} {ni ng : Nat} {W : Nat → Nat → Int} {B P : Nat → Int} (h0 : M 0 = .inr (6, oX g)) (C : cNet g M ni ng W B P) (hok : nOK ni ng W B P) {o : Int32} {is : Bool} : Con g jX7_idle 4 [.ref (jA g 0), .int o, .int (jB is)] M (fun v M2 => v = some (.int (sp_idle ni ng W B o is)) ∧ cNet g M2 ni ng W B P ∧ cFr M M2) := by
  have h19 := C.1
  have hni4 : ni ≤ 4 := hok.1.2.1
  have hng8 : ng ≤ 8 := hok.1.2.2
  have h16 : 2 ^ ni ≤ 2 ^ 4 := Nat.pow_le_pow_right (by omega) hni4
  have h216 : 2 ^ 2 ^ ni ≤ 2 ^ 2 ^ 4 := Nat.pow_le_pow_right (by omega) h16
  refine con_of (l := [some (.ref (jA g 0)), some (.int o), some (.int (jB is))]) (by decide) (Nat.le_of_ble_eq_true rfl) rfl ?_
  refine j_aload_n0 (n := 1) dX7_idle_0 rfl ?_
  refine j_iload_n1 (n := 2) dX7_idle_1 rfl ?_
  refine j_fnV1 (n := 5) (con_X7_isGateOfNet h0 C) dX7_idle_2 rfl cal_X7_isGateOfNet ml_X7_178 (Nat.le_of_ble_eq_true rfl) (by first | decide | omega) rfl rfl (Nat.le_of_ble_eq_true rfl) (by first | assumption | rfl) ?_
  refine j_bif_ne (n := 8) 10 dX7_idle_5 rfl (by decide) (fun k1 => ?_) (fun k1 => ?_)
  rotate_left
  · refine j_iconst (n := 9) (-1) dX7_idle_8 rfl (by decide) ?_
    refine j_iret dX7_idle_9 rfl ?_
    exact ⟨by simp [sp_idle, k1], C, cFr.rf⟩
  obtain ⟨o, ho, rfl⟩ := isGt_of (by omega) k1
  have c1 := nI_clamp (show o < 2 ^ 31 by omega)
  have hT := nTab_lt (ni := ni) (W := W) (B := B) (hg := 99) (b := false) ng (ng - 1)
  have hT2 := nTab_lt (ni := ni) (W := W) (B := B) (hg := o) (b := is) ng (ng - 1)
  refine j_aload_n0 (n := 11) dX7_idle_10 rfl ?_
  refine j_get (n := 14) (k := 6) dX7_idle_11 rfl jcl6 (Nat.le_of_ble_eq_true rfl) fl_X7_48 (Nat.le_of_ble_eq_true rfl) (by first | assumption | rfl) (by rfl) ?_
  refine j_iload_n1 (n := 15) dX7_idle_14 rfl ?_
  refine j_iload_n2 (n := 16) dX7_idle_15 rfl ?_
  refine j_cV2 (n := 19) (con_X3_lastToldWith C hok ho) dX7_idle_16 rfl cal_X3_lastToldWith ml_X7_194 (Nat.le_of_ble_eq_true rfl) (by first | decide | omega) rfl rfl (Nat.le_of_ble_eq_true rfl) (by first | assumption | rfl) ?_
  rintro _ M2 ⟨rfl, C2, F2⟩
  have h02 : M2 0 = .inr (6, oX g) := (F2 0 (by omega)).trans h0
  have h192 := C2.1
  refine j_aload_n0 (n := 20) dX7_idle_19 rfl ?_
  refine j_get (n := 23) (k := 6) dX7_idle_20 rfl jcl6 (Nat.le_of_ble_eq_true rfl) fl_X7_48 (Nat.le_of_ble_eq_true rfl) (by first | assumption | rfl) (by rfl) ?_
  refine j_fnV0 (n := 26) (con_X3_lastTold C2 hng8 (by omega)) dX7_idle_23 rfl cal_X3_lastTold ml_X7_184 (Nat.le_of_ble_eq_true rfl) (by first | decide | omega) rfl rfl (Nat.le_of_ble_eq_true rfl) (by first | assumption | rfl) ?_
  refine j_lcmp (n := 27) dX7_idle_26 rfl ?_
  refine j_lif_ne (n := 30) 34 dX7_idle_27 rfl (by decide) (fun e => ?_) (fun e => ?_)
  · refine j_iconst (n := 35) (nI 0) dX7_idle_34 rfl (by decide) ?_
    refine j_iret dX7_idle_35 rfl ?_
    have e2 : ¬ nTab ni W B o is ng (ng - 1) = nTab ni W B 99 false ng (ng - 1) := fun z => e (by rw [z])
    exact ⟨by simp [sp_idle, k1, c1, e2, jB]; rfl, C2, F2⟩
  · refine j_iconst (n := 31) (nI 1) dX7_idle_30 rfl (by decide) ?_
    refine j_goto 35 dX7_idle_31 (by decide) ?_
    refine j_iret dX7_idle_35 rfl ?_
    have e2 : nTab ni W B o is ng (ng - 1) = nTab ni W B 99 false ng (ng - 1) := (pk_lEQ (by omega) (by omega)).mp e
    exact ⟨by simp [sp_idle, k1, c1, e2, jB]; rfl, C2, F2⟩
set_option maxRecDepth 100000 in
theorem con_X7_count {g : jG} {M : jMem} {ni ng : Nat} {W : Nat → Nat → Int} {B P : Nat → Int} (h0 : M 0 = .inr (6, oX g)) (C : cNet g M ni ng W B P) {w : Int32} : Fn g jX7_count 0 [.ref (jA g 0), .int w] M (.int (sp_count ni ng w)) := by
  have h19 := C.1
  refine con_of (l := [some (.ref (jA g 0)), some (.int w)]) (by decide) (Nat.le_of_ble_eq_true rfl) rfl ?_
  refine j_iload_n1 (n := 1) dX7_count_0 rfl ?_
  by_cases e : w = 0
  · subst e
    refine j_lookup (off := 27) 28 dX7_count_1 (by decide) (by decide) (by decide) ?_
    refine j_aload_n0 (n := 29) dX7_count_28 rfl ?_
    refine j_get (n := 32) (k := 6) dX7_count_29 rfl jcl6 (Nat.le_of_ble_eq_true rfl) fl_X7_48 (Nat.le_of_ble_eq_true rfl) (by first | assumption | rfl) (by rfl) ?_
    refine j_get (n := 35) (k := 0) dX7_count_32 rfl jcl3 (Nat.le_of_ble_eq_true rfl) fl_X7_168 (Nat.le_of_ble_eq_true rfl) (by first | assumption | rfl) (by rfl) ?_
    refine j_iret dX7_count_35 rfl ?_
    exact ⟨by simp [sp_count], rfl⟩
  · by_cases e2 : w = 1
    · subst e2
      refine j_lookup (off := 35) 36 dX7_count_1 (by decide) (by decide) (by decide) ?_
      refine j_aload_n0 (n := 37) dX7_count_36 rfl ?_
      refine j_get (n := 40) (k := 6) dX7_count_37 rfl jcl6 (Nat.le_of_ble_eq_true rfl) fl_X7_48 (Nat.le_of_ble_eq_true rfl) (by first | assumption | rfl) (by rfl) ?_
      refine j_get (n := 43) (k := 1) dX7_count_40 rfl jcl3 (Nat.le_of_ble_eq_true rfl) fl_X7_161 (Nat.le_of_ble_eq_true rfl) (by first | assumption | rfl) (by rfl) ?_
      refine j_iret dX7_count_43 rfl ?_
      exact ⟨by simp [sp_count], rfl⟩
    · refine j_lookup (off := 43) 44 dX7_count_1 (by decide) ?_ (by decide) ?_
      · have q1 : ¬ w.toInt = 0 := fun z => e ((fa_eq w 0).mpr z)
        have q2 : ¬ w.toInt = 1 := fun z => e2 ((fa_eq w 1).mpr z)
        simp [Op.lookupswitch.offset, q1, q2, Ne.symm q1, Ne.symm q2, eq_comm]
      refine j_bipush (n := 46) (-2) dX7_count_44 rfl (by decide) ?_
      refine j_iret dX7_count_46 rfl ?_
      exact ⟨by simp [sp_count, e, e2], rfl⟩
