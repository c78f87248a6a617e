theorem MM_id {g : jG} {M : jMem} {sz wv : Nat → Int32} {q : jMq} (h40 : M 40 = iA g 5 sz) (h41 : M 41 = iA g 5 wv) (h34 : M 34 = .inr (7, oMod g q)) : MM g M sz wv q = M := by
  unfold MM
  rw [va_self h40, va_self h41, va_self h34]
def qS (q : jMq) (a : Int64) (b c : Int32) : jMq := (a, b, c, q.2.2.2)
/-- what solve leaves -/
def solvedM (g : jG) (M M2 : jMem) (q : jMq) (n t : Nat) : Prop := ∃ q2, M2 34 = .inr (7, oMod g q2) ∧ q2.1 = lN t ∧ q2.2.1 = nI n ∧ q2.2.2.2.2 = q.2.2.2.2 ∧ slvOK g M2 q2 n t ∧ mS g M2 ∧ sFr M M2 ∧ cInv g M2 q2
theorem cInv_one {g : jG} {M : jMem} {q : jMq} {n t : Nat} (hn : n ≤ 5) (ht : t < 2 ^ 32) (h1 : q.1 = lN t) (h2 : q.2.1 = nI n) (h : slvOK g M q n t) : cInv g M q := by
  intro n2 t2 a1 a2 a3 a4 a5
  have e1 : t2 = t := (pk_lEQ (by omega) (by omega)).mp (a4.symm.trans h1)
  have e2 : n2 = n := (nI_eq (by omega) (by omega)).mp (a5.symm.trans h2)
  rw [e1, e2]
  exact h
set_option maxRecDepth 100000 in
set_option maxHeartbeats 1000000 in
theorem con_X8_solve {g : jG} {M : jMem} {q : jMq} {n t : Nat} (h34 : M 34 = .inr (7, oMod g q)) (hm : mS g M) (hc : cInv g M q) (h1 : 1 ≤ n) (hn : n ≤ 5) (ht : t < 2 ^ 32) (hex : isG n t = true → EXg n t) : Con g jX8_solve 4 [.ref (jA g 34), .long (lN t), .int (nI n)] M (fun v M2 => v = none ∧ solvedM g M M2 q n t) := by
  obtain ⟨th, hf, wt, sz, wv, h37, h38, h39, h40, h41⟩ := id hm
  refine con_of (l := [some (.ref (jA g 34)), some (.long (lN t)), none, some (.int (nI n)), none, none, none, none]) (by decide) (Nat.le_of_ble_eq_true rfl) rfl ?_
  have h18 : J g jX8_solve 4 (fun v M2 => v = none ∧ solvedM g M M2 q n t) 18 [some (.ref (jA g 34)), some (.long (lN t)), none, some (.int (nI n)), none, none, none, none] [] M := by
    refine j_aload_n0 (n := 19) dX8_solve_18 rfl ?_
    refine j_lload_n1 (n := 20) dX8_solve_19 rfl ?_
    refine j_put (n := 23) (k := 5) (fs2 := oMod g (qS q (lN t) q.2.1 q.2.2.1)) dX8_solve_20 rfl jcl7 tyX8_ok nmX8 (Nat.le_of_ble_eq_true rfl) rfl (tyX8_ok 5 (Nat.le_of_ble_eq_true rfl)) fl_X8_29 (by rfl) (by rfl) (by first | decide | omega) (by first | assumption | rfl) (Nat.le_of_ble_eq_true rfl) (by rfl) ?_
    refine j_aload_n0 (n := 24) dX8_solve_23 rfl ?_
    refine j_iload_n3 (n := 25) dX8_solve_24 rfl ?_
    refine j_put (n := 28) (k := 6) (fs2 := oMod g (qS q (lN t) (nI n) q.2.2.1)) dX8_solve_25 rfl jcl7 tyX8_ok nmX8 (Nat.le_of_ble_eq_true rfl) rfl (tyX8_ok 6 (Nat.le_of_ble_eq_true rfl)) fl_X8_136 (by rfl) (by rfl) (by first | decide | omega) (by first | assumption | rfl) (Nat.le_of_ble_eq_true rfl) (by rfl) ?_
    rw [va_uu]
    refine j_aload_n0 (n := 29) dX8_solve_28 rfl ?_
    refine j_aload_n0 (n := 30) dX8_solve_29 rfl ?_
    refine j_lload_n1 (n := 31) dX8_solve_30 rfl ?_
    refine j_iload_n3 (n := 32) dX8_solve_31 rfl ?_
    refine j_cV2 (n := 35) (con_X8_isGate (M := va_up M 34 (.inr (7, oMod g (qS q (lN t) (nI n) q.2.2.1)))) rfl h37 h38 h39 hn h1 ht) dX8_solve_32 rfl cal_X8_isGate ml_X8_139 (Nat.le_of_ble_eq_true rfl) (by first | decide | omega) rfl rfl (Nat.le_of_ble_eq_true rfl) (by first | assumption | rfl) ?_
    rintro _ M2 ⟨rfl, th2, hf2, wt2, rfl, hth2, hwt2⟩
    refine j_put (n := 38) (k := 7) (fs2 := oMod g (qS q (lN t) (nI n) (jB (isG n t)))) dX8_solve_35 rfl jcl7 tyX8_ok nmX8 (Nat.le_of_ble_eq_true rfl) rfl (tyX8_ok 7 (Nat.le_of_ble_eq_true rfl)) fl_X8_142 (jB_nar _) (by cases isG n t <;> rfl) (by decide) (by rfl) (Nat.le_of_ble_eq_true rfl) (by rfl) ?_
    refine j_aload_n0 (n := 39) dX8_solve_38 rfl ?_
    refine j_get (n := 42) (k := 7) dX8_solve_39 rfl jcl7 (Nat.le_of_ble_eq_true rfl) fl_X8_142 (by first | decide | omega) (by first | assumption | rfl) (by rfl) ?_
    refine j_bif_ne (n := 45) 52 dX8_solve_42 rfl (by decide) (fun e => ?_) (fun e => ?_)
    rotate_left
    · refine j_aload_n0 (n := 46) dX8_solve_45 rfl ?_
      refine j_lload_n1 (n := 47) dX8_solve_46 rfl ?_
      refine j_iload_n3 (n := 48) dX8_solve_47 rfl ?_
      refine j_cV2 (n := 51) (con_X8_findOthers (q := qS q (lN t) (nI n) (jB (isG n t))) (th := th2) (wt := wt2) rfl rfl rfl hn ht hth2 e (hwt2 e)) dX8_solve_48 rfl cal_X8_findOthers ml_X8_146 (Nat.le_of_ble_eq_true rfl) (by first | decide | omega) rfl rfl (Nat.le_of_ble_eq_true rfl) (by first | assumption | rfl) ?_
      rintro _ M3 ⟨rfl, wt3, rfl, hwt3⟩
      refine j_vret dX8_solve_51 rfl ?_
      have hslv : slvOK g (va_up (va_up (va_up (va_up (va_up (va_up M 34 (.inr (7, oMod g (qS q (lN t) (nI n) q.2.2.1)))) 37 (iA g 32 th2)) 38 (zA g 243 hf2)) 39 (iA g 4 wt2)) 34 (.inr (7, oMod g (qS q (lN t) (nI n) (jB (isG n t)))))) 39 (iA g 4 wt3)) (qS q (lN t) (nI n) (jB (isG n t))) n t := ⟨rfl, fun _ => ⟨wt3, rfl, hwt3⟩, fun z => by rw [e] at z; cases z⟩
      exact ⟨rfl, qS q (lN t) (nI n) (jB (isG n t)), rfl, rfl, rfl, rfl, hslv, ⟨th2, hf2, wt3, sz, wv, rfl, rfl, rfl, h40, h41⟩, (((((sFr.rf.up (Or.inl rfl)).up (Or.inr (by omega))).up (Or.inr (by omega))).up (Or.inr (by omega))).up (Or.inl rfl)).up (Or.inr (by omega)), cInv_one hn ht rfl rfl hslv⟩
    · refine j_aload_n0 (n := 53) dX8_solve_52 rfl ?_
      refine j_lload_n1 (n := 54) dX8_solve_53 rfl ?_
      refine j_iload_n3 (n := 55) dX8_solve_54 rfl ?_
      refine j_fnV2 (n := 58) (con_X8_falling (q := qS q (lN t) (nI n) (jB (isG n t))) rfl hn ht) dX8_solve_55 rfl cal_X8_falling ml_X8_149 (Nat.le_of_ble_eq_true rfl) (by first | decide | omega) rfl rfl (Nat.le_of_ble_eq_true rfl) (by first | assumption | rfl) ?_
      refine j_istore4 (n := 60) dX8_solve_58 rfl (Nat.le_of_ble_eq_true rfl) rfl ?_
      refine j_iconst (n := 61) (nI 0) dX8_solve_60 rfl (by decide) ?_
      refine j_istore5 (n := 63) dX8_solve_61 rfl (Nat.le_of_ble_eq_true rfl) rfl ?_
      refine j_iconst (n := 64) (nI 0) dX8_solve_63 rfl (by decide) ?_
      refine j_istore6 (n := 66) dX8_solve_64 rfl (Nat.le_of_ble_eq_true rfl) rfl ?_
      have hMM : MM g (va_up (va_up (va_up (va_up (va_up M 34 (.inr (7, oMod g (qS q (lN t) (nI n) q.2.2.1)))) 37 (iA g 32 th2)) 38 (zA g 243 hf2)) 39 (iA g 4 wt2)) 34 (.inr (7, oMod g (qS q (lN t) (nI n) (jB (isG n t)))))) sz wv (qS q (lN t) (nI n) (jB (isG n t))) = (va_up (va_up (va_up (va_up (va_up M 34 (.inr (7, oMod g (qS q (lN t) (nI n) q.2.2.1)))) 37 (iA g 32 th2)) 38 (zA g 243 hf2)) 39 (iA g 4 wt2)) 34 (.inr (7, oMod g (qS q (lN t) (nI n) (jB (isG n t)))))) := MM_id h40 h41 rfl
      rw [← hMM]
      refine solve_run h1 hn ht (hex e) (fun s sz2 wv2 hL h16 hsz hwv => ?_)
      generalize hM5 : va_up (va_up (va_up (va_up (va_up M 34 (.inr (7, oMod g (qS q (lN t) (nI n) q.2.2.1)))) 37 (iA g 32 th2)) 38 (zA g 243 hf2)) 39 (iA g 4 wt2)) 34 (.inr (7, oMod g (qS q (lN t) (nI n) (jB (isG n t))))) = M5
      have hfr : sFr M M5 := by
        rw [← hM5]
        exact ((((sFr.rf.up (Or.inl rfl)).up (Or.inr (by omega))).up (Or.inr (by omega))).up (Or.inr (by omega))).up (Or.inl rfl)
      have m37 : M5 37 = iA g 32 th2 := by rw [← hM5]; rfl
      have m38 : M5 38 = zA g 243 hf2 := by rw [← hM5]; rfl
      have m39 : M5 39 = iA g 4 wt2 := by rw [← hM5]; rfl
      have hslv : slvOK g (MM g M5 sz2 wv2 (qB (qS q (lN t) (nI n) (jB (isG n t))) (iI (bndW n t (wOf (fl n t) s))))) (qB (qS q (lN t) (nI n) (jB (isG n t))) (iI (bndW n t (wOf (fl n t) s)))) n t := ⟨rfl, fun z => by rw [e] at z; (cases z), fun _ => ⟨s, sz2, wv2, hL, h16, rfl, hsz, rfl, hwv, rfl⟩⟩
      exact ⟨rfl, qB (qS q (lN t) (nI n) (jB (isG n t))) (iI (bndW n t (wOf (fl n t) s))), rfl, rfl, rfl, rfl, hslv, ⟨th2, hf2, wt2, sz2, wv2, m37, m38, m39, rfl, rfl⟩, ((hfr.up (Or.inr (by omega))).up (Or.inr (by omega))).up (Or.inl rfl), cInv_one hn ht rfl rfl hslv⟩
  refine j_aload_n0 (n := 1) dX8_solve_0 rfl ?_
  refine j_get (n := 4) (k := 5) dX8_solve_1 rfl jcl7 (Nat.le_of_ble_eq_true rfl) fl_X8_29 (by first | decide | omega) (by first | assumption | rfl) (by rfl) ?_
  refine j_lload_n1 (n := 5) dX8_solve_4 rfl ?_
  refine j_lcmp (n := 6) dX8_solve_5 rfl ?_
  refine j_lif_ne (n := 9) 18 dX8_solve_6 rfl (by decide) (fun e => ?_) (fun e => ?_)
  · exact h18
  have e1 : q.1 = lN t := e
  refine j_aload_n0 (n := 10) dX8_solve_9 rfl ?_
  refine j_get (n := 13) (k := 6) dX8_solve_10 rfl jcl7 (Nat.le_of_ble_eq_true rfl) fl_X8_136 (by first | decide | omega) (by first | assumption | rfl) (by rfl) ?_
  refine j_iload_n3 (n := 14) dX8_solve_13 rfl ?_
  refine j_icmp_ne (n := 17) 18 dX8_solve_14 rfl (by decide) (fun e2 => ?_) (fun e2 => ?_)
  · exact h18
  have e3 : q.2.1 = nI n := e2
  refine j_vret dX8_solve_17 rfl ?_
  exact ⟨rfl, q, h34, e1, e3, rfl, hc n t h1 hn ht e1 e3, hm, sFr.rf, hc⟩
