/-- bounds of a net -/
def nOK (ni ng : Nat) (W : Nat → Nat → Int) (B P : Nat → Int) : Prop := (1 ≤ ni ∧ ni ≤ 4 ∧ ng ≤ 8) ∧ (∀ o, o < ng → ∀ k, k < 12 → -9 ≤ W o k ∧ W o k ≤ 9) ∧ (∀ o, o < ng → -99 ≤ B o ∧ B o ≤ 99) ∧ ∀ k, k < 12 → -9 ≤ P k ∧ P k ≤ 9
/-- the class's net, in its cells -/
def cNet (g : jG) (M : jMem) (ni ng : Nat) (W : Nat → Nat → Int) (B P : Nat → Int) : Prop :=
  M 19 = .inr (3, oNet g (nI ni) (nI ng)) ∧ M 22 = wO g ∧ (∃ tl, M 20 = lA g 8 tl ∧ ∀ j, j < ng → tl j = lN (nTab ni W B 99 false ng j)) ∧ (∃ dp, M 21 = iA g 8 dp ∧ ∀ j, j < ng → dp j = nI (nDep ni W ng j)) ∧ (∃ bd, M 32 = iA g 8 bd ∧ ∀ j, j < ng → bd j = iI (B j)) ∧ (∃ sp, M 33 = lA g 8 sp) ∧ ∀ o, o < 9 → ∃ wr, M (23 + o) = iA g 12 wr ∧ (o < ng → ∀ k, k < 12 → wr k = iI (W o k)) ∧ (o = ng → ∀ k, k < 12 → wr k = iI (P k))
/-- nothing but the net's cells has changed -/
def cFr (M M2 : jMem) : Prop := ∀ k, (k < 19 ∨ 34 ≤ k) → M2 k = M k
theorem cFr.rf {M : jMem} : cFr M M := fun _ _ => rfl
theorem cFr.up {M M2 : jMem} (h : cFr M M2) {k : Nat} {e : va_E} (h1 : 19 ≤ k) (h2 : k < 34) : cFr M (va_up M2 k e) := fun j hj => (va_at_ne (by omega)).trans (h j hj)
set_option maxRecDepth 100000 in
theorem con_X3_clear {g : jG} {M : jMem} {ni ng m : Nat} {W : Nat → Nat → Int} {B P : Nat → Int} (C : cNet g M ni ng W B P) : Con g jX3_clear 1 [.ref (jA g 19), .int (nI m)] M (fun v M2 => v = none ∧ cNet g M2 m 0 W B (fun _ => 0) ∧ cFr M M2) := by
  obtain ⟨h19, h22, ⟨tl, h20, htl⟩, ⟨dp, h21, hdp⟩, ⟨bd, h32, hbd⟩, ⟨sp, h33⟩, hrow⟩ := C
  obtain ⟨wr, hw, -, -⟩ := hrow 0 (by omega)
  have h22 : M 22 = .inl (jc g 3, 9, .inr (.inr (.inr (.inr (fun i => if i < 9 then some (jA g (23 + i)) else none))))) := h22
  refine con_of (l := [some (.ref (jA g 19)), some (.int (nI m))]) (by decide) (Nat.le_of_ble_eq_true rfl) rfl ?_
  refine j_aload_n0 (n := 1) dX3_clear_0 rfl ?_
  refine j_iload_n1 (n := 2) dX3_clear_1 rfl ?_
  refine j_put (n := 5) (k := 0) (fs2 := oNet g (nI m) (nI ng)) dX3_clear_2 rfl jcl3 tyX3_ok nmX3 (Nat.le_of_ble_eq_true rfl) rfl (tyX3_ok 0 (Nat.le_of_ble_eq_true rfl)) fl_X3_9 (by rfl) (by rfl) (Nat.le_of_ble_eq_true rfl) (by first | assumption | rfl) (Nat.le_of_ble_eq_true rfl) (by rfl) ?_
  refine j_aload_n0 (n := 6) dX3_clear_5 rfl ?_
  refine j_iconst (n := 7) (nI 0) dX3_clear_6 rfl (by decide) ?_
  refine j_put (n := 10) (k := 1) (fs2 := oNet g (nI m) (nI 0)) dX3_clear_7 rfl jcl3 tyX3_ok nmX3 (Nat.le_of_ble_eq_true rfl) rfl (tyX3_ok 1 (Nat.le_of_ble_eq_true rfl)) fl_X3_34 (by rfl) (by rfl) (Nat.le_of_ble_eq_true rfl) (by first | assumption | rfl) (Nat.le_of_ble_eq_true rfl) (by rfl) ?_
  rw [va_uu]
  refine j_aload_n0 (n := 11) dX3_clear_10 rfl ?_
  refine j_get (n := 14) (k := 4) dX3_clear_11 rfl jcl3 (Nat.le_of_ble_eq_true rfl) fl_X3_25 (Nat.le_of_ble_eq_true rfl) (by first | assumption | rfl) (by rfl) ?_
  refine j_iconst (n := 15) (nI 0) dX3_clear_14 rfl (by decide) ?_
  refine j_aald_n (n := 16) dX3_clear_15 rfl (by first | decide | omega) (by first | assumption | rfl) (by decide) (by first | assumption | omega) (by first | rfl | exact if_pos (by omega)) ?_
  refine j_iconst (n := 17) (nI 0) dX3_clear_16 rfl (by decide) ?_
  refine j_cS2 (n := 20) (con_J7_fill_53178 (M := va_up M 19 (.inr (3, oNet g (nI m) (nI 0)))) (kc := 23) (by decide) (by decide) hw) dX3_clear_17 rfl cal_J7_fill_53178 ml_X3_37 (Nat.le_of_ble_eq_true rfl) (Nat.le_of_ble_eq_true rfl) ?_
  rintro _ M2 ⟨rfl, f2, rfl, hf2⟩
  refine j_vret dX3_clear_20 rfl ?_
  refine ⟨rfl, ⟨rfl, h22, ⟨tl, h20, fun j hj => absurd hj (Nat.not_lt_zero j)⟩, ⟨dp, h21, fun j hj => absurd hj (Nat.not_lt_zero j)⟩, ⟨bd, h32, fun j hj => absurd hj (Nat.not_lt_zero j)⟩, ⟨sp, h33⟩, fun o ho => ?_⟩, (cFr.rf.up (by decide) (by decide)).up (by decide) (by decide)⟩
  by_cases e : o = 0
  · subst e
    exact ⟨f2, rfl, fun h => absurd h (Nat.not_lt_zero _), fun _ k hk => hf2 k hk⟩
  · obtain ⟨w2, hw2, -, -⟩ := hrow o ho
    refine ⟨w2, ?_, fun h => absurd h (Nat.not_lt_zero _), fun h => absurd h e⟩
    rw [va_at_ne (by omega), va_at_ne (by omega)]
    exact hw2
set_option maxRecDepth 100000 in
theorem con_X3_swapNextWeight {g : jG} {M : jMem} {ni ng k : Nat} {W : Nat → Nat → Int} {B P : Nat → Int} {z : Int} (C : cNet g M ni ng W B P) (hng : ng ≤ 8) (hk : k < 12) : Con g jX3_swapNextWeight 0 [.ref (jA g 19), .int (nI k), .int (iI z)] M (fun v M2 => v = some (.int (iI (P k))) ∧ cNet g M2 ni ng W B (fun j => if j = k then z else P j) ∧ cFr M M2) := by
  obtain ⟨h19, h22, ⟨tl, h20, htl⟩, ⟨dp, h21, hdp⟩, ⟨bd, h32, hbd⟩, ⟨sp, h33⟩, hrow⟩ := C
  obtain ⟨wr, hw, hw1, hw2⟩ := hrow ng (by omega)
  have h22 : M 22 = .inl (jc g 3, 9, .inr (.inr (.inr (.inr (fun i => if i < 9 then some (jA g (23 + i)) else none))))) := h22
  refine con_of (l := [some (.ref (jA g 19)), some (.int (nI k)), some (.int (iI z)), none]) (by decide) (Nat.le_of_ble_eq_true rfl) rfl ?_
  refine j_aload_n0 (n := 1) dX3_swapNextWeight_0 rfl ?_
  refine j_get (n := 4) (k := 4) dX3_swapNextWeight_1 rfl jcl3 (Nat.le_of_ble_eq_true rfl) fl_X3_25 (Nat.le_of_ble_eq_true rfl) (by first | assumption | rfl) (by rfl) ?_
  refine j_aload_n0 (n := 5) dX3_swapNextWeight_4 rfl ?_
  refine j_get (n := 8) (k := 1) dX3_swapNextWeight_5 rfl jcl3 (Nat.le_of_ble_eq_true rfl) fl_X3_34 (Nat.le_of_ble_eq_true rfl) (by first | assumption | rfl) (by rfl) ?_
  refine j_aald_n (j := ng) (n := 9) dX3_swapNextWeight_8 rfl (by decide) h22 (by decide) (by omega) (if_pos (by omega)) ?_
  refine j_iload_n1 (n := 10) dX3_swapNextWeight_9 rfl ?_
  refine j_iald_n (n := 11) dX3_swapNextWeight_10 rfl (by first | decide | omega) (by first | assumption | rfl) (by decide) (by first | assumption | omega) ?_
  refine j_istore_n3 (n := 12) dX3_swapNextWeight_11 rfl (Nat.le_of_ble_eq_true rfl) rfl ?_
  refine j_aload_n0 (n := 13) dX3_swapNextWeight_12 rfl ?_
  refine j_get (n := 16) (k := 4) dX3_swapNextWeight_13 rfl jcl3 (Nat.le_of_ble_eq_true rfl) fl_X3_25 (Nat.le_of_ble_eq_true rfl) (by first | assumption | rfl) (by rfl) ?_
  refine j_aload_n0 (n := 17) dX3_swapNextWeight_16 rfl ?_
  refine j_get (n := 20) (k := 1) dX3_swapNextWeight_17 rfl jcl3 (Nat.le_of_ble_eq_true rfl) fl_X3_34 (Nat.le_of_ble_eq_true rfl) (by first | assumption | rfl) (by rfl) ?_
  refine j_aald_n (j := ng) (n := 21) dX3_swapNextWeight_20 rfl (by decide) h22 (by decide) (by omega) (if_pos (by omega)) ?_
  refine j_iload_n1 (n := 22) dX3_swapNextWeight_21 rfl ?_
  refine j_iload_n2 (n := 23) dX3_swapNextWeight_22 rfl ?_
  refine j_iast_n (n := 24) dX3_swapNextWeight_23 rfl (by first | decide | omega) (by first | assumption | rfl) (by decide) (by first | assumption | omega) ?_
  refine j_iload_n3 (n := 25) dX3_swapNextWeight_24 rfl ?_
  refine j_iret dX3_swapNextWeight_25 rfl ?_
  refine ⟨by rw [hw2 rfl k hk], ⟨?_, ?_, ⟨tl, ?_, htl⟩, ⟨dp, ?_, hdp⟩, ⟨bd, ?_, hbd⟩, ⟨sp, ?_⟩, fun o ho => ?_⟩, cFr.rf.up (by omega) (by omega)⟩
  · rw [va_at_ne (by omega)]; exact h19
  · rw [va_at_ne (by omega)]; exact h22
  · rw [va_at_ne (by omega)]; exact h20
  · rw [va_at_ne (by omega)]; exact h21
  · rw [va_at_ne (by omega)]; exact h32
  · rw [va_at_ne (by omega)]; exact h33
  · by_cases e : o = ng
    · subst e
      refine ⟨_, va_at_eq, fun h => absurd h (Nat.lt_irrefl _), fun _ j hj => ?_⟩
      by_cases e2 : j = k
      · rw [e2, pk_us]
        simp
      · rw [pk_un e2, hw2 rfl j hj]
        simp [e2]
    · obtain ⟨w3, q1, q2, q3⟩ := hrow o ho
      exact ⟨w3, by rw [va_at_ne (by omega)]; exact q1, q2, fun h => absurd h e⟩
set_option maxRecDepth 100000 in
theorem con_X3_lastTold {g : jG} {M : jMem} {ni ng : Nat} {W : Nat → Nat → Int} {B P : Nat → Int} (C : cNet g M ni ng W B P) (hng : ng ≤ 8) (h0 : 0 < ng) : Fn g jX3_lastTold 0 [.ref (jA g 19)] M (.long (lN (nTab ni W B 99 false ng (ng - 1)))) := by
  obtain ⟨h19, h22, ⟨tl, h20, htl⟩, ⟨dp, h21, hdp⟩, ⟨bd, h32, hbd⟩, ⟨sp, h33⟩, hrow⟩ := C
  refine con_of (l := [some (.ref (jA g 19))]) (by decide) (Nat.le_of_ble_eq_true rfl) rfl ?_
  refine j_aload_n0 (n := 1) dX3_lastTold_0 rfl ?_
  refine j_get (n := 4) (k := 1) dX3_lastTold_1 rfl jcl3 (Nat.le_of_ble_eq_true rfl) fl_X3_34 (Nat.le_of_ble_eq_true rfl) (by first | assumption | rfl) (by rfl) ?_
  refine j_if_le (n := 7) 21 dX3_lastTold_4 rfl (by decide) (fun e => ?_) (fun e => ?_)
  · have q : nI ng ≤ nI 0 := e
    have := (nI_leI (by omega) (by omega)).mp q
    omega
  refine j_aload_n0 (n := 8) dX3_lastTold_7 rfl ?_
  refine j_get (n := 11) (k := 2) dX3_lastTold_8 rfl jcl3 (Nat.le_of_ble_eq_true rfl) fl_X3_15 (Nat.le_of_ble_eq_true rfl) (by first | assumption | rfl) (by rfl) ?_
  refine j_aload_n0 (n := 12) dX3_lastTold_11 rfl ?_
  refine j_get (n := 15) (k := 1) dX3_lastTold_12 rfl jcl3 (Nat.le_of_ble_eq_true rfl) fl_X3_34 (Nat.le_of_ble_eq_true rfl) (by first | assumption | rfl) (by rfl) ?_
  refine j_iconst (n := 16) (nI 1) dX3_lastTold_15 rfl (by decide) ?_
  refine j_isub (n := 17) dX3_lastTold_16 rfl ?_
  refine j_topi (nI (ng - 1)) (pk_sub h0) ?_
  refine j_lald_n (n := 18) dX3_lastTold_17 rfl (by first | decide | omega) (by first | assumption | rfl) (by decide) (by first | assumption | omega) ?_
  rw [htl (ng - 1) (by omega)]
  refine j_goto 22 dX3_lastTold_18 (by decide) ?_
  refine j_lret dX3_lastTold_22 rfl ?_
  exact ⟨rfl, rfl⟩
set_option maxRecDepth 100000 in
theorem con_X3_append {g : jG} {M : jMem} {ni ng : Nat} {W : Nat → Nat → Int} {B P : Nat → Int} {b : Int} (C : cNet g M ni ng W B P) (hok : nOK ni ng W B P) (h8 : ng < 8) (hb : -99 ≤ b ∧ b ≤ 99) : Con g jX3_append 3 [.ref (jA g 19), .int (iI b)] M (fun v M2 => v = some (.int (nI ng)) ∧ cNet g M2 ni (ng + 1) (fun o => if o = ng then P else W o) (fun o => if o = ng then b else B o) (fun _ => 0) ∧ cFr M M2) := by
  obtain ⟨h19, h22, ⟨tl, h20, htl⟩, ⟨dp, h21, hdp⟩, ⟨bd, h32, hbd⟩, ⟨sp, h33⟩, hrow⟩ := C
  obtain ⟨wr, hw, hw1, hw2⟩ := hrow ng (by omega)
  obtain ⟨wr9, hw9, -, -⟩ := hrow (ng + 1) (by omega)
  have hni4 : ni ≤ 4 := hok.1.2.1
  have h16 : 2 ^ ni ≤ 2 ^ 4 := Nat.pow_le_pow_right (by omega) hok.1.2.1
  have h216 : 2 ^ 2 ^ ni ≤ 2 ^ 2 ^ 4 := Nat.pow_le_pow_right (by omega) h16
  have eT : nTab ni W B 99 false ng = nTab ni (fun o => if o = ng then P else W o) (fun o => if o = ng then b else B o) 99 false ng := nTab_cong ng (fun j hj k hk => by rw [if_neg (by omega)]) (fun j hj => by rw [if_neg (by omega)])
  have eD : nDep ni W ng = nDep ni (fun o => if o = ng then P else W o) ng := nDep_cong ng (fun j hj k hk => by rw [if_neg (by omega)])
  have eN : nTab ni (fun o => if o = ng then P else W o) (fun o => if o = ng then b else B o) 99 false (ng + 1) ng = mkT (2 ^ ni) (fun r => decide (b ≤ nSum ni P (nTab ni W B 99 false ng) r (ni + ng))) := by
    rw [nTab_new, ← eT]
    apply mkT_ext
    intro r hr
    unfold nRow
    rw [if_neg (by omega)]
    simp
  have eM : nDep ni (fun o => if o = ng then P else W o) (ng + 1) ng = nMost ni P (nDep ni W ng) ng + 1 := by
    rw [nDep_new, ← eD]
    simp
  have h22 : M 22 = .inl (jc g 3, 9, .inr (.inr (.inr (.inr (fun i => if i < 9 then some (jA g (23 + i)) else none))))) := h22
  refine con_of (l := [some (.ref (jA g 19)), some (.int (iI b)), none]) (by decide) (Nat.le_of_ble_eq_true rfl) rfl ?_
  refine j_aload_n0 (n := 1) dX3_append_0 rfl ?_
  refine j_get (n := 4) (k := 1) dX3_append_1 rfl jcl3 (Nat.le_of_ble_eq_true rfl) fl_X3_34 (Nat.le_of_ble_eq_true rfl) (by first | assumption | rfl) (by rfl) ?_
  refine j_istore_n2 (n := 5) dX3_append_4 rfl (Nat.le_of_ble_eq_true rfl) rfl ?_
  refine j_aload_n0 (n := 6) dX3_append_5 rfl ?_
  refine j_get (n := 9) (k := 5) dX3_append_6 rfl jcl3 (Nat.le_of_ble_eq_true rfl) fl_X3_28 (Nat.le_of_ble_eq_true rfl) (by first | assumption | rfl) (by rfl) ?_
  refine j_iload_n2 (n := 10) dX3_append_9 rfl ?_
  refine j_iload_n1 (n := 11) dX3_append_10 rfl ?_
  refine j_iast_n (j := ng) (n := 12) dX3_append_11 rfl (by decide) h32 (by decide) (by omega) ?_
  refine j_aload_n0 (n := 13) dX3_append_12 rfl ?_
  refine j_get (n := 16) (k := 2) dX3_append_13 rfl jcl3 (Nat.le_of_ble_eq_true rfl) fl_X3_15 (Nat.le_of_ble_eq_true rfl) (by first | assumption | rfl) (by rfl) ?_
  refine j_iload_n2 (n := 17) dX3_append_16 rfl ?_
  refine j_aload_n0 (n := 18) dX3_append_17 rfl ?_
  refine j_iload_n2 (n := 19) dX3_append_18 rfl ?_
  refine j_aload_n0 (n := 20) dX3_append_19 rfl ?_
  refine j_get (n := 23) (k := 2) dX3_append_20 rfl jcl3 (Nat.le_of_ble_eq_true rfl) fl_X3_15 (Nat.le_of_ble_eq_true rfl) (by first | assumption | rfl) (by rfl) ?_
  refine j_fnV2 (n := 26) (con_X3_toldBy (M := va_up M 32 (iA g 8 (upd bd ng (iI b)))) (o := ng) (ka := 20) (w := P) (T := nTab ni W B 99 false ng) (b := b) h19 h22 ((va_at_ne (by omega)).trans hw) (fun k hk => ⟨hw2 rfl k (by omega), hok.2.2.2 k (by omega)⟩) rfl ⟨pk_us, hb⟩ h8 hok.1.2.1 (by decide) h20 (fun j hj => ⟨htl j hj, by have := nTab_lt (ni := ni) (W := W) (B := B) (hg := 99) (b := false) ng j; omega⟩)) dX3_append_23 rfl cal_X3_toldBy ml_X3_43 (Nat.le_of_ble_eq_true rfl) (by first | decide | omega) rfl rfl (Nat.le_of_ble_eq_true rfl) (by first | assumption | rfl) ?_
  refine j_last_n (j := ng) (n := 27) dX3_append_26 rfl (by decide) h20 (by decide) (by omega) ?_
  refine j_aload_n0 (n := 28) dX3_append_27 rfl ?_
  refine j_get (n := 31) (k := 3) dX3_append_28 rfl jcl3 (Nat.le_of_ble_eq_true rfl) fl_X3_19 (Nat.le_of_ble_eq_true rfl) (by first | assumption | rfl) (by rfl) ?_
  refine j_iload_n2 (n := 32) dX3_append_31 rfl ?_
  refine j_aload_n0 (n := 33) dX3_append_32 rfl ?_
  refine j_iload_n2 (n := 34) dX3_append_33 rfl ?_
  refine j_fnV1 (n := 37) (con_X3_depthOf (M := va_up (va_up M 32 (iA g 8 (upd bd ng (iI b)))) 20 _) (o := ng) (w := P) (D := nDep ni W ng) h19 h22 ((va_at_ne (by omega)).trans ((va_at_ne (by omega)).trans hw)) (fun k hk => ⟨hw2 rfl k (by omega), hok.2.2.2 k (by omega)⟩) h21 (fun j hj => ⟨hdp j hj, by have := nDep_le (ni := ni) (W := W) ng j; omega⟩) h8 hok.1.2.1) dX3_append_34 rfl cal_X3_depthOf ml_X3_47 (Nat.le_of_ble_eq_true rfl) (by first | decide | omega) rfl rfl (Nat.le_of_ble_eq_true rfl) (by first | assumption | rfl) ?_
  refine j_iast_n (j := ng) (n := 38) dX3_append_37 rfl (by decide) h21 (by decide) (by omega) ?_
  refine j_aload_n0 (n := 39) dX3_append_38 rfl ?_
  refine j_iload_n2 (n := 40) dX3_append_39 rfl ?_
  refine j_iconst (n := 41) (nI 1) dX3_append_40 rfl (by decide) ?_
  refine j_iadd (n := 42) dX3_append_41 rfl ?_
  refine j_topi (nI (ng + 1)) (nI_add ng 1) ?_
  refine j_put (n := 45) (k := 1) (fs2 := oNet g (nI ni) (nI (ng + 1))) dX3_append_42 rfl jcl3 tyX3_ok nmX3 (Nat.le_of_ble_eq_true rfl) rfl (tyX3_ok 1 (Nat.le_of_ble_eq_true rfl)) fl_X3_34 (by rfl) (by rfl) (Nat.le_of_ble_eq_true rfl) (by first | assumption | rfl) (Nat.le_of_ble_eq_true rfl) (by rfl) ?_
  refine j_aload_n0 (n := 46) dX3_append_45 rfl ?_
  refine j_get (n := 49) (k := 4) dX3_append_46 rfl jcl3 (Nat.le_of_ble_eq_true rfl) fl_X3_25 (Nat.le_of_ble_eq_true rfl) (by first | assumption | rfl) (by rfl) ?_
  refine j_aload_n0 (n := 50) dX3_append_49 rfl ?_
  refine j_get (n := 53) (k := 1) dX3_append_50 rfl jcl3 (Nat.le_of_ble_eq_true rfl) fl_X3_34 (Nat.le_of_ble_eq_true rfl) (by first | assumption | rfl) (by rfl) ?_
  refine j_aald_n (j := ng + 1) (n := 54) dX3_append_53 rfl (by decide) h22 (by decide) (by omega) (if_pos (by omega)) ?_
  refine j_iconst (n := 55) (nI 0) dX3_append_54 rfl (by decide) ?_
  refine j_cS2 (con_J7_fill_53178 (kc := 23 + (ng + 1)) (N := 12) (f := wr9) (by omega) (by decide) ?_) dX3_append_55 rfl cal_J7_fill_53178 ml_X3_37 (Nat.le_of_ble_eq_true rfl) (Nat.le_of_ble_eq_true rfl) ?_
  · rw [va_at_ne (by omega), va_at_ne (by omega), va_at_ne (by omega), va_at_ne (by omega)]
    exact hw9
  rintro _ M2 ⟨rfl, f2, rfl, hf2⟩
  refine j_iload_n2 (n := 59) dX3_append_58 rfl ?_
  refine j_iret dX3_append_59 rfl ?_
  refine ⟨rfl, ⟨?_, ?_, ⟨vp_updL tl ng (lN (mkT (2 ^ ni) (fun r => decide (b ≤ nSum ni P (nTab ni W B 99 false ng) r (ni + ng))))), ?_, fun j hj => ?_⟩, ⟨upd dp ng (nI (nMost ni P (nDep ni W ng) ng + 1)), ?_, fun j hj => ?_⟩, ⟨upd bd ng (iI b), ?_, fun j hj => ?_⟩, ⟨sp, ?_⟩, fun o ho => ?_⟩, ((((cFr.rf.up (by decide) (by decide)).up (by decide) (by decide)).up (by decide) (by decide)).up (by decide) (by decide)).up (by omega) (by omega)⟩
  · rw [va_at_ne (by omega)]; rfl
  · rw [va_at_ne (by omega)]; exact h22
  · rw [va_at_ne (by omega)]; rfl
  · by_cases e : j = ng
    · rw [e, pk_uLs, eN]
    · rw [pk_uLn e, htl j (by omega), eT, nTab_keep (by omega)]
  · rw [va_at_ne (by omega)]; rfl
  · by_cases e : j = ng
    · rw [e, pk_us, eM]
    · rw [pk_un e, hdp j (by omega), eD, nDep_keep (by omega)]
  · rw [va_at_ne (by omega)]; rfl
  · by_cases e : j = ng
    · rw [e, pk_us]
      simp
    · rw [pk_un e, hbd j (by omega)]
      simp [e]
  · rw [va_at_ne (by omega)]; exact h33
  · by_cases e : o = ng + 1
    · subst e
      exact ⟨f2, va_at_eq, fun h => absurd h (Nat.lt_irrefl _), fun _ k hk => hf2 k hk⟩
    · obtain ⟨w3, q1, q2, q3⟩ := hrow o ho
      refine ⟨w3, ?_, fun h k hk => ?_, fun h => absurd h e⟩
      · rw [va_at_ne (by omega), va_at_ne (by omega), va_at_ne (by omega), va_at_ne (by omega), va_at_ne (by omega)]
        exact q1
      · by_cases e2 : o = ng
        · rw [q3 e2 k hk]
          simp [e2]
        · rw [q2 (by omega) k hk]
          simp [e2]
