def isGt (ng : Nat) (o : Int32) : Bool := decide (0 ≤ o ∧ o ≤ nI ng - 1)
theorem isGt_of {ng : Nat} (h8 : ng ≤ 12) {o : Int32} (h : isGt ng o = true) : ∃ j : Nat, j < ng ∧ o = nI j := by
  have h1 : 0 ≤ o ∧ o ≤ nI ng - 1 := of_decide_eq_true h
  rcases Nat.eq_zero_or_pos ng with e | e
  · subst e
    have q1 := h1.1
    have q2 := h1.2
    rw [fa_le] at q1 q2
    have e1 : (nI 0 - 1).toInt = -1 := by decide
    have e0 : (0 : Int32).toInt = 0 := by decide
    omega
  · have e2 : nI ng - 1 = nI (ng - 1) := by
      have : nI ng - nI 1 = nI (ng - 1) := pk_sub e
      exact this
    rw [e2] at h1
    obtain ⟨j, hj, e3⟩ := nI_of2 (M := nI (ng - 1)) (n := ng - 1) (nI_toInt (by omega)) (fun q => by have := h1.1; rw [fa_le] at this; rw [fa_lt] at q; omega) h1.2
    exact ⟨j, by omega, e3⟩
theorem wide_in {a : Int32} {x y : Int32} : decide (x.toInt64 ≤ a.toInt64 ∧ a.toInt64 ≤ y.toInt64) = decide (x ≤ a ∧ a ≤ y) := by
  apply decide_eq_decide.mpr
  rw [fa_wide_le, fa_wide_le]
set_option maxRecDepth 100000 in
theorem con_X8_isNetGate {g : jG} {M : jMem} {q : jMq} {ni ng : Nat} (h34 : M 34 = .inr (7, oMod g (qN q ni ng))) {o : Int32} : Fn g jX8_isNetGate 1 [.ref (jA g 34), .int o] M (.int (jB (isGt ng o))) := by
  refine con_of (l := [some (.ref (jA g 34)), some (.int o)]) (by decide) (Nat.le_of_ble_eq_true rfl) rfl ?_
  refine j_iload_n1 (n := 1) dX8_isNetGate_0 rfl ?_
  refine j_i2l (n := 2) dX8_isNetGate_1 rfl ?_
  refine j_lconst (n := 3) (lN 0) dX8_isNetGate_2 rfl rfl ?_
  refine j_aload_n0 (n := 4) dX8_isNetGate_3 rfl ?_
  refine j_get (n := 7) (k := 20) dX8_isNetGate_4 rfl jcl7 (Nat.le_of_ble_eq_true rfl) fl_X8_202 (Nat.le_of_ble_eq_true rfl) (by first | assumption | rfl) (by rfl) ?_
  refine j_iconst (n := 8) (nI 1) dX8_isNetGate_7 rfl (by decide) ?_
  refine j_isub (n := 9) dX8_isNetGate_8 rfl ?_
  refine j_i2l (n := 10) dX8_isNetGate_9 rfl ?_
  refine j_fnS3 (n := 13) con_X8_in dX8_isNetGate_10 rfl cal_X8_in ml_X8_76 (Nat.le_of_ble_eq_true rfl) (Nat.le_of_ble_eq_true rfl) ?_
  have e : isGt ng o = decide (lN 0 ≤ o.toInt64 ∧ o.toInt64 ≤ (nI ng - nI 1).toInt64) := by
    rw [wide0, wide_in]
    rfl
  exact j_bret dX8_isNetGate_13 rfl ⟨by rw [e]; rfl, rfl⟩
def sp_net (ng : Nat) (n : Int32) : Int32 := if isTo 4 n = false then -2 else nI ng
set_option maxRecDepth 100000 in
theorem con_X8_net {g : jG} {M : jMem} {q : jMq} {ni ng : Nat} {tp : Nat → Int32} (h34 : M 34 = .inr (7, oMod g (qN q ni ng))) (h47 : M 47 = iA g 12 tp) {n : Int32} : Con g jX8_net 1 [.ref (jA g 34), .int n] M (fun v M2 => v = some (.int (sp_net ng n)) ∧ ((isTo 4 n = false ∧ M2 = M) ∨ (isTo 4 n = true ∧ ∃ tp2, M2 = va_up (va_up M 34 (.inr (7, oMod g (qN q n.toNatClampNeg 0)))) 47 (iA g 12 tp2) ∧ ∀ k, k < 12 → tp2 k = nI 0))) := by
  refine con_of (l := [some (.ref (jA g 34)), some (.int n), none, none]) (by decide) (Nat.le_of_ble_eq_true rfl) rfl ?_
  refine j_iload_n1 (n := 1) dX8_net_0 rfl ?_
  refine j_i2l (n := 2) dX8_net_1 rfl ?_
  refine j_lconst (n := 3) (lN 1) dX8_net_2 rfl rfl ?_
  refine j_ldc2 (n := 6) dX8_net_3 rfl cl_X8_187 ?_
  refine j_fnS3 (n := 9) con_X8_in dX8_net_6 rfl cal_X8_in ml_X8_76 (Nat.le_of_ble_eq_true rfl) (Nat.le_of_ble_eq_true rfl) ?_
  have e5 : decide (lN 1 ≤ n.toInt64 ∧ n.toInt64 ≤ 4) = isTo 4 n := by
    have w4 : (4 : Int64) = (nI 4).toInt64 := by decide
    rw [wide1, w4, wide_in]
    rfl
  rw [e5]
  refine j_bif_ne (n := 12) 15 dX8_net_9 rfl (by decide) (fun k1 => ?_) (fun k1 => ?_)
  rotate_left
  · refine j_bipush (n := 14) (-2) dX8_net_12 rfl (by decide) ?_
    refine j_iret dX8_net_14 rfl ?_
    exact ⟨by simp [sp_net, k1], Or.inl ⟨k1, rfl⟩⟩
  obtain ⟨m, hm1, hm4, rfl⟩ := isTo_of (by decide) k1
  have cm := nI_clamp (show m < 2 ^ 31 by omega)
  rw [cm]
  refine j_aload_n0 (n := 16) dX8_net_15 rfl ?_
  refine j_get (n := 19) (k := 20) dX8_net_16 rfl jcl7 (Nat.le_of_ble_eq_true rfl) fl_X8_202 (Nat.le_of_ble_eq_true rfl) (by first | assumption | rfl) (by rfl) ?_
  refine j_istore_n2 (n := 20) dX8_net_19 rfl (Nat.le_of_ble_eq_true rfl) rfl ?_
  refine j_aload_n0 (n := 21) dX8_net_20 rfl ?_
  refine j_iload_n1 (n := 22) dX8_net_21 rfl ?_
  refine j_put (n := 25) (k := 19) (fs2 := oMod g (qN q m ng)) dX8_net_22 rfl jcl7 tyX8_ok nmX8 (Nat.le_of_ble_eq_true rfl) rfl (tyX8_ok 19 (Nat.le_of_ble_eq_true rfl)) fl_X8_55 (by rfl) (by rfl) (Nat.le_of_ble_eq_true rfl) (by first | assumption | rfl) (Nat.le_of_ble_eq_true rfl) (by rfl) ?_
  refine j_aload_n0 (n := 26) dX8_net_25 rfl ?_
  refine j_iconst (n := 27) (nI 0) dX8_net_26 rfl (by decide) ?_
  refine j_put (n := 30) (k := 20) (fs2 := oMod g (qN q m 0)) dX8_net_27 rfl jcl7 tyX8_ok nmX8 (Nat.le_of_ble_eq_true rfl) rfl (tyX8_ok 20 (Nat.le_of_ble_eq_true rfl)) fl_X8_202 (by rfl) (by rfl) (Nat.le_of_ble_eq_true rfl) (by first | assumption | rfl) (Nat.le_of_ble_eq_true rfl) (by rfl) ?_
  rw [va_uu]
  refine j_iconst (n := 31) (nI 0) dX8_net_30 rfl (by decide) ?_
  refine j_istore_n3 (n := 32) dX8_net_31 rfl (Nat.le_of_ble_eq_true rfl) rfl ?_
  have key : ∀ i, i ≤ 12 → ∀ f : Nat → Int32, (∀ k, k < i → f k = nI 0) → J g jX8_net 1 (fun v M2 => v = some (.int (sp_net ng (nI m))) ∧ ((isTo 4 (nI m) = false ∧ M2 = M) ∨ (isTo 4 (nI m) = true ∧ ∃ tp2, M2 = va_up (va_up M 34 (.inr (7, oMod g (qN q m 0)))) 47 (iA g 12 tp2) ∧ ∀ k, k < 12 → tp2 k = nI 0))) 32 [some (.ref (jA g 34)), some (.int (nI m)), some (.int (nI ng)), some (.int (nI i))] [] (va_up (va_up M 34 (.inr (7, oMod g (qN q m 0)))) 47 (iA g 12 f)) := by
    refine j_for ?_ ?_
    · intro f hf
      refine j_iload_n3 (n := 33) dX8_net_32 rfl ?_
      refine j_bipush (n := 35) (nI 12) dX8_net_33 rfl (by decide) ?_
      refine j_nicmp_ge (n := 38) 51 dX8_net_35 rfl (by decide) (by omega) (by omega) (fun h => ?_) (fun h => ?_)
      · refine j_iload_n2 (n := 52) dX8_net_51 rfl ?_
        refine j_iret dX8_net_52 rfl ?_
        exact ⟨by simp [sp_net, k1], Or.inr ⟨k1, f, rfl, hf⟩⟩
      · omega
    · intro i hi ih f hf
      refine j_iload_n3 (n := 33) dX8_net_32 rfl ?_
      refine j_bipush (n := 35) (nI 12) dX8_net_33 rfl (by decide) ?_
      refine j_nicmp_ge (n := 38) 51 dX8_net_35 rfl (by decide) (by omega) (by omega) (fun h => ?_) (fun h => ?_)
      · omega
      refine j_aload_n0 (n := 39) dX8_net_38 rfl ?_
      refine j_get (n := 42) (k := 21) dX8_net_39 rfl jcl7 (Nat.le_of_ble_eq_true rfl) fl_X8_59 (Nat.le_of_ble_eq_true rfl) (by first | assumption | rfl) (by rfl) ?_
      refine j_iload_n3 (n := 43) dX8_net_42 rfl ?_
      refine j_iconst (n := 44) (nI 0) dX8_net_43 rfl (by decide) ?_
      refine j_iast_n (n := 45) dX8_net_44 rfl (by first | decide | omega) (by first | assumption | rfl) (by decide) (by first | assumption | omega) ?_
      refine j_inc3 (n := 48) dX8_net_45 rfl (Nat.le_of_ble_eq_true rfl) rfl ?_
      refine j_goto 32 dX8_net_48 (by decide) ?_
      rw [va_uu]
      refine ih _ (fun k hk => ?_)
      by_cases e : k = i
      · rw [e, pk_us]
      · rw [pk_un e]
        exact hf k (by omega)
  have hM : va_up (va_up M 34 (.inr (7, oMod g (qN q m 0)))) 47 (iA g 12 tp) = va_up M 34 (.inr (7, oMod g (qN q m 0))) := va_self h47
  have h0 := key 0 (Nat.zero_le _) tp (fun k hk => absurd hk (Nat.not_lt_zero k))
  rw [hM] at h0
  exact h0
def isW (k : Int) (w : Int32) : Bool := decide (iI (-k) ≤ w ∧ w ≤ iI k)
theorem isW_of {k : Int} (hk : 0 ≤ k ∧ k < 1000) {w : Int32} (h : isW k w = true) : ∃ z : Int, -k ≤ z ∧ z ≤ k ∧ w = iI z := by
  have h1 := of_decide_eq_true h
  obtain ⟨z, hz, e⟩ := iI_of w
  rw [e] at h1
  exact ⟨z, (iI_le (by omega) hz).mp h1.1, (iI_le hz (by omega)).mp h1.2, e⟩
def sp_put (ni ng : Nat) (P : Nat → Int) (o w : Int32) : Int32 := if isGt (ni + ng) o = false then -1 else if isW 9 w = false then -2 else iI (P o.toNatClampNeg)
set_option maxRecDepth 100000 in
theorem con_X8_put {g : jG} {M : jMem} {q : jMq} {ni ng : Nat} {tp : Nat → Int32} {P : Nat → Int} (h34 : M 34 = .inr (7, oMod g (qN q ni ng))) (h47 : M 47 = iA g 12 tp) (hni : ni ≤ 4) (hng : ng ≤ 8) (hP : ∀ k, k < 12 → tp k = iI (P k)) {o w : Int32} : Con g jX8_put 1 [.ref (jA g 34), .int o, .int w] M (fun v M2 => v = some (.int (sp_put ni ng P o w)) ∧ (((isGt (ni + ng) o && isW 9 w) = false ∧ M2 = M) ∨ ((isGt (ni + ng) o && isW 9 w) = true ∧ M2 = va_up M 47 (iA g 12 (upd tp o.toNatClampNeg w))))) := by
  refine con_of (l := [some (.ref (jA g 34)), some (.int o), some (.int w), none]) (by decide) (Nat.le_of_ble_eq_true rfl) rfl ?_
  refine j_iload_n1 (n := 1) dX8_put_0 rfl ?_
  refine j_i2l (n := 2) dX8_put_1 rfl ?_
  refine j_lconst (n := 3) (lN 0) dX8_put_2 rfl rfl ?_
  refine j_aload_n0 (n := 4) dX8_put_3 rfl ?_
  refine j_get (n := 7) (k := 19) dX8_put_4 rfl jcl7 (Nat.le_of_ble_eq_true rfl) fl_X8_55 (Nat.le_of_ble_eq_true rfl) (by first | assumption | rfl) (by rfl) ?_
  refine j_aload_n0 (n := 8) dX8_put_7 rfl ?_
  refine j_get (n := 11) (k := 20) dX8_put_8 rfl jcl7 (Nat.le_of_ble_eq_true rfl) fl_X8_202 (Nat.le_of_ble_eq_true rfl) (by first | assumption | rfl) (by rfl) ?_
  refine j_iadd (n := 12) dX8_put_11 rfl ?_
  refine j_iconst (n := 13) (nI 1) dX8_put_12 rfl (by decide) ?_
  refine j_isub (n := 14) dX8_put_13 rfl ?_
  refine j_i2l (n := 15) dX8_put_14 rfl ?_
  refine j_fnS3 (n := 18) con_X8_in dX8_put_15 rfl cal_X8_in ml_X8_76 (Nat.le_of_ble_eq_true rfl) (Nat.le_of_ble_eq_true rfl) ?_
  have e5 : decide (lN 0 ≤ o.toInt64 ∧ o.toInt64 ≤ (nI ni + nI ng - nI 1).toInt64) = isGt (ni + ng) o := by
    rw [wide0, wide_in, nI_add]
    rfl
  have e6 : decide (lN 0 ≤ o.toInt64 ∧ o.toInt64 ≤ ((qN q ni ng).2.2.2.2.2.2.2.1 + (qN q ni ng).2.2.2.2.2.2.2.2 - nI 1).toInt64) = isGt (ni + ng) o := e5
  rw [e6]
  refine j_bif_ne (n := 21) 23 dX8_put_18 rfl (by decide) (fun k1 => ?_) (fun k1 => ?_)
  rotate_left
  · refine j_iconst (n := 22) (-1) dX8_put_21 rfl (by decide) ?_
    refine j_iret dX8_put_22 rfl ?_
    exact ⟨by simp [sp_put, k1], Or.inl ⟨by rw [k1]; rfl, rfl⟩⟩
  refine j_iload_n2 (n := 24) dX8_put_23 rfl ?_
  refine j_i2l (n := 25) dX8_put_24 rfl ?_
  refine j_ldc2 (n := 28) dX8_put_25 rfl cl_X8_205 ?_
  refine j_ldc2 (n := 31) dX8_put_28 rfl cl_X8_207 ?_
  refine j_fnS3 (n := 34) con_X8_in dX8_put_31 rfl cal_X8_in ml_X8_76 (Nat.le_of_ble_eq_true rfl) (Nat.le_of_ble_eq_true rfl) ?_
  have e7 : decide (-9 ≤ w.toInt64 ∧ w.toInt64 ≤ 9) = isW 9 w := by
    have q1 : (-9 : Int64) = (iI (-9)).toInt64 := by decide
    have q2 : (9 : Int64) = (iI 9).toInt64 := by decide
    rw [q1, q2, wide_in]
    rfl
  rw [e7]
  refine j_bif_ne (n := 37) 40 dX8_put_34 rfl (by decide) (fun k2 => ?_) (fun k2 => ?_)
  rotate_left
  · refine j_bipush (n := 39) (-2) dX8_put_37 rfl (by decide) ?_
    refine j_iret dX8_put_39 rfl ?_
    exact ⟨by simp [sp_put, k1, k2], Or.inl ⟨by rw [k1, k2]; rfl, rfl⟩⟩
  obtain ⟨j, hj, rfl⟩ := isGt_of (by omega) k1
  have cj := nI_clamp (show j < 2 ^ 31 by omega)
  refine j_aload_n0 (n := 41) dX8_put_40 rfl ?_
  refine j_get (n := 44) (k := 21) dX8_put_41 rfl jcl7 (Nat.le_of_ble_eq_true rfl) fl_X8_59 (Nat.le_of_ble_eq_true rfl) (by first | assumption | rfl) (by rfl) ?_
  refine j_iload_n1 (n := 45) dX8_put_44 rfl ?_
  refine j_iald_n (n := 46) dX8_put_45 rfl (by first | decide | omega) (by first | assumption | rfl) (by decide) (by first | assumption | omega) ?_
  refine j_istore_n3 (n := 47) dX8_put_46 rfl (Nat.le_of_ble_eq_true rfl) rfl ?_
  refine j_aload_n0 (n := 48) dX8_put_47 rfl ?_
  refine j_get (n := 51) (k := 21) dX8_put_48 rfl jcl7 (Nat.le_of_ble_eq_true rfl) fl_X8_59 (Nat.le_of_ble_eq_true rfl) (by first | assumption | rfl) (by rfl) ?_
  refine j_iload_n1 (n := 52) dX8_put_51 rfl ?_
  refine j_iload_n2 (n := 53) dX8_put_52 rfl ?_
  refine j_iast_n (n := 54) dX8_put_53 rfl (by first | decide | omega) (by first | assumption | rfl) (by decide) (by first | assumption | omega) ?_
  refine j_iload_n3 (n := 55) dX8_put_54 rfl ?_
  refine j_iret dX8_put_55 rfl ?_
  refine ⟨?_, Or.inr ⟨by rw [k1, k2]; rfl, by rw [cj]⟩⟩
  simp [sp_put, k1, k2, cj, hP j (by omega)]
def sp_add (ng : Nat) (b : Int32) : Int32 := if isW 99 b = false then -2 else if ng = 8 then -4 else nI ng
set_option maxRecDepth 100000 in
theorem con_X8_add {g : jG} {M : jMem} {q : jMq} {ni ng : Nat} {tp nw nb : Nat → Int32} (h34 : M 34 = .inr (7, oMod g (qN q ni ng))) (h47 : M 47 = iA g 12 tp) (h48 : M 48 = iA g 96 nw) (h49 : M 49 = iA g 8 nb) (hng : ng ≤ 8) {b : Int32} : Con g jX8_add 1 [.ref (jA g 34), .int b] M (fun v M2 => v = some (.int (sp_add ng b)) ∧ (((isW 99 b = false ∨ ng = 8) ∧ M2 = M) ∨ ((isW 99 b = true ∧ ng < 8) ∧ ∃ tp2 nw2, M2 = va_up (va_up (va_up (va_up M 47 (iA g 12 tp2)) 48 (iA g 96 nw2)) 49 (iA g 8 (upd nb ng b))) 34 (.inr (7, oMod g (qN q ni (ng + 1)))) ∧ (∀ k, k < 12 → tp2 k = nI 0) ∧ (∀ k, k < 12 → nw2 (12 * ng + k) = tp k) ∧ ∀ k, (k < 12 * ng ∨ 12 * ng + 12 ≤ k) → nw2 k = nw k))) := by
  refine con_of (l := [some (.ref (jA g 34)), some (.int b), none]) (by decide) (Nat.le_of_ble_eq_true rfl) rfl ?_
  refine j_iload_n1 (n := 1) dX8_add_0 rfl ?_
  refine j_i2l (n := 2) dX8_add_1 rfl ?_
  refine j_ldc2 (n := 5) dX8_add_2 rfl cl_X8_209 ?_
  refine j_ldc2 (n := 8) dX8_add_5 rfl cl_X8_211 ?_
  refine j_fnS3 (n := 11) con_X8_in dX8_add_8 rfl cal_X8_in ml_X8_76 (Nat.le_of_ble_eq_true rfl) (Nat.le_of_ble_eq_true rfl) ?_
  have e7 : decide (-99 ≤ b.toInt64 ∧ b.toInt64 ≤ 99) = isW 99 b := by
    have q1 : (-99 : Int64) = (iI (-99)).toInt64 := by decide
    have q2 : (99 : Int64) = (iI 99).toInt64 := by decide
    rw [q1, q2, wide_in]
    rfl
  rw [e7]
  refine j_bif_ne (n := 14) 17 dX8_add_11 rfl (by decide) (fun k1 => ?_) (fun k1 => ?_)
  rotate_left
  · refine j_bipush (n := 16) (-2) dX8_add_14 rfl (by decide) ?_
    refine j_iret dX8_add_16 rfl ?_
    exact ⟨by simp [sp_add, k1], Or.inl ⟨Or.inl k1, rfl⟩⟩
  refine j_aload_n0 (n := 18) dX8_add_17 rfl ?_
  refine j_get (n := 21) (k := 20) dX8_add_18 rfl jcl7 (Nat.le_of_ble_eq_true rfl) fl_X8_202 (Nat.le_of_ble_eq_true rfl) (by first | assumption | rfl) (by rfl) ?_
  refine j_bipush (n := 23) (nI 8) dX8_add_21 rfl (by decide) ?_
  refine j_nicmp_ne (a := ng) (b := 8) (n := 26) 29 dX8_add_23 rfl (by decide) (by omega) (by omega) (fun e => ?_) (fun e => ?_)
  rotate_left
  · refine j_bipush (n := 28) (-4) dX8_add_26 rfl (by decide) ?_
    refine j_iret dX8_add_28 rfl ?_
    exact ⟨by simp [sp_add, k1, e], Or.inl ⟨Or.inr e, rfl⟩⟩
  have hlt : ng < 8 := by omega
  refine j_iconst (n := 30) (nI 0) dX8_add_29 rfl (by decide) ?_
  refine j_istore_n2 (n := 31) dX8_add_30 rfl (Nat.le_of_ble_eq_true rfl) rfl ?_
  have key : ∀ i, i ≤ 12 → ∀ (t2 w2 : Nat → Int32), (∀ k, k < i → t2 k = nI 0) → (∀ k, i ≤ k → t2 k = tp k) → (∀ k, k < i → w2 (12 * ng + k) = tp k) → (∀ k, (k < 12 * ng ∨ 12 * ng + 12 ≤ k) → w2 k = nw k) → J g jX8_add 1 (fun v M2 => v = some (.int (sp_add ng b)) ∧ (((isW 99 b = false ∨ ng = 8) ∧ M2 = M) ∨ ((isW 99 b = true ∧ ng < 8) ∧ ∃ tp2 nw2, M2 = va_up (va_up (va_up (va_up M 47 (iA g 12 tp2)) 48 (iA g 96 nw2)) 49 (iA g 8 (upd nb ng b))) 34 (.inr (7, oMod g (qN q ni (ng + 1)))) ∧ (∀ k, k < 12 → tp2 k = nI 0) ∧ (∀ k, k < 12 → nw2 (12 * ng + k) = tp k) ∧ ∀ k, (k < 12 * ng ∨ 12 * ng + 12 ≤ k) → nw2 k = nw k))) 31 [some (.ref (jA g 34)), some (.int b), some (.int (nI i))] [] (va_up (va_up M 47 (iA g 12 t2)) 48 (iA g 96 w2)) := by
    refine j_for ?_ ?_
    · intro t2 w2 p1 p2 p3 p4
      refine j_iload_n2 (n := 32) dX8_add_31 rfl ?_
      refine j_bipush (n := 34) (nI 12) dX8_add_32 rfl (by decide) ?_
      refine j_nicmp_ge (n := 37) 70 dX8_add_34 rfl (by decide) (by omega) (by omega) (fun h => ?_) (fun h => ?_)
      rotate_left
      · omega
      refine j_aload_n0 (n := 71) dX8_add_70 rfl ?_
      refine j_get (n := 74) (k := 23) dX8_add_71 rfl jcl7 (Nat.le_of_ble_eq_true rfl) fl_X8_65 (Nat.le_of_ble_eq_true rfl) (by first | assumption | rfl) (by rfl) ?_
      refine j_aload_n0 (n := 75) dX8_add_74 rfl ?_
      refine j_get (n := 78) (k := 20) dX8_add_75 rfl jcl7 (Nat.le_of_ble_eq_true rfl) fl_X8_202 (Nat.le_of_ble_eq_true rfl) (by first | assumption | rfl) (by rfl) ?_
      refine j_iload_n1 (n := 79) dX8_add_78 rfl ?_
      refine j_iast_n (j := ng) (n := 80) dX8_add_79 rfl (by first | decide | omega) (by first | assumption | rfl) (by decide) (by first | assumption | omega) ?_
      refine j_aload_n0 (n := 81) dX8_add_80 rfl ?_
      refine j_dup (n := 82) dX8_add_81 rfl rfl ?_
      refine j_get (n := 85) (k := 20) dX8_add_82 rfl jcl7 (Nat.le_of_ble_eq_true rfl) fl_X8_202 (Nat.le_of_ble_eq_true rfl) (by first | assumption | rfl) (by rfl) ?_
      refine j_iconst (n := 86) (nI 1) dX8_add_85 rfl (by decide) ?_
      refine j_iadd (n := 87) dX8_add_86 rfl ?_
      refine j_topi (nI (ng + 1)) (nI_add ng 1) ?_
      refine j_put (n := 90) (k := 20) (fs2 := oMod g (qN q ni (ng + 1))) dX8_add_87 rfl jcl7 tyX8_ok nmX8 (Nat.le_of_ble_eq_true rfl) rfl (tyX8_ok 20 (Nat.le_of_ble_eq_true rfl)) fl_X8_202 (by rfl) (by rfl) (Nat.le_of_ble_eq_true rfl) (by first | assumption | rfl) (Nat.le_of_ble_eq_true rfl) (by rfl) ?_
      refine j_aload_n0 (n := 91) dX8_add_90 rfl ?_
      refine j_get (n := 94) (k := 20) dX8_add_91 rfl jcl7 (Nat.le_of_ble_eq_true rfl) fl_X8_202 (Nat.le_of_ble_eq_true rfl) (by first | assumption | rfl) (by rfl) ?_
      refine j_iconst (n := 95) (nI 1) dX8_add_94 rfl (by decide) ?_
      refine j_isub (n := 96) dX8_add_95 rfl ?_
      refine j_topi (nI ng) (nI_pred ng) ?_
      refine j_iret dX8_add_96 rfl ?_
      exact ⟨by simp [sp_add, k1, e], Or.inr ⟨⟨k1, hlt⟩, t2, w2, rfl, p1, p3, p4⟩⟩
    · intro i hi ih t2 w2 p1 p2 p3 p4
      refine j_iload_n2 (n := 32) dX8_add_31 rfl ?_
      refine j_bipush (n := 34) (nI 12) dX8_add_32 rfl (by decide) ?_
      refine j_nicmp_ge (n := 37) 70 dX8_add_34 rfl (by decide) (by omega) (by omega) (fun h => ?_) (fun h => ?_)
      · omega
      refine j_aload_n0 (n := 38) dX8_add_37 rfl ?_
      refine j_get (n := 41) (k := 22) dX8_add_38 rfl jcl7 (Nat.le_of_ble_eq_true rfl) fl_X8_62 (Nat.le_of_ble_eq_true rfl) (by first | assumption | rfl) (by rfl) ?_
      refine j_bipush (n := 43) (nI 12) dX8_add_41 rfl (by decide) ?_
      refine j_aload_n0 (n := 44) dX8_add_43 rfl ?_
      refine j_get (n := 47) (k := 20) dX8_add_44 rfl jcl7 (Nat.le_of_ble_eq_true rfl) fl_X8_202 (Nat.le_of_ble_eq_true rfl) (by first | assumption | rfl) (by rfl) ?_
      refine j_imul (n := 48) dX8_add_47 rfl ?_
      refine j_iload_n2 (n := 49) dX8_add_48 rfl ?_
      refine j_iadd (n := 50) dX8_add_49 rfl ?_
      refine j_topi (nI (12 * ng + i)) (by rw [← nI_add, ← pk_mul]; rfl) ?_
      refine j_aload_n0 (n := 51) dX8_add_50 rfl ?_
      refine j_get (n := 54) (k := 21) dX8_add_51 rfl jcl7 (Nat.le_of_ble_eq_true rfl) fl_X8_59 (Nat.le_of_ble_eq_true rfl) (by first | assumption | rfl) (by rfl) ?_
      refine j_iload_n2 (n := 55) dX8_add_54 rfl ?_
      refine j_iald_n (n := 56) dX8_add_55 rfl (by first | decide | omega) (by first | assumption | rfl) (by decide) (by first | assumption | omega) ?_
      refine j_iast_n (n := 57) dX8_add_56 rfl (by first | decide | omega) (by first | assumption | rfl) (by decide) (by first | assumption | omega) ?_
      refine j_aload_n0 (n := 58) dX8_add_57 rfl ?_
      refine j_get (n := 61) (k := 21) dX8_add_58 rfl jcl7 (Nat.le_of_ble_eq_true rfl) fl_X8_59 (Nat.le_of_ble_eq_true rfl) (by first | assumption | rfl) (by rfl) ?_
      refine j_iload_n2 (n := 62) dX8_add_61 rfl ?_
      refine j_iconst (n := 63) (nI 0) dX8_add_62 rfl (by decide) ?_
      refine j_iast_n (n := 64) dX8_add_63 rfl (by first | decide | omega) (by first | assumption | rfl) (by decide) (by first | assumption | omega) ?_
      refine j_inc2 (n := 67) dX8_add_64 rfl (Nat.le_of_ble_eq_true rfl) rfl ?_
      refine j_goto 31 dX8_add_67 (by decide) ?_
      rw [va_uu, va_comm (show (47 : Nat) ≠ 48 by decide), va_uu]
      refine ih _ _ (fun k hk => ?_) (fun k hk => ?_) (fun k hk => ?_) (fun k hk => ?_)
      · by_cases e : k = i
        · rw [e, pk_us]
        · rw [pk_un e]
          exact p1 k (by omega)
      · rw [pk_un (by omega)]
        exact p2 k (by omega)
      · by_cases e : k = i
        · rw [e, pk_us]
          exact p2 i (by omega)
        · rw [pk_un (by omega)]
          exact p3 k (by omega)
      · rw [pk_un (by omega)]
        exact p4 k hk
  have hM : va_up (va_up M 47 (iA g 12 tp)) 48 (iA g 96 nw) = M := by
    rw [va_self h47, va_self h48]
  have h0 := key 0 (Nat.zero_le _) tp nw (fun k hk => absurd hk (Nat.not_lt_zero k)) (fun _ _ => rfl) (fun k hk => absurd hk (Nat.not_lt_zero k)) (fun _ _ => rfl)
  rw [hM] at h0
  exact h0
