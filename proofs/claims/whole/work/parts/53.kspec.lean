/-- how many kinds there are, of all tables or of gates alone -/
def kindsF (n : Nat) (b : Bool) : Nat := cnt (2 ^ 2 ^ n) (fun t => decide (chF n t = t) && (b || isG n t))
/-- the weights that a number in base 7 spells -/
def wK (k i : Nat) : Int := ((k / 7 ^ i % 7 : Nat) : Int) - 3
def xsum (w : Nat → Int) (n gt r : Nat) : Int := rsum w r n + (if gt.testBit r then w n else 0)
def sepK (n t gt k : Nat) : Bool := decide (mHi t (xsum (wK k) n gt) (2 ^ n) < mLow t (xsum (wK k) n gt) (2 ^ n))
def secB (n t gt : Nat) : Bool := decide (fa_first (sepK n t gt) (7 ^ (n + 1)) < 7 ^ (n + 1))
def fstB (n t gt : Nat) : Bool := isG n gt && secB n t gt
def fstI (n t : Nat) : Int32 := if fa_first (fstB n t) (2 ^ 2 ^ n) < 2 ^ 2 ^ n then nI (fa_first (fstB n t) (2 ^ 2 ^ n)) else -1
def bI (b : Bool) : Nat := if b then 1 else 0
/-- the reference's cells of kinds, of counts and of first gates -/
def kInv (g : jG) (M : jMem) (q : jMq) (m : Nat) : Prop := q.2.2.2.2.1 = nI m ∧ (∃ od, M 42 = iA g 4 od) ∧ (∃ f, M 43 = iA g 65536 f ∧ ∀ u, u < 65536 → ∃ k, k ≤ m ∧ f u = nI k) ∧ (∃ gm, M 44 = iA g 5 gm ∧ ∀ n, 1 ≤ n → n ≤ 4 → gm n = nI 0 ∨ gm n = nI (gatesF n)) ∧ (∃ km, M 45 = iA g 8 km ∧ ∀ n, 1 ≤ n → n ≤ 3 → ∀ b : Bool, km (2 * n + bI b) = nI 0 ∨ km (2 * n + bI b) = nI (kindsF n b)) ∧ (∃ fs, M 46 = iA g 256 fs ∧ ∀ k, k < 256 → fs k = -2 ∨ fs k = fstI 3 k)
def RI (g : jG) (M : jMem) (q : jMq) (m : Nat) : Prop := M 34 = .inr (7, oMod g q) ∧ mS g M ∧ cInv g M q ∧ kInv g M q m
def rFr (M M2 : jMem) : Prop := ∀ k, k < 34 ∨ k = 35 ∨ k = 36 ∨ 47 ≤ k → M2 k = M k
def rP (g : jG) (M M2 : jMem) (q : jMq) (m : Nat) : Prop := ∃ q2 m2, m2 ≤ m + 256 ∧ RI g M2 q2 m2 ∧ q2.2.2.2.2.2.2.2 = q.2.2.2.2.2.2.2 ∧ rFr M M2
theorem rFr.rf {M : jMem} : rFr M M := fun _ _ => rfl
theorem rFr.tr {M M2 M3 : jMem} (h : rFr M M2) (h2 : rFr M2 M3) : rFr M M3 := fun k hk => (h2 k hk).trans (h k hk)
theorem rFr.up {M M2 : jMem} (h : rFr M M2) {k : Nat} {e : va_E} (hk : k = 34 ∨ (37 ≤ k ∧ k ≤ 46)) : rFr M (va_up M2 k e) := fun j hj => (va_at_ne (by omega)).trans (h j hj)
theorem rP.rf {g : jG} {M : jMem} {q : jMq} {m : Nat} (ri : RI g M q m) : rP g M M q m := ⟨q, m, by omega, ri, rfl, rFr.rf⟩
theorem RI_I {g : jG} {M M2 : jMem} {q : jMq} {m : Nat} (ri : RI g M q m) (h : solvedI g M M2 q) : rP g M M2 q m := by
  obtain ⟨r1, r2, r3, k1, k2, k3, k4, k5, k6⟩ := ri
  obtain ⟨q2, a1, a2, a3, a4, a5⟩ := h
  refine ⟨q2, m, by omega, ⟨a1, a3, a5, by rw [a2]; exact k1, ?_, ?_, ?_, ?_, ?_⟩, by rw [a2], fun k hk => a4 k (by omega) (by omega) (by omega) (by omega) (by omega) (by omega)⟩
  all_goals rw [a4 _ (by decide) (by decide) (by decide) (by decide) (by decide) (by decide)]
  · exact k2
  · exact k3
  · exact k4
  · exact k5
  · exact k6
theorem cInv_m1 {g : jG} {M : jMem} {q : jMq} (h : q.1 = -1) : cInv g M q := by
  intro n t _ _ h3 h4
  rw [h] at h4
  have h5 : lN 0 ≤ lN t := (pk_lLE (by omega) (by omega)).mpr (Nat.zero_le _)
  rw [← h4] at h5
  exact absurd h5 (by decide)
def mkAll (m : Nat) (f : Nat → Int32) : Prop := ∀ u, u < 65536 → ∃ k, k ≤ m ∧ f u = nI k
theorem RI_MK {g : jG} {M : jMem} {q : jMq} {m ch kn : Nat} {od f : Nat → Int32} (ri : RI g M q m) (hf : mkAll (m + 1) f) : RI g (MK g M q (nI (m + 1)) ch kn od f) (qK q (nI (m + 1)) (lN ch) (nI kn)) (m + 1) := by
  obtain ⟨r1, r2, r3, k1, k2, k3, k4, k5, k6⟩ := ri
  exact ⟨rfl, r2, r3, rfl, ⟨od, rfl⟩, ⟨f, rfl, hf⟩, k4, k5, k6⟩
theorem rFr_MK {g : jG} {M : jMem} {q : jMq} {mk : Int32} {ch kn : Nat} {od f : Nat → Int32} : rFr M (MK g M q mk ch kn od f) := fun k hk => MK_k (by omega) (by omega) (by omega)
def sp_chief (sn sT : Nat → Nat) (s : Int32) : Int64 := if isSl s = false then -1 else if 4 < sn s.toNatClampNeg then -3 else lN (chF (sn s.toNatClampNeg) (sT s.toNatClampNeg))
def sp_kin (sn sT : Nat → Nat) (s : Int32) : Int32 := if isSl s = false then -1 else if 4 < sn s.toNatClampNeg then -3 else nI (kinF (sn s.toNatClampNeg) (sT s.toNatClampNeg))
def sp_gates (n : Int32) : Int32 := if isTo 4 n = false then -2 else nI (gatesF n.toNatClampNeg)
def sp_kinds (n : Int32) (b : Bool) : Int32 := if isTo 3 n = false then -2 else nI (kindsF n.toNatClampNeg b)
set_option maxRecDepth 100000 in
theorem con_X8_chief {g : jG} {M : jMem} {q : jMq} {m : Nat} {sn sT : Nat → Nat} (ri : RI g M q m) (hm : m + 256 < 2 ^ 31) (h35 : M 35 = iA g 8 fun j => nI (sn j)) (h36 : M 36 = lA g 8 fun j => lN (sT j)) (ok : slOK sn sT) {s : Int32} : Con g jX8_chief 3 [.ref (jA g 34), .int s] M (fun v M2 => v = some (.long (sp_chief sn sT s)) ∧ rP g M M2 q m) := by
  obtain ⟨h34, r2, r3, k1, ⟨od, k2⟩, ⟨f, k3, k3b⟩, k4, k5, k6⟩ := id ri
  refine con_of (l := [some (.ref (jA g 34)), some (.int s)]) (by decide) (Nat.le_of_ble_eq_true rfl) rfl ?_
  refine j_iload_n1 (n := 1) dX8_chief_0 rfl ?_
  refine j_fnS1 (n := 4) con_X8_isSlot dX8_chief_1 rfl cal_X8_isSlot ml_X8_88 (Nat.le_of_ble_eq_true rfl) (Nat.le_of_ble_eq_true rfl) ?_
  refine j_bif_ne (n := 7) 11 dX8_chief_4 rfl (by decide) (fun e1 => ?_) (fun e1 => ?_)
  rotate_left
  · refine j_ldc2 (n := 10) dX8_chief_7 rfl cl_X8_27 ?_
    refine j_lret dX8_chief_10 rfl ?_
    exact ⟨by simp [sp_chief, e1], rP.rf ri⟩
  obtain ⟨j, hj, rfl⟩ := isSl_of e1
  have c1 := nI_clamp (show j < 2 ^ 31 by omega)
  have b2 := ok j hj
  refine j_aload_n0 (n := 12) dX8_chief_11 rfl ?_
  refine j_get (n := 15) (k := 0) dX8_chief_12 rfl jcl7 (Nat.le_of_ble_eq_true rfl) fl_X8_7 (by first | decide | omega) (by first | assumption | rfl) (by rfl) ?_
  refine j_iload_n1 (n := 16) dX8_chief_15 rfl ?_
  refine j_iald_n (n := 17) dX8_chief_16 rfl (by first | decide | omega) (by first | assumption | rfl) (by decide) (by first | assumption | omega) ?_
  refine j_iconst (n := 18) (nI 4) dX8_chief_17 rfl (by decide) ?_
  refine j_nicmp_le (n := 21) 25 dX8_chief_18 rfl (by decide) (by omega) (by omega) (fun e2 => ?_) (fun e2 => ?_)
  rotate_left
  · refine j_ldc2 (n := 24) dX8_chief_21 rfl cl_X8_182 ?_
    refine j_lret dX8_chief_24 rfl ?_
    exact ⟨by simp [sp_chief, e1, c1, show 4 < sn j by omega], rP.rf ri⟩
  refine j_aload_n0 (n := 26) dX8_chief_25 rfl ?_
  refine j_aload_n0 (n := 27) dX8_chief_26 rfl ?_
  refine j_get (n := 30) (k := 1) dX8_chief_27 rfl jcl7 (Nat.le_of_ble_eq_true rfl) fl_X8_13 (by first | decide | omega) (by first | assumption | rfl) (by rfl) ?_
  refine j_iload_n1 (n := 31) dX8_chief_30 rfl ?_
  refine j_lald_n (n := 32) dX8_chief_31 rfl (by first | decide | omega) (by first | assumption | rfl) (by decide) (by first | assumption | omega) ?_
  refine j_aload_n0 (n := 33) dX8_chief_32 rfl ?_
  refine j_get (n := 36) (k := 0) dX8_chief_33 rfl jcl7 (Nat.le_of_ble_eq_true rfl) fl_X8_7 (by first | decide | omega) (by first | assumption | rfl) (by rfl) ?_
  refine j_iload_n1 (n := 37) dX8_chief_36 rfl ?_
  refine j_iald_n (n := 38) dX8_chief_37 rfl (by first | decide | omega) (by first | assumption | rfl) (by decide) (by first | assumption | omega) ?_
  refine j_cV2 (n := 41) (con_X8_layKind h34 k2 k3 b2.1 e2 (ok.b hj) k1 (by omega) k3b) dX8_chief_38 rfl cal_X8_layKind ml_X8_184 (Nat.le_of_ble_eq_true rfl) (by first | decide | omega) rfl rfl (Nat.le_of_ble_eq_true rfl) (by first | assumption | rfl) ?_
  rintro _ M2 ⟨rfl, od2, f2, rfl, hf2⟩
  have m34 : MK g M q (nI (m + 1)) (chF (sn j) (sT j)) (kinF (sn j) (sT j)) od2 f2 34 = .inr (7, oMod g (qK q (nI (m + 1)) (lN (chF (sn j) (sT j))) (nI (kinF (sn j) (sT j))))) := rfl
  refine j_aload_n0 (n := 42) dX8_chief_41 rfl ?_
  refine j_get (n := 45) (k := 14) dX8_chief_42 rfl jcl7 (Nat.le_of_ble_eq_true rfl) fl_X8_165 (by first | decide | omega) (by first | assumption | rfl) (by rfl) ?_
  refine j_lret dX8_chief_45 rfl ?_
  exact ⟨by simp [sp_chief, e1, c1, show ¬ 4 < sn j by omega]; rfl, _, m + 1, by omega, RI_MK ri hf2, rfl, rFr_MK⟩
set_option maxRecDepth 100000 in
theorem con_X8_kin {g : jG} {M : jMem} {q : jMq} {m : Nat} {sn sT : Nat → Nat} (ri : RI g M q m) (hm : m + 256 < 2 ^ 31) (h35 : M 35 = iA g 8 fun j => nI (sn j)) (h36 : M 36 = lA g 8 fun j => lN (sT j)) (ok : slOK sn sT) {s : Int32} : Con g jX8_kin 3 [.ref (jA g 34), .int s] M (fun v M2 => v = some (.int (sp_kin sn sT s)) ∧ rP g M M2 q m) := by
  obtain ⟨h34, r2, r3, k1, ⟨od, k2⟩, ⟨f, k3, k3b⟩, k4, k5, k6⟩ := id ri
  refine con_of (l := [some (.ref (jA g 34)), some (.int s)]) (by decide) (Nat.le_of_ble_eq_true rfl) rfl ?_
  refine j_iload_n1 (n := 1) dX8_kin_0 rfl ?_
  refine j_fnS1 (n := 4) con_X8_isSlot dX8_kin_1 rfl cal_X8_isSlot ml_X8_88 (Nat.le_of_ble_eq_true rfl) (Nat.le_of_ble_eq_true rfl) ?_
  refine j_bif_ne (n := 7) 9 dX8_kin_4 rfl (by decide) (fun e1 => ?_) (fun e1 => ?_)
  rotate_left
  · refine j_iconst (n := 8) (-1) dX8_kin_7 rfl (by decide) ?_
    refine j_iret dX8_kin_8 rfl ?_
    exact ⟨by simp [sp_kin, e1], rP.rf ri⟩
  obtain ⟨j, hj, rfl⟩ := isSl_of e1
  have c1 := nI_clamp (show j < 2 ^ 31 by omega)
  have b2 := ok j hj
  refine j_aload_n0 (n := 10) dX8_kin_9 rfl ?_
  refine j_get (n := 13) (k := 0) dX8_kin_10 rfl jcl7 (Nat.le_of_ble_eq_true rfl) fl_X8_7 (by first | decide | omega) (by first | assumption | rfl) (by rfl) ?_
  refine j_iload_n1 (n := 14) dX8_kin_13 rfl ?_
  refine j_iald_n (n := 15) dX8_kin_14 rfl (by first | decide | omega) (by first | assumption | rfl) (by decide) (by first | assumption | omega) ?_
  refine j_iconst (n := 16) (nI 4) dX8_kin_15 rfl (by decide) ?_
  refine j_nicmp_le (n := 19) 22 dX8_kin_16 rfl (by decide) (by omega) (by omega) (fun e2 => ?_) (fun e2 => ?_)
  rotate_left
  · refine j_bipush (n := 21) (-3) dX8_kin_19 rfl (by decide) ?_
    refine j_iret dX8_kin_21 rfl ?_
    exact ⟨by simp [sp_kin, e1, c1, show 4 < sn j by omega], rP.rf ri⟩
  refine j_aload_n0 (n := 23) dX8_kin_22 rfl ?_
  refine j_aload_n0 (n := 24) dX8_kin_23 rfl ?_
  refine j_get (n := 27) (k := 1) dX8_kin_24 rfl jcl7 (Nat.le_of_ble_eq_true rfl) fl_X8_13 (by first | decide | omega) (by first | assumption | rfl) (by rfl) ?_
  refine j_iload_n1 (n := 28) dX8_kin_27 rfl ?_
  refine j_lald_n (n := 29) dX8_kin_28 rfl (by first | decide | omega) (by first | assumption | rfl) (by decide) (by first | assumption | omega) ?_
  refine j_aload_n0 (n := 30) dX8_kin_29 rfl ?_
  refine j_get (n := 33) (k := 0) dX8_kin_30 rfl jcl7 (Nat.le_of_ble_eq_true rfl) fl_X8_7 (by first | decide | omega) (by first | assumption | rfl) (by rfl) ?_
  refine j_iload_n1 (n := 34) dX8_kin_33 rfl ?_
  refine j_iald_n (n := 35) dX8_kin_34 rfl (by first | decide | omega) (by first | assumption | rfl) (by decide) (by first | assumption | omega) ?_
  refine j_cV2 (n := 38) (con_X8_layKind h34 k2 k3 b2.1 e2 (ok.b hj) k1 (by omega) k3b) dX8_kin_35 rfl cal_X8_layKind ml_X8_184 (Nat.le_of_ble_eq_true rfl) (by first | decide | omega) rfl rfl (Nat.le_of_ble_eq_true rfl) (by first | assumption | rfl) ?_
  rintro _ M2 ⟨rfl, od2, f2, rfl, hf2⟩
  have m34 : MK g M q (nI (m + 1)) (chF (sn j) (sT j)) (kinF (sn j) (sT j)) od2 f2 34 = .inr (7, oMod g (qK q (nI (m + 1)) (lN (chF (sn j) (sT j))) (nI (kinF (sn j) (sT j))))) := rfl
  refine j_aload_n0 (n := 39) dX8_kin_38 rfl ?_
  refine j_get (n := 42) (k := 15) dX8_kin_39 rfl jcl7 (Nat.le_of_ble_eq_true rfl) fl_X8_171 (by first | decide | omega) (by first | assumption | rfl) (by rfl) ?_
  refine j_iret dX8_kin_42 rfl ?_
  exact ⟨by simp [sp_kin, e1, c1, show ¬ 4 < sn j by omega]; rfl, _, m + 1, by omega, RI_MK ri hf2, rfl, rFr_MK⟩
/-- while gates are counted: all but the solver's cells and the counts stand -/
def gLp (g : jG) (M M2 : jMem) (n c : Nat) (gm : Nat → Int32) : Prop := (∀ k, k ≠ 37 → k ≠ 38 → k ≠ 39 → k ≠ 44 → M2 k = M k) ∧ (∃ th hf wt, M2 37 = iA g 32 th ∧ M2 38 = zA g 243 hf ∧ M2 39 = iA g 4 wt) ∧ ∃ gm2, M2 44 = iA g 5 gm2 ∧ gm2 n = nI c ∧ ∀ k, k ≠ n → gm2 k = gm k
def qM1 (q : jMq) : jMq := (-1, q.2)
theorem mS_of {g : jG} {M M2 : jMem} (hm : mS g M) (h : ∃ th hf wt, M2 37 = iA g 32 th ∧ M2 38 = zA g 243 hf ∧ M2 39 = iA g 4 wt) (h40 : M2 40 = M 40) (h41 : M2 41 = M 41) : mS g M2 := by
  obtain ⟨th, hf, wt, a1, a2, a3⟩ := h
  obtain ⟨_, _, _, sz, wv, _, _, _, b4, b5⟩ := hm
  exact ⟨th, hf, wt, sz, wv, a1, a2, a3, h40.trans b4, h41.trans b5⟩
set_option maxRecDepth 100000 in
theorem con_X8_gates {g : jG} {M : jMem} {q : jMq} {m : Nat} (ri : RI g M q m) {x : Int32} : Con g jX8_gates 3 [.ref (jA g 34), .int x] M (fun v M2 => v = some (.int (sp_gates x)) ∧ rP g M M2 q m) := by
  obtain ⟨h34, r2, r3, k1, k2, k3, ⟨gm, k4, k4b⟩, k5, k6⟩ := id ri
  refine con_of (l := [some (.ref (jA g 34)), some (.int x), none, none]) (by decide) (Nat.le_of_ble_eq_true rfl) rfl ?_
  refine j_iload_n1 (n := 1) dX8_gates_0 rfl ?_
  refine j_i2l (n := 2) dX8_gates_1 rfl ?_
  refine j_lconst (n := 3) (lN 1) dX8_gates_2 rfl rfl ?_
  refine j_ldc2 (n := 6) dX8_gates_3 rfl cl_X8_187 ?_
  refine j_fnS3 (n := 9) con_X8_in dX8_gates_6 rfl cal_X8_in ml_X8_76 (Nat.le_of_ble_eq_true rfl) (Nat.le_of_ble_eq_true rfl) ?_
  have e5 : decide (lN 1 ≤ x.toInt64 ∧ x.toInt64 ≤ 4) = isTo 4 x := by
    have w4 : (4 : Int64) = (nI 4).toInt64 := by decide
    rw [wide1, w4, wide_in]
    rfl
  rw [e5]
  refine j_bif_ne (n := 12) 15 dX8_gates_9 rfl (by decide) (fun e1 => ?_) (fun e1 => ?_)
  rotate_left
  · refine j_bipush (n := 14) (-2) dX8_gates_12 rfl (by decide) ?_
    refine j_iret dX8_gates_14 rfl ?_
    exact ⟨by simp [sp_gates, e1], rP.rf ri⟩
  obtain ⟨n, hn1, hn4, rfl⟩ := isTo_of (by decide) e1
  have cn := nI_clamp (show n < 2 ^ 31 by omega)
  have h65 := pw65 hn4
  have hpos : 0 < 2 ^ 2 ^ n := Nat.two_pow_pos _
  have hsp : sp_gates (nI n) = nI (gatesF n) := by simp [sp_gates, e1, cn]
  rw [hsp]
  have h71 : ∀ (M2 : jMem) (x2 : Option Value), gLp g M M2 n (gatesF n) gm → J g jX8_gates 3 (fun v M2 => v = some (.int (nI (gatesF n))) ∧ rP g M M2 q m) 71 [some (.ref (jA g 34)), some (.int (nI n)), x2, none] [] M2 := by
    rintro M2 x2 ⟨f1, f2, gm2, f3, f4, f5⟩
    have m34 : M2 34 = .inr (7, oMod g q) := (f1 34 (by decide) (by decide) (by decide) (by decide)).trans h34
    refine j_aload_n0 (n := 72) dX8_gates_71 rfl ?_
    refine j_ldc2 (n := 75) dX8_gates_72 rfl cl_X8_27 ?_
    refine j_put (n := 78) (k := 5) (fs2 := oMod g (qM1 q)) dX8_gates_75 rfl jcl7 tyX8_ok nmX8 (Nat.le_of_ble_eq_true rfl) rfl (tyX8_ok 5 (Nat.le_of_ble_eq_true rfl)) fl_X8_29 (by rfl) (by rfl) (by first | decide | omega) (by first | assumption | rfl) (Nat.le_of_ble_eq_true rfl) (by rfl) ?_
    have m34b : va_up M2 34 (.inr (7, oMod g (qM1 q))) 34 = .inr (7, oMod g (qM1 q)) := va_at_eq
    have m44 : va_up M2 34 (.inr (7, oMod g (qM1 q))) 44 = iA g 5 gm2 := f3
    refine j_aload_n0 (n := 79) dX8_gates_78 rfl ?_
    refine j_get (n := 82) (k := 16) dX8_gates_79 rfl jcl7 (Nat.le_of_ble_eq_true rfl) fl_X8_46 (by first | decide | omega) (by first | assumption | rfl) (by rfl) ?_
    refine j_iload_n1 (n := 83) dX8_gates_82 rfl ?_
    refine j_iald_n (n := 84) dX8_gates_83 rfl (by first | decide | omega) (by first | assumption | rfl) (by decide) (by first | assumption | omega) ?_
    rw [f4]
    refine j_iret dX8_gates_84 rfl ?_
    have fr : rFr M (va_up M2 34 (.inr (7, oMod g (qM1 q)))) := rFr.up (fun k hk => f1 k (by omega) (by omega) (by omega) (by omega)) (Or.inl rfl)
    refine ⟨rfl, qM1 q, m, by omega, ⟨m34b, ?_, cInv_m1 rfl, k1, ?_, ?_, ⟨gm2, m44, fun n2 h1 h2 => ?_⟩, ?_, ?_⟩, rfl, fr⟩
    · exact mS_of (M := M) r2 f2 (f1 40 (by decide) (by decide) (by decide) (by decide)) (f1 41 (by decide) (by decide) (by decide) (by decide))
    · rw [show va_up M2 34 (.inr (7, oMod g (qM1 q))) 42 = M 42 from f1 42 (by decide) (by decide) (by decide) (by decide)]
      exact k2
    · rw [show va_up M2 34 (.inr (7, oMod g (qM1 q))) 43 = M 43 from f1 43 (by decide) (by decide) (by decide) (by decide)]
      exact k3
    · by_cases z : n2 = n
      · rw [z, f4]
        exact Or.inr rfl
      · rw [f5 n2 z]
        exact k4b n2 h1 h2
    · rw [show va_up M2 34 (.inr (7, oMod g (qM1 q))) 45 = M 45 from f1 45 (by decide) (by decide) (by decide) (by decide)]
      exact k5
    · rw [show va_up M2 34 (.inr (7, oMod g (qM1 q))) 46 = M 46 from f1 46 (by decide) (by decide) (by decide) (by decide)]
      exact k6
  have hM0 : ∃ th hf wt, M 37 = iA g 32 th ∧ M 38 = zA g 243 hf ∧ M 39 = iA g 4 wt := by
    obtain ⟨th, hf, wt, sz, wv, a1, a2, a3, _, _⟩ := r2
    exact ⟨th, hf, wt, a1, a2, a3⟩
  refine j_lconst (n := 16) (lN 0) dX8_gates_15 rfl rfl ?_
  refine j_lstore_n2 (n := 17) dX8_gates_16 rfl (Nat.le_of_ble_eq_true rfl) rfl ?_
  have key : ∀ t, t ≤ 2 ^ 2 ^ n → ∀ M2, (0 < t ∨ gm n = nI 0) → gLp g M M2 n (cnt t (isG n)) gm → J g jX8_gates 3 (fun v M2 => v = some (.int (nI (gatesF n))) ∧ rP g M M2 q m) 17 [some (.ref (jA g 34)), some (.int (nI n)), some (.long (lN t)), none] [] M2 := by
    refine j_for ?_ ?_
    · intro M2 _ hl
      refine j_lload_n2 (n := 18) dX8_gates_17 rfl ?_
      refine j_iload_n1 (n := 19) dX8_gates_18 rfl ?_
      refine j_fnS1 (n := 22) (con_X8_whole (by omega)) dX8_gates_19 rfl cal_X8_whole ml_X8_94 (Nat.le_of_ble_eq_true rfl) (Nat.le_of_ble_eq_true rfl) ?_
      refine j_lcmp (n := 23) dX8_gates_22 rfl ?_
      refine j_lif_gt (n := 26) 71 dX8_gates_23 rfl (by decide) (fun e2 => ?_) (fun e2 => ?_)
      rotate_left
      · exact (e2 ((pk_lLT (by omega) (by omega)).mpr (by omega))).elim
      exact h71 M2 _ hl
    · intro t ht ih M2 h0 hl
      obtain ⟨f1, ⟨th, hf, wt, f2a, f2b, f2c⟩, gm2, f3, f4, f5⟩ := hl
      have m34 : M2 34 = .inr (7, oMod g q) := (f1 34 (by decide) (by decide) (by decide) (by decide)).trans h34
      refine j_lload_n2 (n := 18) dX8_gates_17 rfl ?_
      refine j_iload_n1 (n := 19) dX8_gates_18 rfl ?_
      refine j_fnS1 (n := 22) (con_X8_whole (by omega)) dX8_gates_19 rfl cal_X8_whole ml_X8_94 (Nat.le_of_ble_eq_true rfl) (Nat.le_of_ble_eq_true rfl) ?_
      refine j_lcmp (n := 23) dX8_gates_22 rfl ?_
      refine j_lif_gt (n := 26) 71 dX8_gates_23 rfl (by decide) (fun e2 => ?_) (fun e2 => ?_)
      · have := (pk_lLT (by omega) (by omega)).mp e2
        omega
      refine j_aload_n0 (n := 27) dX8_gates_26 rfl ?_
      refine j_get (n := 30) (k := 16) dX8_gates_27 rfl jcl7 (Nat.le_of_ble_eq_true rfl) fl_X8_46 (by first | decide | omega) (by first | assumption | rfl) (by rfl) ?_
      refine j_iload_n1 (n := 31) dX8_gates_30 rfl ?_
      refine j_iald_n (n := 32) dX8_gates_31 rfl (by first | decide | omega) (by first | assumption | rfl) (by decide) (by first | assumption | omega) ?_
      rw [f4]
      have h41 : J g jX8_gates 3 (fun v M2 => v = some (.int (nI (gatesF n))) ∧ rP g M M2 q m) 41 [some (.ref (jA g 34)), some (.int (nI n)), some (.long (lN t)), none] [] M2 := by
        refine j_aload_n0 (n := 42) dX8_gates_41 rfl ?_
        refine j_get (n := 45) (k := 16) dX8_gates_42 rfl jcl7 (Nat.le_of_ble_eq_true rfl) fl_X8_46 (by first | decide | omega) (by first | assumption | rfl) (by rfl) ?_
        refine j_iload_n1 (n := 46) dX8_gates_45 rfl ?_
        refine j_dup2_11 (n := 47) dX8_gates_46 rfl rfl rfl ?_
        refine j_iald_n (n := 48) dX8_gates_47 rfl (by first | decide | omega) (by first | assumption | rfl) (by decide) (by first | assumption | omega) ?_
        rw [f4]
        refine j_aload_n0 (n := 49) dX8_gates_48 rfl ?_
        refine j_lload_n2 (n := 50) dX8_gates_49 rfl ?_
        refine j_iload_n1 (n := 51) dX8_gates_50 rfl ?_
        refine j_cV2 (n := 54) (con_X8_isGate m34 f2a f2b f2c (by omega) hn1 (by omega)) dX8_gates_51 rfl cal_X8_isGate ml_X8_139 (Nat.le_of_ble_eq_true rfl) (by first | decide | omega) rfl rfl (Nat.le_of_ble_eq_true rfl) (by first | assumption | rfl) ?_
        rintro _ M3 ⟨rfl, th2, hf2, wt2, rfl, _, _⟩
        have h62 : J g jX8_gates 3 (fun v M2 => v = some (.int (nI (gatesF n))) ∧ rP g M M2 q m) 62 [some (.ref (jA g 34)), some (.int (nI n)), some (.long (lN t)), none] [.int (nI (if isG n t then 1 else 0)), .int (nI (cnt t (isG n))), .int (nI n), .ref (jA g 44)] (va_up (va_up (va_up M2 37 (iA g 32 th2)) 38 (zA g 243 hf2)) 39 (iA g 4 wt2)) := by
          have m44 : va_up (va_up (va_up M2 37 (iA g 32 th2)) 38 (zA g 243 hf2)) 39 (iA g 4 wt2) 44 = iA g 5 gm2 := f3
          refine j_iadd (n := 63) dX8_gates_62 rfl ?_
          refine j_topi (nI (cnt (t + 1) (isG n))) (nI_add _ _) ?_
          refine j_iast_n (n := 64) dX8_gates_63 rfl (by first | decide | omega) (by first | assumption | rfl) (by decide) (by first | assumption | omega) ?_
          refine j_lload_n2 (n := 65) dX8_gates_64 rfl ?_
          refine j_lconst (n := 66) (lN 1) dX8_gates_65 rfl rfl ?_
          refine j_ladd (n := 67) dX8_gates_66 rfl ?_
          refine j_topl (lN (t + 1)) (lN_add _ _) ?_
          refine j_lstore_n2 (n := 68) dX8_gates_67 rfl (Nat.le_of_ble_eq_true rfl) rfl ?_
          refine j_goto 17 dX8_gates_68 (by decide) ?_
          refine ih _ (Or.inl (Nat.succ_pos _)) ⟨fun k z1 z2 z3 z4 => ?_, ⟨th2, hf2, wt2, rfl, rfl, rfl⟩, upd gm2 n (nI (cnt (t + 1) (isG n))), va_at_eq, if_pos rfl, fun k z => ?_⟩
          · rw [va_at_ne z4, va_at_ne z3, va_at_ne z2, va_at_ne z1]
            exact f1 k z1 z2 z3 z4
          · exact (if_neg z).trans (f5 k z)
        refine j_bif_eq (n := 57) 61 dX8_gates_54 rfl (by decide) (fun e3 => ?_) (fun e3 => ?_)
        · refine j_iconst (n := 62) (nI 0) dX8_gates_61 rfl (by decide) ?_
          rw [e3] at h62
          exact h62
        · refine j_iconst (n := 58) (nI 1) dX8_gates_57 rfl (by decide) ?_
          refine j_goto 62 dX8_gates_58 (by decide) ?_
          rw [e3] at h62
          exact h62
      refine j_if_eq (n := 35) 41 dX8_gates_32 rfl (by decide) (fun e3 => h41) (fun e3 => ?_)
      refine j_lload_n2 (n := 36) dX8_gates_35 rfl ?_
      refine j_lconst (n := 37) (lN 0) dX8_gates_36 rfl rfl ?_
      refine j_lcmp (n := 38) dX8_gates_37 rfl ?_
      refine j_lif_le (n := 41) 71 dX8_gates_38 rfl (by decide) (fun e4 => ?_) (fun e4 => ?_)
      · have e5 : t ≤ 0 := (pk_lLE (by omega) (by omega)).mp e4
        have e6 : t = 0 := by omega
        subst e6
        rcases h0 with z | z
        · omega
        · exact (e3 rfl).elim
      · exact h41
  rcases k4b n hn1 hn4 with z | z
  · exact key 0 (Nat.zero_le _) M (Or.inr z) ⟨fun _ _ _ _ _ => rfl, hM0, gm, k4, z, fun _ _ => rfl⟩
  · have h22 := pk_lLT (a := 2 ^ 2 ^ n - 1) (b := 0) (by omega) (by omega)
    refine j_lload_n2 (n := 18) dX8_gates_17 rfl ?_
    refine j_iload_n1 (n := 19) dX8_gates_18 rfl ?_
    refine j_fnS1 (n := 22) (con_X8_whole (by omega)) dX8_gates_19 rfl cal_X8_whole ml_X8_94 (Nat.le_of_ble_eq_true rfl) (Nat.le_of_ble_eq_true rfl) ?_
    refine j_lcmp (n := 23) dX8_gates_22 rfl ?_
    refine j_lif_gt (n := 26) 71 dX8_gates_23 rfl (by decide) (fun e2 => ?_) (fun e2 => ?_)
    · have := h22.mp e2
      omega
    refine j_aload_n0 (n := 27) dX8_gates_26 rfl ?_
    refine j_get (n := 30) (k := 16) dX8_gates_27 rfl jcl7 (Nat.le_of_ble_eq_true rfl) fl_X8_46 (by first | decide | omega) (by first | assumption | rfl) (by rfl) ?_
    refine j_iload_n1 (n := 31) dX8_gates_30 rfl ?_
    refine j_iald_n (n := 32) dX8_gates_31 rfl (by first | decide | omega) (by first | assumption | rfl) (by decide) (by first | assumption | omega) ?_
    rw [z]
    refine j_if_eq (n := 35) 41 dX8_gates_32 rfl (by decide) (fun e3 => ?_) (fun e3 => ?_)
    · have z2 : gm n = nI 0 := by rw [z]; exact e3
      have l0 := key 0 (Nat.zero_le _) M (Or.inr z2) ⟨fun _ _ _ _ _ => rfl, hM0, gm, k4, z2, fun _ _ => rfl⟩
      exfalso
      have hg := gatesF_v
      rcases (show n = 1 ∨ n = 2 ∨ n = 3 ∨ n = 4 by omega) with y | y | y | y <;> subst y
      · rw [hg.1] at e3; exact absurd e3 (by decide)
      · rw [hg.2.1] at e3; exact absurd e3 (by decide)
      · rw [hg.2.2.1] at e3; exact absurd e3 (by decide)
      · rw [hg.2.2.2] at e3; exact absurd e3 (by decide)
    refine j_lload_n2 (n := 36) dX8_gates_35 rfl ?_
    refine j_lconst (n := 37) (lN 0) dX8_gates_36 rfl rfl ?_
    refine j_lcmp (n := 38) dX8_gates_37 rfl ?_
    refine j_lif_le (n := 41) 71 dX8_gates_38 rfl (by decide) (fun e4 => ?_) (fun e4 => ?_)
    · exact h71 M _ ⟨fun _ _ _ _ _ => rfl, hM0, gm, k4, z, fun _ _ => rfl⟩
    · exact (e4 ((pk_lLE (by omega) (by omega)).mpr (Nat.le_refl _))).elim
