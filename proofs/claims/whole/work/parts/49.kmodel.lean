/-- the least of a list and one more -/
def mn (x : Nat) (L : List Nat) : Nat := L.foldl (fun a b => if b < a then b else a) x
theorem mn_app (x : Nat) (L : List Nat) (b : Nat) : mn x (L ++ [b]) = if b < mn x L then b else mn x L := by
  unfold mn
  rw [List.foldl_append]
  rfl
theorem mn_spec : ∀ (L : List Nat) (x : Nat), mn x L ≤ x ∧ (∀ u, u ∈ L → mn x L ≤ u) ∧ (mn x L = x ∨ mn x L ∈ L)
  | [], x => ⟨Nat.le_refl _, fun u h => (List.not_mem_nil h).elim, Or.inl rfl⟩
  | a :: L, x => by
    have h := mn_spec L (if a < x then a else x)
    have e : mn x (a :: L) = mn (if a < x then a else x) L := rfl
    rw [e]
    obtain ⟨h1, h2, h3⟩ := h
    by_cases zz : a < x
    · rw [if_pos zz] at h1 h2 h3 ⊢
      refine ⟨by omega, fun u hu => ?_, ?_⟩
      · rcases List.mem_cons.mp hu with z | z
        · omega
        · exact h2 u z
      · rcases h3 with z | z
        · rw [z]
          exact Or.inr List.mem_cons_self
        · exact Or.inr (List.mem_cons_of_mem _ z)
    · rw [if_neg zz] at h1 h2 h3 ⊢
      refine ⟨by omega, fun u hu => ?_, ?_⟩
      · rcases List.mem_cons.mp hu with z | z
        · omega
        · exact h2 u z
      · rcases h3 with z | z
        · exact Or.inl z
        · exact Or.inr (List.mem_cons_of_mem _ z)
theorem cnt_upd1 {f : Nat → Bool} {b : Nat} (hf : f b = false) : ∀ {N : Nat}, b < N → cnt N (fun u => f u || decide (u = b)) = cnt N f + 1
  | 0, h => absurd h (Nat.not_lt_zero b)
  | N + 1, h => by
    show cnt N (fun u => f u || decide (u = b)) + (if (f N || decide (N = b)) then 1 else 0) = cnt N f + (if f N then 1 else 0) + 1
    rcases Nat.eq_or_lt_of_le (show b ≤ N by omega) with e | e
    · subst e
      have : cnt b (fun u => f u || decide (u = b)) = cnt b f := cnt_ext (fun r hr => by simp [show ¬ r = b by omega])
      rw [this, hf]
      simp
    · have := cnt_upd1 hf e
      rw [this]
      simp [show ¬ N = b by omega]
      omega
theorem dis_app {N b : Nat} {L : List Nat} (hb : b < N) : dis N (L ++ [b]) = if b ∈ L then dis N L else dis N L + 1 := by
  unfold dis
  have e : ∀ u, decide (u ∈ L ++ [b]) = (decide (u ∈ L) || decide (u = b)) := fun u => by simp [List.mem_append]
  rw [cnt_ext (f2 := fun u => decide (u ∈ L) || decide (u = b)) (fun u _ => e u)]
  split
  · rename_i h
    apply cnt_ext
    intro u _
    by_cases z : u = b
    · simp [z, h]
    · simp [z]
  · rename_i h
    exact cnt_upd1 (by simp [h]) hb
theorem dis_le (N : Nat) (L : List Nat) : dis N L ≤ N := cnt_le _ _
def chF (n t : Nat) : Nat := mn (2 ^ 2 ^ n - 1) (LMl n t)
def kinF (n t : Nat) : Nat := dis (2 ^ 2 ^ n) (LMl n t)
set_option maxRecDepth 100000 in
theorem con_X8_changed {g : jG} {M : jMem} {q : jMq} {n t : Nat} {od : Nat → Int32} {o : Nat → Nat} (h34 : M 34 = .inr (7, oMod g q)) (h42 : M 42 = iA g 4 od) (hn : n ≤ 4) (ht : t < 2 ^ 32) (ho : ∀ i, i < n → od i = nI (o i) ∧ o i < n) : Fn g jX8_changed 1 [.ref (jA g 34), .long (lN t), .int (nI n)] M (.long (lN (chg n t o))) := by
  have h16 := pw16 hn
  have hfr : ∀ r i, i ≤ n → frm o r i < 16 := by
    intro r i
    induction i with
    | zero => intro _; simp [frm]
    | succ i ih =>
      intro hi
      unfold frm
      have h1 := ih (by omega)
      have h2 := (ho i (by omega)).2
      refine Nat.or_lt_two_pow (n := 4) h1 ?_
      split
      · exact Nat.pow_lt_pow_right (by omega) (by omega)
      · decide
  refine con_of (l := [some (.ref (jA g 34)), some (.long (lN t)), none, some (.int (nI n)), none, none, none, none, none]) (by decide) (Nat.le_of_ble_eq_true rfl) rfl ?_
  refine j_lconst (n := 1) (lN 0) dX8_changed_0 rfl rfl ?_
  refine j_lstore4 (n := 3) dX8_changed_1 rfl (Nat.le_of_ble_eq_true rfl) rfl ?_
  refine j_iconst (n := 4) (nI 0) dX8_changed_3 rfl (by decide) ?_
  refine j_istore6 (n := 6) dX8_changed_4 rfl (Nat.le_of_ble_eq_true rfl) rfl ?_
  have key : ∀ r, r ≤ 2 ^ n → ∀ x7 x8 : Option Value, jNL x7 = true → jNL x8 = true → J g jX8_changed 1 (fun v M2 => v = some (.long (lN (chg n t o))) ∧ M2 = M) 6 [some (.ref (jA g 34)), some (.long (lN t)), none, some (.int (nI n)), some (.long (lN (mkT r (fun r => t.testBit (frm o r n))))), none, some (.int (nI r)), x7, x8] [] M := by
    refine j_for ?_ ?_
    · intro x7 x8 hx7 hx8
      refine j_iload6 (n := 8) dX8_changed_6 rfl ?_
      refine j_iconst (n := 9) (nI 1) dX8_changed_8 rfl (by decide) ?_
      refine j_iload_n3 (n := 10) dX8_changed_9 rfl ?_
      refine j_ishl (n := 11) dX8_changed_10 rfl ?_
      refine j_topi (nI (2 ^ n)) (ai_shl1 (by omega)) ?_
      refine j_nicmp_ge (n := 14) 80 dX8_changed_11 rfl (by decide) (by omega) (by omega) (fun h => ?_) (fun h => ?_)
      rotate_left
      · omega
      refine j_lload4 (n := 82) dX8_changed_80 rfl ?_
      refine j_lret dX8_changed_82 rfl ?_
      exact ⟨rfl, rfl⟩
    · intro r hr ih x7 x8 hx7 hx8
      refine j_iload6 (n := 8) dX8_changed_6 rfl ?_
      refine j_iconst (n := 9) (nI 1) dX8_changed_8 rfl (by decide) ?_
      refine j_iload_n3 (n := 10) dX8_changed_9 rfl ?_
      refine j_ishl (n := 11) dX8_changed_10 rfl ?_
      refine j_topi (nI (2 ^ n)) (ai_shl1 (by omega)) ?_
      refine j_nicmp_ge (n := 14) 80 dX8_changed_11 rfl (by decide) (by omega) (by omega) (fun h => ?_) (fun h => ?_)
      · omega
      refine j_iconst (n := 15) (nI 0) dX8_changed_14 rfl (by decide) ?_
      refine j_istore7 (n := 17) dX8_changed_15 rfl (Nat.le_of_ble_eq_true rfl) rfl ?_
      refine j_iconst (n := 18) (nI 0) dX8_changed_17 rfl (by decide) ?_
      refine j_istore8 (n := 20) dX8_changed_18 rfl (Nat.le_of_ble_eq_true rfl) rfl ?_
      have inner : ∀ i, i ≤ n → J g jX8_changed 1 (fun v M2 => v = some (.long (lN (chg n t o))) ∧ M2 = M) 20 [some (.ref (jA g 34)), some (.long (lN t)), none, some (.int (nI n)), some (.long (lN (mkT r (fun r => t.testBit (frm o r n))))), none, some (.int (nI r)), some (.int (nI (frm o r i))), some (.int (nI i))] [] M := by
        refine j_for ?_ ?_
        · refine j_iload8 (n := 22) dX8_changed_20 rfl ?_
          refine j_iload_n3 (n := 23) dX8_changed_22 rfl ?_
          refine j_nicmp_ge (n := 26) 52 dX8_changed_23 rfl (by decide) (by omega) (by omega) (fun h => ?_) (fun h => ?_)
          rotate_left
          · omega
          have hf := hfr r n (Nat.le_refl _)
          refine j_lload4 (n := 54) dX8_changed_52 rfl ?_
          refine j_lload_n1 (n := 55) dX8_changed_54 rfl ?_
          refine j_iload7 (n := 57) dX8_changed_55 rfl ?_
          refine j_fnS2 (n := 60) (con_X8_is (by omega) (by omega)) dX8_changed_57 rfl cal_X8_is ml_X8_80 (Nat.le_of_ble_eq_true rfl) (Nat.le_of_ble_eq_true rfl) ?_
          have h71 : J g jX8_changed 1 (fun v M2 => v = some (.long (lN (chg n t o))) ∧ M2 = M) 71 [some (.ref (jA g 34)), some (.long (lN t)), none, some (.int (nI n)), some (.long (lN (mkT r (fun r => t.testBit (frm o r n))))), none, some (.int (nI r)), some (.int (nI (frm o r n))), some (.int (nI n))] [.long (lN (if t.testBit (frm o r n) then 2 ^ r else 0)), .long (lN (mkT r (fun r => t.testBit (frm o r n))))] M := by
            refine j_lor (n := 72) dX8_changed_71 rfl ?_
            have em : lN (mkT r (fun r => t.testBit (frm o r n))) ||| lN (if t.testBit (frm o r n) then 2 ^ r else 0) = lN (mkT (r + 1) (fun r => t.testBit (frm o r n))) := by
              rw [fb_orL]
              show lN _ = lN (mkT r (fun r => t.testBit (frm o r n)) ||| (if t.testBit (frm o r n) then 2 ^ r else 0))
              rfl
            refine j_topl _ em ?_
            refine j_lstore4 (n := 74) dX8_changed_72 rfl (Nat.le_of_ble_eq_true rfl) rfl ?_
            refine j_inc6 (n := 77) dX8_changed_74 rfl (Nat.le_of_ble_eq_true rfl) rfl ?_
            refine j_goto 6 dX8_changed_77 (by decide) ?_
            exact ih _ _ rfl rfl
          refine j_bif_eq (n := 63) 70 dX8_changed_60 rfl (by decide) (fun e1 => ?_) (fun e1 => ?_)
          · refine j_lconst (n := 71) (lN 0) dX8_changed_70 rfl rfl ?_
            rw [e1] at h71
            exact h71
          · refine j_lconst (n := 64) (lN 1) dX8_changed_63 rfl rfl ?_
            refine j_iload6 (n := 66) dX8_changed_64 rfl ?_
            refine j_lshl (n := 67) dX8_changed_66 rfl ?_
            refine j_topl (lN (2 ^ r)) (al_shl1 (by omega)) ?_
            refine j_goto 71 dX8_changed_67 (by decide) ?_
            rw [e1] at h71
            exact h71
        · intro i hi ih2
          have hoi := ho i hi
          refine j_iload8 (n := 22) dX8_changed_20 rfl ?_
          refine j_iload_n3 (n := 23) dX8_changed_22 rfl ?_
          refine j_nicmp_ge (n := 26) 52 dX8_changed_23 rfl (by decide) (by omega) (by omega) (fun h => ?_) (fun h => ?_)
          · omega
          refine j_iload7 (n := 28) dX8_changed_26 rfl ?_
          refine j_iload6 (n := 30) dX8_changed_28 rfl ?_
          refine j_iload8 (n := 32) dX8_changed_30 rfl ?_
          refine j_ishr (n := 33) dX8_changed_32 rfl ?_
          refine j_iconst (n := 34) (nI 1) dX8_changed_33 rfl (by decide) ?_
          refine j_iand (n := 35) dX8_changed_34 rfl ?_
          refine j_topi (jB (r.testBit i)) (ai_bit (by omega) (by omega)) ?_
          refine j_aload_n0 (n := 36) dX8_changed_35 rfl ?_
          refine j_get (n := 39) (k := 11) dX8_changed_36 rfl jcl7 (Nat.le_of_ble_eq_true rfl) fl_X8_39 (by first | decide | omega) (by first | assumption | rfl) (by rfl) ?_
          refine j_iload8 (n := 41) dX8_changed_39 rfl ?_
          refine j_iald_n (n := 42) dX8_changed_41 rfl (by first | decide | omega) (by first | assumption | rfl) (by decide) (by first | assumption | omega) ?_
          rw [hoi.1, jB_nI]
          refine j_ishl (n := 43) dX8_changed_42 rfl ?_
          have h16o : 2 ^ o i ≤ 2 ^ 3 := Nat.pow_le_pow_right (by omega) (by omega)
          have es : nI (if r.testBit i then 1 else 0) <<< (nI (o i) &&& 31) = nI (if r.testBit i then 2 ^ o i else 0) := by
            cases r.testBit i
            · rw [if_neg Bool.false_ne_true, if_neg Bool.false_ne_true, ai_shl (by omega) (by omega), Nat.zero_mul]
            · rw [if_pos rfl, if_pos rfl, ai_shl1 (by omega)]
          refine j_topi _ es ?_
          refine j_ior (n := 44) dX8_changed_43 rfl ?_
          refine j_topi (nI (frm o r (i + 1))) (fa_or _ _) ?_
          refine j_istore7 (n := 46) dX8_changed_44 rfl (Nat.le_of_ble_eq_true rfl) rfl ?_
          refine j_inc8 (n := 49) dX8_changed_46 rfl (Nat.le_of_ble_eq_true rfl) rfl ?_
          refine j_goto 20 dX8_changed_49 (by decide) ?_
          exact ih2
      exact inner 0 (Nat.zero_le _)
  exact key 0 (Nat.zero_le _) none none rfl rfl
/-- the reference's kind state -/
def qK (q : jMq) (mk : Int32) (ch : Int64) (kn : Int32) : jMq := (q.1, q.2.1, q.2.2.1, q.2.2.2.1, mk, ch, kn, q.2.2.2.2.2.2.2)
def MK (g : jG) (M : jMem) (q : jMq) (mk : Int32) (ch kn : Nat) (od f : Nat → Int32) : jMem := va_up (va_up (va_up M 42 (iA g 4 od)) 43 (iA g 65536 f)) 34 (.inr (7, oMod g (qK q mk (lN ch) (nI kn))))
section MKS
variable {g : jG} {M : jMem} {q : jMq} {mk : Int32} {ch kn : Nat} {od f : Nat → Int32}
theorem MK_k {k : Nat} (h1 : k ≠ 34) (h2 : k ≠ 42) (h3 : k ≠ 43) : MK g M q mk ch kn od f k = M k := by
  unfold MK
  rw [va_at_ne h1, va_at_ne h3, va_at_ne h2]
theorem MK_eq {M2 : jMem} (h34 : M2 34 = .inr (7, oMod g (qK q mk (lN ch) (nI kn)))) (h42 : M2 42 = iA g 4 od) (h43 : M2 43 = iA g 65536 f) (hk : ∀ k, k ≠ 34 → k ≠ 42 → k ≠ 43 → M2 k = M k) : M2 = MK g M q mk ch kn od f := by
  funext k
  by_cases e1 : k = 34
  · rw [e1]; exact h34
  by_cases e2 : k = 42
  · rw [e2]; exact h42
  by_cases e3 : k = 43
  · rw [e3]; exact h43
  rw [MK_k e1 e2 e3]
  exact hk k e1 e2 e3
theorem MK_u34 {ch2 kn2 : Nat} : va_up (MK g M q mk ch kn od f) 34 (.inr (7, oMod g (qK q mk (lN ch2) (nI kn2)))) = MK g M q mk ch2 kn2 od f := by
  refine MK_eq va_at_eq rfl rfl (fun k h1 h2 h3 => ?_)
  rw [va_at_ne h1, MK_k h1 h2 h3]
theorem MK_u42 {od2 : Nat → Int32} : va_up (MK g M q mk ch kn od f) 42 (iA g 4 od2) = MK g M q mk ch kn od2 f := by
  refine MK_eq rfl va_at_eq rfl (fun k h1 h2 h3 => ?_)
  rw [va_at_ne h2, MK_k h1 h2 h3]
theorem MK_u43 {f2 : Nat → Int32} : va_up (MK g M q mk ch kn od f) 43 (iA g 65536 f2) = MK g M q mk ch kn od f2 := by
  refine MK_eq rfl rfl va_at_eq (fun k h1 h2 h3 => ?_)
  rw [va_at_ne h3, MK_k h1 h2 h3]
end MKS
/-- the marks: those of the list are new, the others are old -/
def mkOK (mk : Int32) (f0 f : Nat → Int32) (L : List Nat) : Prop := ∀ u, u < 65536 → (u ∈ L → f u = mk) ∧ (¬ u ∈ L → f u = f0 u)
set_option maxRecDepth 100000 in
theorem con_X8_meet {g : jG} {M : jMem} {q : jMq} {mk : Int32} {N W t : Nat} {L : List Nat} {od f0 f : Nat → Int32} (hN : N ≤ 65536) (hW : W < N) (hL : ∀ u, u ∈ L → u < N) (ht : t < N) (hf0 : ∀ u, u < 65536 → f0 u ≠ mk) (hf : mkOK mk f0 f L) : Con g jX8_meet 0 [.ref (jA g 34), .long (lN t)] (MK g M q mk (mn W L) (dis N L) od f) (fun v M2 => v = none ∧ ∃ f2, M2 = MK g M q mk (mn W (L ++ [t])) (dis N (L ++ [t])) od f2 ∧ mkOK mk f0 f2 (L ++ [t])) := by
  have hmn : mn W L < N := Nat.lt_of_le_of_lt (mn_spec L W).1 hW
  have hdl := dis_le N L
  have m34 : MK g M q mk (mn W L) (dis N L) od f 34 = .inr (7, oMod g (qK q mk (lN (mn W L)) (nI (dis N L)))) := rfl
  refine con_of (l := [some (.ref (jA g 34)), some (.long (lN t)), none]) (by decide) (Nat.le_of_ble_eq_true rfl) rfl ?_
  refine j_aload_n0 (n := 1) dX8_meet_0 rfl ?_
  refine j_lload_n1 (n := 2) dX8_meet_1 rfl ?_
  refine j_aload_n0 (n := 3) dX8_meet_2 rfl ?_
  refine j_get (n := 6) (k := 14) dX8_meet_3 rfl jcl7 (Nat.le_of_ble_eq_true rfl) fl_X8_165 (by first | decide | omega) (by first | assumption | rfl) (by rfl) ?_
  refine j_lcmp (n := 7) dX8_meet_6 rfl ?_
  have h18 : J g jX8_meet 0 (fun v M2 => v = none ∧ ∃ f2, M2 = MK g M q mk (mn W (L ++ [t])) (dis N (L ++ [t])) od f2 ∧ mkOK mk f0 f2 (L ++ [t])) 18 [some (.ref (jA g 34)), some (.long (lN t)), none] [.long (lN (mn W (L ++ [t]))), .ref (jA g 34)] (MK g M q mk (mn W L) (dis N L) od f) := by
    refine j_put (n := 21) (k := 14) (fs2 := oMod g (qK q mk (lN (mn W (L ++ [t]))) (nI (dis N L)))) dX8_meet_18 rfl jcl7 tyX8_ok nmX8 (Nat.le_of_ble_eq_true rfl) rfl (tyX8_ok 14 (Nat.le_of_ble_eq_true rfl)) fl_X8_165 (by rfl) (by rfl) (by first | decide | omega) (by first | assumption | rfl) (Nat.le_of_ble_eq_true rfl) (by rfl) ?_
    rw [MK_u34]
    have m34 : MK g M q mk (mn W (L ++ [t])) (dis N L) od f 34 = .inr (7, oMod g (qK q mk (lN (mn W (L ++ [t]))) (nI (dis N L)))) := rfl
    have m43 : MK g M q mk (mn W (L ++ [t])) (dis N L) od f 43 = iA g 65536 f := rfl
    refine j_aload_n0 (n := 22) dX8_meet_21 rfl ?_
    refine j_get (n := 25) (k := 12) dX8_meet_22 rfl jcl7 (Nat.le_of_ble_eq_true rfl) fl_X8_43 (by first | decide | omega) (by first | assumption | rfl) (by rfl) ?_
    refine j_lload_n1 (n := 26) dX8_meet_25 rfl ?_
    refine j_l2i (n := 27) dX8_meet_26 rfl ?_
    refine j_topi (nI t) (lN_i t) ?_
    refine j_iald_n (n := 28) dX8_meet_27 rfl (by first | decide | omega) (by first | assumption | rfl) (by decide) (by first | assumption | omega) ?_
    refine j_aload_n0 (n := 29) dX8_meet_28 rfl ?_
    refine j_get (n := 32) (k := 13) dX8_meet_29 rfl jcl7 (Nat.le_of_ble_eq_true rfl) fl_X8_168 (by first | decide | omega) (by first | assumption | rfl) (by rfl) ?_
    refine j_icmp_eq (n := 35) 56 dX8_meet_32 rfl (by decide) (fun e => ?_) (fun e => ?_)
    · have htL : t ∈ L := by
        rcases Classical.em (t ∈ L) with z | z
        · exact z
        · rw [(hf t (by omega)).2 z] at e
          exact (hf0 t (by omega) e).elim
      refine j_vret dX8_meet_56 rfl ?_
      refine ⟨rfl, f, ?_, fun u hu => ?_⟩
      · rw [dis_app ht, if_pos htL]
      · have h1 := hf u hu
        refine ⟨fun z => ?_, fun z => h1.2 (fun y => z (List.mem_append_left _ y))⟩
        rcases List.mem_append.mp z with y | y
        · exact h1.1 y
        · rw [List.mem_singleton.mp y]
          exact (hf t (by omega)).1 htL
    · have htL : ¬ t ∈ L := fun z => e ((hf t (by omega)).1 z)
      refine j_aload_n0 (n := 36) dX8_meet_35 rfl ?_
      refine j_get (n := 39) (k := 12) dX8_meet_36 rfl jcl7 (Nat.le_of_ble_eq_true rfl) fl_X8_43 (by first | decide | omega) (by first | assumption | rfl) (by rfl) ?_
      refine j_lload_n1 (n := 40) dX8_meet_39 rfl ?_
      refine j_l2i (n := 41) dX8_meet_40 rfl ?_
      refine j_topi (nI t) (lN_i t) ?_
      refine j_aload_n0 (n := 42) dX8_meet_41 rfl ?_
      refine j_get (n := 45) (k := 13) dX8_meet_42 rfl jcl7 (Nat.le_of_ble_eq_true rfl) fl_X8_168 (by first | decide | omega) (by first | assumption | rfl) (by rfl) ?_
      refine j_iast_n (n := 46) dX8_meet_45 rfl (by first | decide | omega) (by first | assumption | rfl) (by decide) (by first | assumption | omega) ?_
      rw [MK_u43]
      have m34 : MK g M q mk (mn W (L ++ [t])) (dis N L) od (upd f t mk) 34 = .inr (7, oMod g (qK q mk (lN (mn W (L ++ [t]))) (nI (dis N L)))) := rfl
      refine j_aload_n0 (n := 47) dX8_meet_46 rfl ?_
      refine j_dup (n := 48) dX8_meet_47 rfl rfl ?_
      refine j_get (n := 51) (k := 15) dX8_meet_48 rfl jcl7 (Nat.le_of_ble_eq_true rfl) fl_X8_171 (by first | decide | omega) (by first | assumption | rfl) (by rfl) ?_
      refine j_iconst (n := 52) (nI 1) dX8_meet_51 rfl (by decide) ?_
      refine j_iadd (n := 53) dX8_meet_52 rfl ?_
      refine j_topi (nI (dis N (L ++ [t]))) (by rw [dis_app ht, if_neg htL]; exact nI_add _ _) ?_
      refine j_put (n := 56) (k := 15) (fs2 := oMod g (qK q mk (lN (mn W (L ++ [t]))) (nI (dis N (L ++ [t]))))) dX8_meet_53 rfl jcl7 tyX8_ok nmX8 (Nat.le_of_ble_eq_true rfl) rfl (tyX8_ok 15 (Nat.le_of_ble_eq_true rfl)) fl_X8_171 (by rfl) (by rfl) (by first | decide | omega) (by first | assumption | rfl) (Nat.le_of_ble_eq_true rfl) (by rfl) ?_
      rw [MK_u34]
      refine j_vret dX8_meet_56 rfl ?_
      refine ⟨rfl, upd f t mk, rfl, fun u hu => ?_⟩
      have h1 := hf u hu
      unfold upd
      by_cases z : u = t
      · rw [if_pos z]
        exact ⟨fun _ => rfl, fun y => (y (by rw [z]; simp)).elim⟩
      · rw [if_neg z]
        refine ⟨fun y => ?_, fun y => h1.2 (fun x => y (List.mem_append_left _ x))⟩
        rcases List.mem_append.mp y with x | x
        · exact h1.1 x
        · exact (z (List.mem_singleton.mp x)).elim
  refine j_lif_ge (n := 10) 14 dX8_meet_7 rfl (by decide) (fun e1 => ?_) (fun e1 => ?_)
  · have e2 : mn W L ≤ t := (pk_lLE (by omega) (by omega)).mp e1
    refine j_aload_n0 (n := 15) dX8_meet_14 rfl ?_
    refine j_get (n := 18) (k := 14) dX8_meet_15 rfl jcl7 (Nat.le_of_ble_eq_true rfl) fl_X8_165 (by first | decide | omega) (by first | assumption | rfl) (by rfl) ?_
    exact j_topl _ (by rw [mn_app, if_neg (by omega)]; rfl) h18
  · have e2 : ¬ mn W L ≤ t := fun z => e1 ((pk_lLE (by omega) (by omega)).mpr z)
    refine j_lload_n1 (n := 11) dX8_meet_10 rfl ?_
    refine j_goto 18 dX8_meet_11 (by decide) ?_
    exact j_topl _ (by rw [mn_app, if_pos (by omega)]) h18
