theorem osC_ne : ∀ n, n < 5 → (osC n).isEmpty = false := by decide +kernel
theorem osC_len : ∀ n, n < 5 → (osC n).length ≤ 24 := by decide +kernel
theorem LI_ne {n t : Nat} (hn : n < 5) : ∃ u, u ∈ LI n t := by
  have h := osC_ne n hn
  cases hL : osC n with
  | nil => rw [hL] at h; cases h
  | cons c l =>
    refine ⟨turnT n (act n t c) 0, ?_⟩
    unfold LI
    rw [hL, List.flatMap_cons]
    exact List.mem_append_left _ (mem_tlM.mpr ⟨0, Nat.two_pow_pos n, Or.inl rfl⟩)
theorem t_LI {n t : Nat} (hn : n < 5) (ht : t < 2 ^ 2 ^ n) : t ∈ LI n t := by
  obtain ⟨u, hu⟩ := LI_ne (t := t) hn
  have h1 := cnt_same hn ht hu
  have h2 : 0 < (LI n t).count u := List.count_pos_iff.mpr hu
  exact List.count_pos_iff.mp (by omega)
theorem LC_I {n t : Nat} (hn : n < 5) (ht : t < 2 ^ 2 ^ n) : (LC n t).Perm (LI n t) := LC_M2 hn ht
theorem mn_in {L : List Nat} {x : Nat} (hx : x ∈ L) : mn x L ∈ L := by
  rcases (mn_spec L x).2.2 with z | z
  · rw [z]; exact hx
  · exact z
theorem chF_eq {n t : Nat} (hn : n < 5) (ht : t < 2 ^ 2 ^ n) : mn t (LC n t) = chF n t := by
  have h1 : t ∈ LC n t := (LC_I hn ht).mem_iff.mpr (t_LI hn ht)
  have h2 : t ∈ LMl n t := (LCM hn ht).mem_iff.mp h1
  obtain ⟨a1, a2, a3⟩ := mn_spec (LMl n t) (2 ^ 2 ^ n - 1)
  have b1 := mn_in h1
  obtain ⟨_, b2, _⟩ := mn_spec (LC n t) t
  unfold chF
  have c1 := a2 _ ((LCM hn ht).mem_iff.mp b1)
  have c3 : mn (2 ^ 2 ^ n - 1) (LMl n t) ∈ LMl n t := by
    rcases a3 with z | z
    · have := a2 t h2
      rw [show mn (2 ^ 2 ^ n - 1) (LMl n t) = t by omega]
      exact h2
    · exact z
  have c2 := b2 _ ((LCM hn ht).mem_iff.mpr c3)
  omega
theorem fm_len {f : Nat → List Nat} {c : Nat} : ∀ l : List Nat, (∀ a, a ∈ l → (f a).length ≤ c) → (l.flatMap f).length ≤ l.length * c
  | [], _ => by simp
  | a :: l, h => by
    have h1 := fm_len l (fun b hb => h b (List.mem_cons_of_mem _ hb))
    have h2 := h a List.mem_cons_self
    rw [List.flatMap_cons, List.length_append, List.length_cons, Nat.add_mul, Nat.one_mul]
    omega
theorem LC_len {n t : Nat} (hn : n < 5) (ht : t < 2 ^ 2 ^ n) : (LC n t).length ≤ 768 := by
  rw [(LC_I hn ht).length_eq]
  have h16 := pw16 (n := n) (by omega)
  have h1 : ∀ u, (tlM n u).length ≤ 32 := fun u => by
    have := fm_len (c := 2) (f := fun m => [turnT n u m, (2 ^ 2 ^ n - 1) ^^^ turnT n u m]) (List.range (2 ^ n)) (fun a _ => Nat.le_refl _)
    rw [List.length_range] at this
    show (List.flatMap _ _).length ≤ 32
    omega
  have h2 := fm_len (c := 32) (f := fun c => tlM n (act n t c)) (osC n) (fun a _ => h1 _)
  have h3 := osC_len n hn
  unfold LI
  omega
theorem kinF_eq {n t : Nat} (hn : n < 5) (ht : t < 2 ^ 2 ^ n) : 0 < (LC n t).count (mn t (LC n t)) ∧ (LC n t).length / (LC n t).count (mn t (LC n t)) = kinF n t := by
  have p := LC_I hn ht
  have h1 : t ∈ LC n t := p.mem_iff.mpr (t_LI hn ht)
  have b1 := mn_in h1
  have hc : ∀ u, u ∈ LC n t → (LC n t).count u = (LC n t).count t := fun u hu => by
    rw [p.count_eq, p.count_eq]
    exact cnt_same hn ht (p.mem_iff.mp hu)
  have hpos : 0 < (LC n t).count t := List.count_pos_iff.mpr h1
  have s1 := sum_count (N := 2 ^ 2 ^ n) (LC n t) (fun v hv => LI_lt (p.mem_iff.mp hv))
  have s2 := dis_mul (N := 2 ^ 2 ^ n) hc
  have e : kinF n t = dis (2 ^ 2 ^ n) (LC n t) := by
    unfold kinF dis
    apply cnt_ext
    intro u _
    rw [decide_eq_decide]
    exact (LCM hn ht).mem_iff.symm
  rw [hc _ b1, e, ← s1, s2]
  exact ⟨hpos, Nat.mul_div_cancel _ hpos⟩
set_option maxRecDepth 100000 in
theorem con_X1_members {g : jG} {M : jMem} {ch : Int64} {ni : Int32} {l c : Nat} (h11 : M 11 = .inr (1, oKind ch ni (nI l) (nI c))) (hc : 0 < c) (hl : l < 2 ^ 31) (hc2 : c < 2 ^ 31) : Fn g jX1_members 0 [.ref (jA g 11)] M (.int (nI (l / c))) := by
  refine con_of (l := [some (.ref (jA g 11))]) (by decide) (Nat.le_of_ble_eq_true rfl) rfl ?_
  refine j_aload_n0 (n := 1) dX1_members_0 rfl ?_
  refine j_get (n := 4) (k := 3) dX1_members_1 rfl jcl1 (Nat.le_of_ble_eq_true rfl) fl_X1_20 (by first | decide | omega) (by first | assumption | rfl) (by rfl) ?_
  refine j_if_le (n := 7) 19 dX1_members_4 rfl (by decide) (fun e => ?_) (fun e => ?_)
  · have := (nI_leI (b := 0) (by omega) (by omega)).mp e
    omega
  refine j_aload_n0 (n := 8) dX1_members_7 rfl ?_
  refine j_get (n := 11) (k := 2) dX1_members_8 rfl jcl1 (Nat.le_of_ble_eq_true rfl) fl_X1_17 (by first | decide | omega) (by first | assumption | rfl) (by rfl) ?_
  refine j_aload_n0 (n := 12) dX1_members_11 rfl ?_
  refine j_get (n := 15) (k := 3) dX1_members_12 rfl jcl1 (Nat.le_of_ble_eq_true rfl) fl_X1_20 (by first | decide | omega) (by first | assumption | rfl) (by rfl) ?_
  refine j_idiv (n := 16) dX1_members_15 rfl (nI_ne0 (by omega) (by omega)) ?_
  refine j_topi (nI (l / c)) (pk_div (by omega) (by omega) (by omega)) ?_
  refine j_goto 20 dX1_members_16 (by decide) ?_
  refine j_iret dX1_members_20 rfl ?_
  exact ⟨rfl, rfl⟩
/-- the class's kind may have changed -/
def kP (M M2 : jMem) : Prop := ∃ a b c d, M2 = va_up M 11 (.inr (1, oKind a b c d))
set_option maxRecDepth 100000 in
theorem con_X7_chief {g : jG} {M : jMem} {sn sT : Nat → Nat} {a : Int64} {b c d : Int32} (h0 : M 0 = .inr (6, oX g)) (h1 : M 1 = iA g 8 fun j => nI (sn j)) (h2 : M 2 = lA g 8 fun j => lN (sT j)) (h11 : M 11 = .inr (1, oKind a b c d)) (ok : slOK sn sT) {s : Int32} : Con g jX7_chief 10 [.ref (jA g 0), .int s] M (fun v M2 => v = some (.long (sp_chief sn sT s)) ∧ kP M M2) := by
  have kS : kP M M := ⟨a, b, c, d, (va_self h11).symm⟩
  refine con_of (l := [some (.ref (jA g 0)), some (.int s)]) (by decide) (Nat.le_of_ble_eq_true rfl) rfl ?_
  refine j_iload_n1 (n := 1) dX7_chief_0 rfl ?_
  refine j_fnS1 (n := 4) con_X7_isSlot dX7_chief_1 rfl cal_X7_isSlot ml_X7_58 (Nat.le_of_ble_eq_true rfl) (Nat.le_of_ble_eq_true rfl) ?_
  refine j_bif_ne (n := 7) 11 dX7_chief_4 rfl (by decide) (fun e1 => ?_) (fun e1 => ?_)
  rotate_left
  · refine j_ldc2 (n := 10) dX7_chief_7 rfl cl_X7_76 ?_
    refine j_lret dX7_chief_10 rfl ?_
    exact ⟨by simp [sp_chief, e1], kS⟩
  obtain ⟨j, hj, rfl⟩ := isSl_of e1
  have c1 := nI_clamp (show j < 2 ^ 31 by omega)
  have b2 := ok j hj
  refine j_aload_n0 (n := 12) dX7_chief_11 rfl ?_
  refine j_get (n := 15) (k := 0) dX7_chief_12 rfl jcl6 (Nat.le_of_ble_eq_true rfl) fl_X7_9 (by first | decide | omega) (by first | assumption | rfl) (by rfl) ?_
  refine j_iload_n1 (n := 16) dX7_chief_15 rfl ?_
  refine j_iald_n (n := 17) dX7_chief_16 rfl (by first | decide | omega) (by first | assumption | rfl) (by decide) (by first | assumption | omega) ?_
  refine j_iconst (n := 18) (nI 4) dX7_chief_17 rfl (by decide) ?_
  refine j_nicmp_le (n := 21) 25 dX7_chief_18 rfl (by decide) (by omega) (by omega) (fun e2 => ?_) (fun e2 => ?_)
  rotate_left
  · refine j_ldc2 (n := 24) dX7_chief_21 rfl cl_X7_135 ?_
    refine j_lret dX7_chief_24 rfl ?_
    exact ⟨by simp [sp_chief, e1, c1, show 4 < sn j by omega], kS⟩
  refine j_aload_n0 (n := 26) dX7_chief_25 rfl ?_
  refine j_get (n := 29) (k := 4) dX7_chief_26 rfl jcl6 (Nat.le_of_ble_eq_true rfl) fl_X7_34 (by first | decide | omega) (by first | assumption | rfl) (by rfl) ?_
  refine j_aload_n0 (n := 30) dX7_chief_29 rfl ?_
  refine j_get (n := 33) (k := 0) dX7_chief_30 rfl jcl6 (Nat.le_of_ble_eq_true rfl) fl_X7_9 (by first | decide | omega) (by first | assumption | rfl) (by rfl) ?_
  refine j_iload_n1 (n := 34) dX7_chief_33 rfl ?_
  refine j_iald_n (n := 35) dX7_chief_34 rfl (by first | decide | omega) (by first | assumption | rfl) (by decide) (by first | assumption | omega) ?_
  refine j_aload_n0 (n := 36) dX7_chief_35 rfl ?_
  refine j_get (n := 39) (k := 1) dX7_chief_36 rfl jcl6 (Nat.le_of_ble_eq_true rfl) fl_X7_13 (by first | decide | omega) (by first | assumption | rfl) (by rfl) ?_
  refine j_iload_n1 (n := 40) dX7_chief_39 rfl ?_
  refine j_lald_n (n := 41) dX7_chief_40 rfl (by first | decide | omega) (by first | assumption | rfl) (by decide) (by first | assumption | omega) ?_
  refine j_cV2 (n := 44) (con_X1_find h11 e2 b2.2.2) dX7_chief_41 rfl cal_X1_find ml_X7_137 (Nat.le_of_ble_eq_true rfl) (by first | decide | omega) rfl rfl (Nat.le_of_ble_eq_true rfl) (by first | assumption | rfl) ?_
  rintro _ M2 ⟨rfl, rfl⟩
  have m0 : KQ g M (sn j) (sT j) (LC (sn j) (sT j)) 0 = .inr (6, oX g) := h0
  have m11 := @KQ_11 g M (sn j) (sT j) (LC (sn j) (sT j))
  refine j_aload_n0 (n := 45) dX7_chief_44 rfl ?_
  refine j_get (n := 48) (k := 4) dX7_chief_45 rfl jcl6 (Nat.le_of_ble_eq_true rfl) fl_X7_34 (by first | decide | omega) (by first | assumption | rfl) (by rfl) ?_
  refine j_get (n := 51) (k := 0) dX7_chief_48 rfl jcl1 (Nat.le_of_ble_eq_true rfl) fl_X7_141 (by first | decide | omega) (by first | assumption | rfl) (by rfl) ?_
  rw [chF_eq (by omega) b2.2.2]
  refine j_lret dX7_chief_51 rfl ?_
  exact ⟨by simp [sp_chief, e1, c1, show ¬ 4 < sn j by omega], _, _, _, _, rfl⟩
set_option maxRecDepth 100000 in
theorem con_X7_kin {g : jG} {M : jMem} {sn sT : Nat → Nat} {a : Int64} {b c d : Int32} (h0 : M 0 = .inr (6, oX g)) (h1 : M 1 = iA g 8 fun j => nI (sn j)) (h2 : M 2 = lA g 8 fun j => lN (sT j)) (h11 : M 11 = .inr (1, oKind a b c d)) (ok : slOK sn sT) {s : Int32} : Con g jX7_kin 10 [.ref (jA g 0), .int s] M (fun v M2 => v = some (.int (sp_kin sn sT s)) ∧ kP M M2) := by
  have kS : kP M M := ⟨a, b, c, d, (va_self h11).symm⟩
  refine con_of (l := [some (.ref (jA g 0)), some (.int s)]) (by decide) (Nat.le_of_ble_eq_true rfl) rfl ?_
  refine j_iload_n1 (n := 1) dX7_kin_0 rfl ?_
  refine j_fnS1 (n := 4) con_X7_isSlot dX7_kin_1 rfl cal_X7_isSlot ml_X7_58 (Nat.le_of_ble_eq_true rfl) (Nat.le_of_ble_eq_true rfl) ?_
  refine j_bif_ne (n := 7) 9 dX7_kin_4 rfl (by decide) (fun e1 => ?_) (fun e1 => ?_)
  rotate_left
  · refine j_iconst (n := 8) (-1) dX7_kin_7 rfl (by decide) ?_
    refine j_iret dX7_kin_8 rfl ?_
    exact ⟨by simp [sp_kin, e1], kS⟩
  obtain ⟨j, hj, rfl⟩ := isSl_of e1
  have c1 := nI_clamp (show j < 2 ^ 31 by omega)
  have b2 := ok j hj
  refine j_aload_n0 (n := 10) dX7_kin_9 rfl ?_
  refine j_get (n := 13) (k := 0) dX7_kin_10 rfl jcl6 (Nat.le_of_ble_eq_true rfl) fl_X7_9 (by first | decide | omega) (by first | assumption | rfl) (by rfl) ?_
  refine j_iload_n1 (n := 14) dX7_kin_13 rfl ?_
  refine j_iald_n (n := 15) dX7_kin_14 rfl (by first | decide | omega) (by first | assumption | rfl) (by decide) (by first | assumption | omega) ?_
  refine j_iconst (n := 16) (nI 4) dX7_kin_15 rfl (by decide) ?_
  refine j_nicmp_le (n := 19) 22 dX7_kin_16 rfl (by decide) (by omega) (by omega) (fun e2 => ?_) (fun e2 => ?_)
  rotate_left
  · refine j_bipush (n := 21) (-3) dX7_kin_19 rfl (by decide) ?_
    refine j_iret dX7_kin_21 rfl ?_
    exact ⟨by simp [sp_kin, e1, c1, show 4 < sn j by omega], kS⟩
  refine j_aload_n0 (n := 23) dX7_kin_22 rfl ?_
  refine j_get (n := 26) (k := 4) dX7_kin_23 rfl jcl6 (Nat.le_of_ble_eq_true rfl) fl_X7_34 (by first | decide | omega) (by first | assumption | rfl) (by rfl) ?_
  refine j_aload_n0 (n := 27) dX7_kin_26 rfl ?_
  refine j_get (n := 30) (k := 0) dX7_kin_27 rfl jcl6 (Nat.le_of_ble_eq_true rfl) fl_X7_9 (by first | decide | omega) (by first | assumption | rfl) (by rfl) ?_
  refine j_iload_n1 (n := 31) dX7_kin_30 rfl ?_
  refine j_iald_n (n := 32) dX7_kin_31 rfl (by first | decide | omega) (by first | assumption | rfl) (by decide) (by first | assumption | omega) ?_
  refine j_aload_n0 (n := 33) dX7_kin_32 rfl ?_
  refine j_get (n := 36) (k := 1) dX7_kin_33 rfl jcl6 (Nat.le_of_ble_eq_true rfl) fl_X7_13 (by first | decide | omega) (by first | assumption | rfl) (by rfl) ?_
  refine j_iload_n1 (n := 37) dX7_kin_36 rfl ?_
  refine j_lald_n (n := 38) dX7_kin_37 rfl (by first | decide | omega) (by first | assumption | rfl) (by decide) (by first | assumption | omega) ?_
  refine j_cV2 (n := 41) (con_X1_find h11 e2 b2.2.2) dX7_kin_38 rfl cal_X1_find ml_X7_137 (Nat.le_of_ble_eq_true rfl) (by first | decide | omega) rfl rfl (Nat.le_of_ble_eq_true rfl) (by first | assumption | rfl) ?_
  rintro _ M2 ⟨rfl, rfl⟩
  have m0 : KQ g M (sn j) (sT j) (LC (sn j) (sT j)) 0 = .inr (6, oX g) := h0
  have m11 := @KQ_11 g M (sn j) (sT j) (LC (sn j) (sT j))
  have hk := kinF_eq (n := sn j) (by omega) b2.2.2
  have hl := LC_len (n := sn j) (by omega) b2.2.2
  have hcl : (LC (sn j) (sT j)).count (mn (sT j) (LC (sn j) (sT j))) ≤ (LC (sn j) (sT j)).length := List.count_le_length
  refine j_aload_n0 (n := 42) dX7_kin_41 rfl ?_
  refine j_get (n := 45) (k := 4) dX7_kin_42 rfl jcl6 (Nat.le_of_ble_eq_true rfl) fl_X7_34 (by first | decide | omega) (by first | assumption | rfl) (by rfl) ?_
  refine j_fnV0 (n := 48) (con_X1_members m11 hk.1 (by omega) (by omega)) dX7_kin_45 rfl cal_X1_members ml_X7_145 (Nat.le_of_ble_eq_true rfl) (by first | decide | omega) rfl rfl (Nat.le_of_ble_eq_true rfl) (by first | assumption | rfl) ?_
  rw [hk.2]
  refine j_iret dX7_kin_48 rfl ?_
  exact ⟨by simp [sp_kin, e1, c1, show ¬ 4 < sn j by omega], _, _, _, _, rfl⟩
theorem GO_v : ∀ n, 1 ≤ n → n ≤ 4 → (jSt 0).2.2.2.2.2 n = .int (nI (gatesF n)) := by
  intro n h1 h2
  have hg := gatesF_v
  rcases (show n = 1 ∨ n = 2 ∨ n = 3 ∨ n = 4 by omega) with y | y | y | y <;> subst y
  · rw [hg.1]; rfl
  · rw [hg.2.1]; rfl
  · rw [hg.2.2.1]; rfl
  · rw [hg.2.2.2]; rfl
set_option maxRecDepth 100000 in
theorem con_X7_gates {g : jG} {M : jMem} {x : Int32} : Fn g jX7_gates 1 [.ref (jA g 0), .int x] M (.int (sp_gates x)) := by
  refine con_of (l := [some (.ref (jA g 0)), some (.int x)]) (by decide) (Nat.le_of_ble_eq_true rfl) rfl ?_
  refine j_iload_n1 (n := 1) dX7_gates_0 rfl ?_
  refine j_iconst (n := 2) (nI 1) dX7_gates_1 rfl (by decide) ?_
  refine j_iconst (n := 3) (nI 4) dX7_gates_2 rfl (by decide) ?_
  refine j_fnS3 (n := 6) con_X7_isWithin dX7_gates_3 rfl cal_X7_isWithin ml_X7_62 (Nat.le_of_ble_eq_true rfl) (Nat.le_of_ble_eq_true rfl) ?_
  rw [show decide (nI 1 ≤ x ∧ x ≤ nI 4) = isTo 4 x from rfl]
  refine j_bif_eq (n := 9) 17 dX7_gates_6 rfl (by decide) (fun e1 => ?_) (fun e1 => ?_)
  · refine j_bipush (n := 19) (-2) dX7_gates_17 rfl (by decide) ?_
    refine j_iret dX7_gates_19 rfl ?_
    exact ⟨by simp [sp_gates, e1], rfl⟩
  obtain ⟨n, hn1, hn4, rfl⟩ := isTo_of (by decide) e1
  have cn := nI_clamp (show n < 2 ^ 31 by omega)
  refine j_gets (n := 12) (kz := 0) dX7_gates_9 rfl (Nat.le_of_ble_eq_true rfl) fl_X7_148 ?_
  refine j_iload_n1 (n := 13) dX7_gates_12 rfl ?_
  refine j_tild_n (n := 14) (v := nI (gatesF n)) dX7_gates_13 rfl (Nat.le_of_ble_eq_true rfl) rfl (by decide) (show n < 5 by omega) (GO_v n hn1 hn4) ?_
  refine j_goto 19 dX7_gates_14 (by decide) ?_
  refine j_iret dX7_gates_19 rfl ?_
  exact ⟨by simp [sp_gates, e1, cn], rfl⟩
