/-- the sizes that the search may meet from input i on, with those before it as p tells -/
def AdmP (n t : Nat) (F : Nat → Nat) (sp i : Nat) (p v : Nat → Nat) : Prop := (∀ j, j < i → v j = p j) ∧ (∀ j, i ≤ j → j < n → F j ≤ v j ∧ (pu n t j = 0 → v j = F j) ∧ ordP (fun o => (pu n t o).natAbs) v j (v j)) ∧ fb_sm v n + fb_sm F i = fb_sm p i + fb_sm F n + sp ∧ sepS n t v
theorem sm_diff {u F : Nat → Nat} {m : Nat} : ∀ k, (∀ j, m ≤ j → j < m + k → F j ≤ u j) → fb_sm u m + fb_sm F (m + k) ≤ fb_sm u (m + k) + fb_sm F m
  | 0, _ => by simp only [Nat.add_zero]; omega
  | k + 1, h => by
    have h1 := sm_diff (u := u) (F := F) (m := m) k (fun j h1 h2 => h j h1 (by omega))
    have h2 := h (m + k) (by omega) (by omega)
    show fb_sm u m + (fb_sm F (m + k) + F (m + k)) ≤ (fb_sm u (m + k) + u (m + k)) + fb_sm F m
    omega
theorem adm_le {n t sp i : Nat} {F p u : Nat → Nat} (hi : i < n) (h : AdmP n t F sp i p u) : u i ≤ F i + sp := by
  obtain ⟨h1, h2, h3, h4⟩ := h
  have e1 := sm_diff (u := u) (F := F) (m := i + 1) (n - (i + 1)) (fun j q1 q2 => (h2 j (by omega) (by omega)).1)
  rw [show i + 1 + (n - (i + 1)) = n by omega] at e1
  have e2 : fb_sm u (i + 1) = fb_sm p i + u i := by
    rw [fb_sm_succ, fb_sm_cong (fun j hj => h1 j hj)]
  have e3 := fb_sm_succ F i
  omega
theorem adm_last {n t sp i : Nat} {F p u : Nat → Nat} (hi : i + 1 = n) (h : AdmP n t F sp i p u) : u i = F i + sp := by
  obtain ⟨h1, h2, h3, h4⟩ := h
  have e2 : fb_sm u (i + 1) = fb_sm p i + u i := by
    rw [fb_sm_succ, fb_sm_cong (fun j hj => h1 j hj)]
  have e3 := fb_sm_succ F i
  rw [hi] at e2 e3
  omega
def setP (p : Nat → Nat) (i x : Nat) : Nat → Nat := fun j => if j = i then x else p j
theorem setP_sm {p : Nat → Nat} {i x : Nat} : fb_sm (setP p i x) (i + 1) = fb_sm p i + x := by
  rw [fb_sm_succ]
  have e : fb_sm (setP p i x) i = fb_sm p i := fb_sm_cong (fun j hj => if_neg (by omega))
  rw [e]
  congr 1
  exact if_pos rfl
theorem ordP_cong {A p q : Nat → Nat} {i x : Nat} (h : ∀ o, o < i → p o = q o) (hp : ordP A p i x) : ordP A q i x := by
  intro o ho hb
  refine hp o ho ?_
  unfold badO at hb ⊢
  rw [h o ho]
  exact hb
theorem adm_up {n t sp i e : Nat} {F p u : Nat → Nat} (he : e ≤ sp) (h : AdmP n t F sp i p u) (hu : u i = F i + e) : AdmP n t F (sp - e) (i + 1) (setP p i (F i + e)) u := by
  obtain ⟨h1, h2, h3, h4⟩ := h
  refine ⟨fun j hj => ?_, fun j q1 q2 => h2 j (by omega) q2, ?_, h4⟩
  · unfold setP
    by_cases q : j = i
    · rw [if_pos q, q, hu]
    · rw [if_neg q]; exact h1 j (by omega)
  · rw [setP_sm, fb_sm_succ]
    omega
theorem adm_dn {n t sp i e : Nat} {F p v : Nat → Nat} (he : e ≤ sp) (h0 : pu n t i = 0 → e = 0) (ho : ordP (fun o => (pu n t o).natAbs) p i (F i + e)) (h : AdmP n t F (sp - e) (i + 1) (setP p i (F i + e)) v) : AdmP n t F sp i p v := by
  obtain ⟨h1, h2, h3, h4⟩ := h
  have hv : v i = F i + e := by rw [h1 i (by omega)]; exact if_pos rfl
  have hp : ∀ j, j < i → v j = p j := fun j hj => by rw [h1 j (by omega)]; exact if_neg (by omega)
  refine ⟨hp, fun j q1 q2 => ?_, ?_, h4⟩
  · rcases Nat.eq_or_lt_of_le q1 with q | q
    · subst q
      refine ⟨by omega, fun z => by rw [hv, h0 z]; rfl, ?_⟩
      rw [hv]
      exact ordP_cong (fun o ho => (hp o ho).symm) ho
    · exact h2 j (by omega) q2
  · rw [setP_sm, fb_sm_succ] at h3
    omega
/-- what the search leaves -/
def shK (g : jG) (M : jMem) (sz : Int32) (n t : Nat) (F : Nat → Nat) (sp i : Nat) (p : Nat → Nat) (wt sm : Nat → Int32) (v : Option Value) (M2 : jMem) : Prop := ∃ r : Bool, v = some (.int (jB r)) ∧ ∃ b2 wt2 sm2 lo2 gz2, M2 = LM g M sz n t b2 wt2 sm2 lo2 gz2 ∧ (r = true → ∃ s, AdmP n t F sp i p s ∧ (∀ u, AdmP n t F sp i p u → ¬ vlt n u s) ∧ (∀ j, j < n → wt2 j = iI (wOf (fl n t) s j)) ∧ (∀ j, j < 2 ^ n → sm2 j = iI (rsum (wOf (fl n t) s) j n)) ∧ b2 = iI (bndW n t (wOf (fl n t) s))) ∧ (r = false → (∀ u, ¬ AdmP n t F sp i p u) ∧ (∀ j, j < i → wt2 j = wt j) ∧ ∀ j, j < 2 ^ i → sm2 j = sm j)
theorem wOf_abs {sg : Nat → Bool} {s : Nat → Nat} {j : Nat} : (wOf sg s j).natAbs = s j := by
  unfold wOf
  split <;> omega
set_option maxRecDepth 100000 in
theorem con_X2_share {g : jG} {M : jMem} {sz : Int32} {n t : Nat} {pl fr : Nat → Int32} {F : Nat → Nat} (h1 : 1 ≤ n) (hn : n ≤ 5) (ht : t < 2 ^ 2 ^ n) (hg : isG n t = true) (h7 : M 7 = iA g 5 pl) (h8 : M 8 = iA g 5 fr) (hpl : ∀ j, j < n → pl j = iI (pu n t j)) (hfr : ∀ j, j < n → fr j = nI (F j)) (hF : ∀ j, j < n → F j ≤ 16) : ∀ (m i : Nat), i + m = n → ∀ (sp : Nat) (p : Nat → Nat) (b lo gz : Int32) (wt sm : Nat → Int32), sp ≤ 16 → (∀ j, j < i → p j ≤ 32) → (∀ j, j < i → wt j = iI (wOf (fl n t) p j)) → (∀ j, j < 2 ^ i → sm j = iI (rsum (wOf (fl n t) p) j i)) → Con g jX2_share (m + 3) [.ref (jA g 5), .int (nI i), .int (nI sp)] (LM g M sz n t b wt sm lo gz) (shK g M sz n t F sp i p wt sm) := by
  intro m
  induction m with
  | zero =>
    intro i him sp p b lo gz wt sm hsp hp hwt hsm
    have hin : i = n := by omega
    subst hin
    have hb : ∀ r, -900 ≤ rsum (wOf (fl i t) p) r i ∧ rsum (wOf (fl i t) p) r i ≤ 900 := by
      intro r
      have := rsum_bd (w := wOf (fl i t) p) (r := r) (m := 32) (by omega) i (fun k hk => wOf_bd (hp k hk))
      omega
    have m5 : LM g M sz i t b wt sm lo gz 5 = .inr (2, oLeast g b sz (nI i) (lN t)) := rfl
    refine con_of (l := [some (.ref (jA g 5)), some (.int (nI i)), some (.int (nI sp)), none, none, none, none]) (by decide) (Nat.le_of_ble_eq_true rfl) rfl ?_
    refine j_iload_n1 (n := 1) dX2_share_0 rfl ?_
    refine j_aload_n0 (n := 2) dX2_share_1 rfl ?_
    refine j_get (n := 5) (k := 3) dX2_share_2 rfl jcl2 (Nat.le_of_ble_eq_true rfl) fl_X2_28 (by first | decide | omega) (by first | assumption | rfl) (by rfl) ?_
    refine j_nicmp_lt (n := 8) 25 dX2_share_5 rfl (by decide) (by omega) (by omega) (fun e0 => ?_) (fun e0 => ?_)
    · omega
    have fin : ∀ r : Bool, (sp = 0 ∧ sepB i t (wOf (fl i t) p) = true ↔ r = true) → ∀ b2 lo2 gz2, (r = true → b2 = iI (bndW i t (wOf (fl i t) p))) → shK g M sz i t F sp i p wt sm (some (.int (jB r))) (LM g M sz i t b2 wt sm lo2 gz2) := by
      intro r hr b2 lo2 gz2 hb2
      refine ⟨r, rfl, b2, wt, sm, lo2, gz2, rfl, fun hrt => ?_, fun hrf => ⟨fun u hu => ?_, fun j hj => rfl, fun j hj => rfl⟩⟩
      · obtain ⟨q1, q2⟩ := hr.mpr hrt
        refine ⟨p, ⟨fun j hj => rfl, fun j z1 z2 => absurd z2 (by omega), by omega, q2⟩, fun u hu z => ?_, hwt, hsm, hb2 hrt⟩
        obtain ⟨k, k1, k2, k3⟩ := z
        have := hu.1 k k1
        omega
      · obtain ⟨z1, z2, z3, z4⟩ := hu
        have e1 : fb_sm u i = fb_sm p i := fb_sm_cong z1
        have := hr.mp ⟨by omega, (sepS_cong z1).mp z4⟩
        rw [hrf] at this
        cases this
    refine j_iload_n2 (n := 9) dX2_share_8 rfl ?_
    refine j_if_ne (n := 12) 23 dX2_share_9 rfl (by decide) (fun e1 => ?_) (fun e1 => ?_)
    · refine j_iconst (n := 24) (nI 0) dX2_share_23 rfl (by decide) ?_
      have hs0 : ¬ sp = 0 := fun z => e1 (by rw [z]; rfl)
      exact j_ret0 (b := false) rfl dX2_share_24 rfl (fin false ⟨fun z => (hs0 z.1).elim, fun z => (Bool.false_ne_true z).elim⟩ _ _ _ (fun z => (Bool.false_ne_true z).elim))
    have hs0 : sp = 0 := (nI_eq (b := 0) (by omega) (by omega)).mp e1
    refine j_aload_n0 (n := 13) dX2_share_12 rfl ?_
    refine j_cV0 (n := 16) (con_X2_separates h1 hn ht hsm hb) dX2_share_13 rfl cal_X2_separates ml_X2_73 (Nat.le_of_ble_eq_true rfl) (by first | decide | omega) rfl rfl (Nat.le_of_ble_eq_true rfl) (by first | assumption | rfl) ?_
    rintro _ M2 ⟨rfl, b2, lo2, gz2, rfl, hb2⟩
    refine j_bif_eq (n := 19) 23 dX2_share_16 rfl (by decide) (fun e2 => ?_) (fun e2 => ?_)
    · refine j_iconst (n := 24) (nI 0) dX2_share_23 rfl (by decide) ?_
      exact j_ret0 e2 dX2_share_24 rfl (fin _ ⟨fun z => z.2, fun z => ⟨hs0, z⟩⟩ _ _ _ hb2)
    · refine j_iconst (n := 20) (nI 1) dX2_share_19 rfl (by decide) ?_
      refine j_goto 24 dX2_share_20 (by decide) ?_
      exact j_ret1 e2 dX2_share_24 rfl (fin _ ⟨fun z => z.2, fun z => ⟨hs0, z⟩⟩ _ _ _ hb2)
  | succ m ihm =>
    intro i him sp p b lo gz wt sm hsp hp hwt hsm
    have hin : i < n := by omega
    have hpi := pu_bd n t i hn
    have hFi := hF i hin
    have m5 : LM g M sz n t b wt sm lo gz 5 = .inr (2, oLeast g b sz (nI n) (lN t)) := rfl
    have m7 : LM g M sz n t b wt sm lo gz 7 = iA g 5 pl := h7
    refine con_of (l := [some (.ref (jA g 5)), some (.int (nI i)), some (.int (nI sp)), none, none, none, none]) (by decide) (Nat.le_of_ble_eq_true rfl) rfl ?_
    refine j_iload_n1 (n := 1) dX2_share_0 rfl ?_
    refine j_aload_n0 (n := 2) dX2_share_1 rfl ?_
    refine j_get (n := 5) (k := 3) dX2_share_2 rfl jcl2 (Nat.le_of_ble_eq_true rfl) fl_X2_28 (by first | decide | omega) (by first | assumption | rfl) (by rfl) ?_
    refine j_nicmp_lt (n := 8) 25 dX2_share_5 rfl (by decide) (by omega) (by omega) (fun e0 => ?_) (fun e0 => ?_)
    rotate_left
    · omega
    refine j_iload_n1 (n := 26) dX2_share_25 rfl ?_
    refine j_aload_n0 (n := 27) dX2_share_26 rfl ?_
    refine j_get (n := 30) (k := 3) dX2_share_27 rfl jcl2 (Nat.le_of_ble_eq_true rfl) fl_X2_28 (by first | decide | omega) (by first | assumption | rfl) (by rfl) ?_
    refine j_iconst (n := 31) (nI 1) dX2_share_30 rfl (by decide) ?_
    refine j_isub (n := 32) dX2_share_31 rfl ?_
    refine j_topi (nI (n - 1)) (pk_sub (by omega)) ?_
    -- the loop
    have key : ∀ mo : Nat, mo ≤ sp → (pu n t i = 0 → mo = 0) → (pu n t i ≠ 0 → mo = sp) → ∀ le : Nat, ∀ e, e ≤ sp + 1 → ∀ (x6 : Option Value) (b lo gz : Int32) (wt2 sm2 : Nat → Int32), (∀ j, j < i → wt2 j = wt j) → (∀ j, j < 2 ^ i → sm2 j = sm j) → (∀ u, AdmP n t F sp i p u → F i + e ≤ u i) → J g jX2_share (m + 1 + 3) (shK g M sz n t F sp i p wt sm) 60 [some (.ref (jA g 5)), some (.int (nI i)), some (.int (nI sp)), some (.int (nI le)), some (.int (nI mo)), some (.int (nI e)), x6] [] (LM g M sz n t b wt2 sm2 lo gz) := by
      intro mo hmo hmo0 hmo1 le
      have out : ∀ e, mo < e → ∀ (x6 : Option Value) (b lo gz : Int32) (wt2 sm2 : Nat → Int32), (∀ j, j < i → wt2 j = wt j) → (∀ j, j < 2 ^ i → sm2 j = sm j) → (∀ u, AdmP n t F sp i p u → F i + e ≤ u i) → J g jX2_share (m + 1 + 3) (shK g M sz n t F sp i p wt sm) 147 [some (.ref (jA g 5)), some (.int (nI i)), some (.int (nI sp)), some (.int (nI le)), some (.int (nI mo)), some (.int (nI e)), x6] [] (LM g M sz n t b wt2 sm2 lo gz) := by
        intro e he x6 b lo gz wt2 sm2 q1 q2 q3
        refine j_iconst (n := 148) (nI 0) dX2_share_147 rfl (by decide) ?_
        refine j_ret0 (b := false) rfl dX2_share_148 rfl ⟨false, rfl, b, wt2, sm2, lo, gz, rfl, fun z => (Bool.false_ne_true z).elim, fun _ => ⟨fun u hu => ?_, q1, q2⟩⟩
        have z1 := q3 u hu
        have z2 := adm_le hin hu
        have z3 := (hu.2.1 i (Nat.le_refl _) hin).2.1
        by_cases hz : pu n t i = 0
        · have := z3 hz
          omega
        · have := hmo1 hz
          omega
      refine j_for ?_ ?_
      · intro x6 b lo gz wt2 sm2 q1 q2 q3
        refine j_iload5 (n := 62) dX2_share_60 rfl ?_
        refine j_iload4 (n := 64) dX2_share_62 rfl ?_
        refine j_nicmp_gt (n := 67) 147 dX2_share_64 rfl (by decide) (by omega) (by omega) (fun h => ?_) (fun h => ?_)
        · exact out _ h _ _ _ _ _ _ q1 q2 q3
        · omega
      · intro e he ih x6 b lo gz wt2 sm2 q1 q2 q3
        refine j_iload5 (n := 62) dX2_share_60 rfl ?_
        refine j_iload4 (n := 64) dX2_share_62 rfl ?_
        refine j_nicmp_gt (n := 67) 147 dX2_share_64 rfl (by decide) (by omega) (by omega) (fun h => ?_) (fun h => ?_)
        · exact out _ h _ _ _ _ _ _ q1 q2 q3
        have m5 : LM g M sz n t b wt2 sm2 lo gz 5 = .inr (2, oLeast g b sz (nI n) (lN t)) := rfl
        have m6 : LM g M sz n t b wt2 sm2 lo gz 6 = iA g 5 wt2 := rfl
        have m7 : LM g M sz n t b wt2 sm2 lo gz 7 = iA g 5 pl := h7
        have m8 : LM g M sz n t b wt2 sm2 lo gz 8 = iA g 5 fr := h8
        refine j_aload_n0 (n := 68) dX2_share_67 rfl ?_
        refine j_get (n := 71) (k := 6) dX2_share_68 rfl jcl2 (Nat.le_of_ble_eq_true rfl) fl_X2_18 (by first | decide | omega) (by first | assumption | rfl) (by rfl) ?_
        refine j_iload_n1 (n := 72) dX2_share_71 rfl ?_
        refine j_iald_n (n := 73) dX2_share_72 rfl (by first | decide | omega) (by first | assumption | rfl) (by decide) (by first | assumption | omega) ?_
        rw [hfr i hin]
        refine j_iload5 (n := 75) dX2_share_73 rfl ?_
        refine j_iadd (n := 76) dX2_share_75 rfl ?_
        refine j_topi (nI (F i + e)) (nI_add _ _) ?_
        refine j_istore6 (n := 78) dX2_share_76 rfl (Nat.le_of_ble_eq_true rfl) rfl ?_
        refine j_aload_n0 (n := 79) dX2_share_78 rfl ?_
        refine j_iload_n1 (n := 80) dX2_share_79 rfl ?_
        refine j_iload6 (n := 82) dX2_share_80 rfl ?_
        refine j_cV2 (n := 85) (con_X2_keepsOrder (z := wOf (fl n t) p) (p := p) m5 m6 m7 hn hin hpl (fun j hj => (q1 j hj).trans (hwt j hj)) (fun j hj => wOf_abs) (fun j hj => Nat.le_trans (hp j hj) (by omega)) (by omega)) dX2_share_82 rfl cal_X2_keepsOrder ml_X2_77 (by omega) (by decide) rfl rfl (Nat.le_of_ble_eq_true rfl) m5 ?_
        rintro _ M2 ⟨rfl, r, rfl, hr⟩
        have next : (∀ u, AdmP n t F sp i p u → u i ≠ F i + e) → ∀ (b lo gz : Int32) (wt2 sm2 : Nat → Int32), (∀ j, j < i → wt2 j = wt j) → (∀ j, j < 2 ^ i → sm2 j = sm j) → J g jX2_share (m + 1 + 3) (shK g M sz n t F sp i p wt sm) 141 [some (.ref (jA g 5)), some (.int (nI i)), some (.int (nI sp)), some (.int (nI le)), some (.int (nI mo)), some (.int (nI e)), some (.int (nI (F i + e)))] [] (LM g M sz n t b wt2 sm2 lo gz) := by
          intro hno b lo gz wt2 sm2 y1 y2
          refine j_inc5 (n := 144) dX2_share_141 rfl (Nat.le_of_ble_eq_true rfl) rfl ?_
          refine j_goto 60 dX2_share_144 (by decide) ?_
          refine ih _ _ _ _ _ _ y1 y2 (fun u hu => ?_)
          have z1 := q3 u hu
          have z2 := hno u hu
          omega
        refine j_bif_eq (n := 88) 141 dX2_share_85 rfl (by decide) (fun e2 => ?_) (fun e2 => ?_)
        · refine next (fun u hu z => ?_) _ _ _ _ _ q1 q2
          have hor := (hu.2.1 i (Nat.le_refl _) hin).2.2
          rw [z] at hor
          have := hr.mpr (ordP_cong hu.1 hor)
          rw [e2] at this
          cases this
        have hor := hr.mp e2
        have h110 : J g jX2_share (m + 1 + 3) (shK g M sz n t F sp i p wt sm) 110 [some (.ref (jA g 5)), some (.int (nI i)), some (.int (nI sp)), some (.int (nI le)), some (.int (nI mo)), some (.int (nI e)), some (.int (nI (F i + e)))] [.int (iI (wOf (fl n t) (setP p i (F i + e)) i)), .int (nI i), .ref (jA g 6)] (LM g M sz n t b wt2 sm2 lo gz) := by
          refine j_iast_n (n := 111) dX2_share_110 rfl (by first | decide | omega) (by first | assumption | rfl) (by decide) (by first | assumption | omega) ?_
          rw [LM_u6]
          have m5 : LM g M sz n t b (upd wt2 i (iI (wOf (fl n t) (setP p i (F i + e)) i))) sm2 lo gz 5 = .inr (2, oLeast g b sz (nI n) (lN t)) := rfl
          have m6 : LM g M sz n t b (upd wt2 i (iI (wOf (fl n t) (setP p i (F i + e)) i))) sm2 lo gz 6 = iA g 5 (upd wt2 i (iI (wOf (fl n t) (setP p i (F i + e)) i))) := rfl
          have hcong : ∀ j, j < i → wOf (fl n t) (setP p i (F i + e)) j = wOf (fl n t) p j := fun j hj => wOf_cong rfl (if_neg (by omega))
          refine j_aload_n0 (n := 112) dX2_share_111 rfl ?_
          refine j_get (n := 115) (k := 7) dX2_share_112 rfl jcl2 (Nat.le_of_ble_eq_true rfl) fl_X2_24 (by first | decide | omega) (by first | assumption | rfl) (by rfl) ?_
          refine j_iload_n1 (n := 116) dX2_share_115 rfl ?_
          refine j_aload_n0 (n := 117) dX2_share_116 rfl ?_
          refine j_get (n := 120) (k := 0) dX2_share_117 rfl jcl2 (Nat.le_of_ble_eq_true rfl) fl_X2_9 (by first | decide | omega) (by first | assumption | rfl) (by rfl) ?_
          refine j_iload_n1 (n := 121) dX2_share_120 rfl ?_
          refine j_iald_n (n := 122) dX2_share_121 rfl (by first | decide | omega) (by first | assumption | rfl) (by decide) (by first | assumption | omega) ?_
          refine j_topi (iI (wOf (fl n t) (setP p i (F i + e)) i)) (if_pos rfl) ?_
          refine j_cV2 (n := 125) (con_X4_setWeight (k := 9) (w := wOf (fl n t) (setP p i (F i + e))) LM_9 LM_10 (by omega) (by omega) (fun j hj => by rw [q2 j hj, hsm j hj, rsum_cong i hcong])) dX2_share_122 rfl cal_X4_setWeight ml_X2_80 (by omega) (by decide) rfl rfl (Nat.le_of_ble_eq_true rfl) LM_9 ?_
          rintro _ M2 ⟨rfl, f2, rfl, hf2⟩
          rw [LM_u10]
          have hf3 : ∀ j, j < 2 ^ i → f2 j = sm j := by
            intro j hj
            rw [hf2 j (Nat.lt_of_lt_of_le hj (Nat.pow_le_pow_right (by omega) (by omega))), hsm j hj, rsum_low hj, rsum_cong i hcong]
          refine j_aload_n0 (n := 126) dX2_share_125 rfl ?_
          refine j_iload_n1 (n := 127) dX2_share_126 rfl ?_
          refine j_iconst (n := 128) (nI 1) dX2_share_127 rfl (by decide) ?_
          refine j_iadd (n := 129) dX2_share_128 rfl ?_
          refine j_topi (nI (i + 1)) (nI_add i 1) ?_
          refine j_iload_n2 (n := 130) dX2_share_129 rfl ?_
          refine j_iload5 (n := 132) dX2_share_130 rfl ?_
          refine j_isub (n := 133) dX2_share_132 rfl ?_
          refine j_topi (nI (sp - e)) (pk_sub (by omega)) ?_
          refine j_cV2 (n := 136) (ihm (i + 1) (by omega) (sp - e) (setP p i (F i + e)) _ _ _ (upd wt2 i (iI (wOf (fl n t) (setP p i (F i + e)) i))) f2 (by omega) ?_ ?_ hf2) dX2_share_133 rfl cal_X2_share ml_X2_52 (by omega) (by decide) rfl rfl (Nat.le_of_ble_eq_true rfl) LM_5 ?_
          · intro j hj
            unfold setP
            split
            · omega
            · exact hp j (by omega)
          · intro j hj
            unfold upd
            by_cases q : j = i
            · rw [if_pos q, q]
            · rw [if_neg q, q1 j (by omega), hwt j (by omega), hcong j (by omega)]
          rintro _ M3 ⟨r2, rfl, b3, wt3, sm3, lo3, gz3, rfl, ht3, hf3'⟩
          refine j_bif_eq (n := 139) 141 dX2_share_136 rfl (by decide) (fun e3 => ?_) (fun e3 => ?_)
          · obtain ⟨y1, y2, y3⟩ := hf3' e3
            refine next (fun u hu z => y1 u (adm_up (by omega) hu z)) _ _ _ _ _ (fun j hj => ?_) (fun j hj => ?_)
            · rw [y2 j (by omega), ← q1 j hj]
              exact if_neg (by omega)
            · rw [y3 j (Nat.lt_of_lt_of_le hj (Nat.pow_le_pow_right (by omega) (by omega))), hf3 j hj]
          · obtain ⟨s, y1, y2, y3, y4, y5⟩ := ht3 e3
            have h0 : pu n t i = 0 → e = 0 := fun z => by have := hmo0 z; omega
            have hs : s i = F i + e := by rw [y1.1 i (by omega)]; exact if_pos rfl
            have hd := adm_dn (by omega) h0 hor y1
            refine j_iconst (n := 140) (nI 1) dX2_share_139 rfl (by decide) ?_
            refine j_ret1 (b := true) rfl dX2_share_140 rfl ⟨true, rfl, b3, wt3, sm3, lo3, gz3, rfl, fun _ => ⟨s, hd, fun u hu hlt => ?_, y3, y4, y5⟩, fun z => (Bool.false_ne_true z.symm).elim⟩
            have z1 := q3 u hu
            by_cases q : u i = F i + e
            · exact y2 u (adm_up (by omega) hu q) hlt
            · obtain ⟨k, k1, k2, k3⟩ := hlt
              rcases Nat.lt_trichotomy k i with w | w | w
              · rw [hu.1 k w, hd.1 k w] at k3
                omega
              · subst w
                omega
              · have := k2 i w
                omega
        refine j_aload_n0 (n := 89) dX2_share_88 rfl ?_
        refine j_get (n := 92) (k := 0) dX2_share_89 rfl jcl2 (Nat.le_of_ble_eq_true rfl) fl_X2_9 (by first | decide | omega) (by first | assumption | rfl) (by rfl) ?_
        refine j_iload_n1 (n := 93) dX2_share_92 rfl ?_
        refine j_aload_n0 (n := 94) dX2_share_93 rfl ?_
        refine j_get (n := 97) (k := 5) dX2_share_94 rfl jcl2 (Nat.le_of_ble_eq_true rfl) fl_X2_15 (by first | decide | omega) (by first | assumption | rfl) (by rfl) ?_
        refine j_iload_n1 (n := 98) dX2_share_97 rfl ?_
        refine j_iald_n (n := 99) dX2_share_98 rfl (by first | decide | omega) (by first | assumption | rfl) (by decide) (by first | assumption | omega) ?_
        rw [hpl i hin]
        have hfl := fl_pu (t := t) hn hin hg
        refine j_if_ge (n := 102) 108 dX2_share_99 rfl (by decide) (fun e3 => ?_) (fun e3 => ?_)
        · have e4 : 0 ≤ pu n t i := (iI_le (a := 0) (by omega) (by omega)).mp e3
          refine j_iload6 (n := 110) dX2_share_108 rfl ?_
          refine j_topi _ ?_ h110
          have : wOf (fl n t) (setP p i (F i + e)) i = ((F i + e : Nat) : Int) := by
            unfold wOf setP
            rw [hfl, decide_eq_false (by omega)]
            simp
          rw [this, iI_nat]
        · have e4 : ¬ 0 ≤ pu n t i := fun z => e3 ((iI_le (a := 0) (by omega) (by omega)).mpr z)
          refine j_iload6 (n := 104) dX2_share_102 rfl ?_
          refine j_ineg (n := 105) dX2_share_104 rfl ?_
          refine j_goto 110 dX2_share_105 (by decide) ?_
          refine j_topi _ ?_ h110
          have : wOf (fl n t) (setP p i (F i + e)) i = -((F i + e : Nat) : Int) := by
            unfold wOf setP
            rw [hfl, decide_eq_true (by omega)]
            simp
          rw [this, ← iI_neg, iI_nat]
    have h40 : ∀ le : Nat, le ≤ sp → (∀ u, AdmP n t F sp i p u → F i + le ≤ u i) → J g jX2_share (m + 1 + 3) (shK g M sz n t F sp i p wt sm) 40 [some (.ref (jA g 5)), some (.int (nI i)), some (.int (nI sp)), none, none, none, none] [.int (nI le)] (LM g M sz n t b wt sm lo gz) := by
      intro le hle hu
      refine j_istore_n3 (n := 41) dX2_share_40 rfl (Nat.le_of_ble_eq_true rfl) rfl ?_
      refine j_aload_n0 (n := 42) dX2_share_41 rfl ?_
      refine j_get (n := 45) (k := 5) dX2_share_42 rfl jcl2 (Nat.le_of_ble_eq_true rfl) fl_X2_15 (by first | decide | omega) (by first | assumption | rfl) (by rfl) ?_
      refine j_iload_n1 (n := 46) dX2_share_45 rfl ?_
      refine j_iald_n (n := 47) dX2_share_46 rfl (by first | decide | omega) (by first | assumption | rfl) (by decide) (by first | assumption | omega) ?_
      rw [hpl i hin]
      refine j_if_ne (n := 50) 54 dX2_share_47 rfl (by decide) (fun e3 => ?_) (fun e3 => ?_)
      · have e4 : pu n t i ≠ 0 := fun z => e3 (by rw [z]; rfl)
        refine j_iload_n2 (n := 55) dX2_share_54 rfl ?_
        refine j_istore4 (n := 57) dX2_share_55 rfl (Nat.le_of_ble_eq_true rfl) rfl ?_
        refine j_iload_n3 (n := 58) dX2_share_57 rfl ?_
        refine j_istore5 (n := 60) dX2_share_58 rfl (Nat.le_of_ble_eq_true rfl) rfl ?_
        exact key sp (Nat.le_refl _) (fun z => (e4 z).elim) (fun _ => rfl) le le (by omega) _ _ _ _ _ _ (fun j _ => rfl) (fun j _ => rfl) hu
      · have e4 : pu n t i = 0 := (iI_eq (b := 0) (by omega) (by omega)).mp e3
        refine j_iconst (n := 51) (nI 0) dX2_share_50 rfl (by decide) ?_
        refine j_goto 55 dX2_share_51 (by decide) ?_
        refine j_istore4 (n := 57) dX2_share_55 rfl (Nat.le_of_ble_eq_true rfl) rfl ?_
        refine j_iload_n3 (n := 58) dX2_share_57 rfl ?_
        refine j_istore5 (n := 60) dX2_share_58 rfl (Nat.le_of_ble_eq_true rfl) rfl ?_
        exact key 0 (by omega) (fun _ => rfl) (fun z => (z e4).elim) le le (by omega) _ _ _ _ _ _ (fun j _ => rfl) (fun j _ => rfl) hu
    refine j_nicmp_ne (n := 35) 39 dX2_share_32 rfl (by decide) (by omega) (by omega) (fun e1 => ?_) (fun e1 => ?_)
    · refine j_iconst (n := 40) (nI 0) dX2_share_39 rfl (by decide) ?_
      exact h40 0 (by omega) (fun u hu => (hu.2.1 i (Nat.le_refl _) hin).1)
    · refine j_iload_n2 (n := 36) dX2_share_35 rfl ?_
      refine j_goto 40 dX2_share_36 (by decide) ?_
      exact h40 sp (by omega) (fun u hu => by rw [adm_last (by omega) hu]; omega)
