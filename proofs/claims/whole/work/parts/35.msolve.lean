theorem wOf_cong {sg sg2 : Nat → Bool} {s s2 : Nat → Nat} {i : Nat} (h1 : sg i = sg2 i) (h2 : s i = s2 i) : wOf sg s i = wOf sg2 s2 i := by
  unfold wOf
  rw [h1, h2]
theorem mx_cong {t : Nat} {x y : Nat → Int} : ∀ r : Nat, (∀ j, j < r → x j = y j) → mLow t x r = mLow t y r ∧ mHi t x r = mHi t y r ∧ mLe x r = mLe y r
  | 0, _ => ⟨rfl, rfl, rfl⟩
  | r + 1, h => by
    obtain ⟨h1, h2, h3⟩ := mx_cong (t := t) r (fun j hj => h j (by omega))
    unfold mLow mHi mLe
    rw [h1, h2, h3, h r (by omega)]
    exact ⟨rfl, rfl, rfl⟩
theorem sep_cong {n t : Nat} {w w2 : Nat → Int} (h : ∀ i, i < n → w i = w2 i) : sepB n t w = sepB n t w2 ∧ bndW n t w = bndW n t w2 := by
  obtain ⟨h1, h2, h3⟩ := mx_cong (t := t) (x := fun r => rsum w r n) (y := fun r => rsum w2 r n) (2 ^ n) (fun r _ => rsum_cong n h)
  unfold sepB bndW
  rw [h1, h2, h3]
  exact ⟨rfl, rfl⟩
/-- sizes s weigh the table, with the signs that it has -/
def sepS (n t : Nat) (s : Nat → Nat) : Prop := sepB n t (wOf (fl n t) s) = true
theorem sepS_cong {n t : Nat} {s v : Nat → Nat} (h : ∀ i, i < n → s i = v i) : sepS n t s ↔ sepS n t v := by
  unfold sepS
  rw [(sep_cong (fun i hi => wOf_cong rfl (h i hi))).1]
/-- the least sizes: the least sum, of like ones the first -/
def LW (n t : Nat) (s : Nat → Nat) : Prop := sepS n t s ∧ (∀ v, fb_sm v n < fb_sm s n → ¬ sepS n t v) ∧ ∀ v, fb_sm v n = fb_sm s n → vlt n v s → ¬ sepS n t v
theorem vtri (n : Nat) (s v : Nat → Nat) : (∀ i, i < n → s i = v i) ∨ vlt n s v ∨ vlt n v s := by
  induction n with
  | zero => exact Or.inl (fun i h => absurd h (Nat.not_lt_zero i))
  | succ n ih =>
    rcases ih with h | ⟨i, h1, h2, h3⟩ | ⟨i, h1, h2, h3⟩
    · rcases Nat.lt_trichotomy (s n) (v n) with q | q | q
      · exact Or.inr (Or.inl ⟨n, by omega, h, q⟩)
      · refine Or.inl (fun i hi => ?_)
        rcases Nat.eq_or_lt_of_le (show i ≤ n by omega) with z | z
        · rw [z]; exact q
        · exact h i z
      · exact Or.inr (Or.inr ⟨n, by omega, fun j hj => (h j hj).symm, q⟩)
    · exact Or.inr (Or.inl ⟨i, by omega, h2, h3⟩)
    · exact Or.inr (Or.inr ⟨i, by omega, h2, h3⟩)
theorem LW_one {n t : Nat} {s v : Nat → Nat} (hs : LW n t s) (hv : LW n t v) : ∀ i, i < n → s i = v i := by
  have e : fb_sm s n = fb_sm v n := by
    rcases Nat.lt_trichotomy (fb_sm s n) (fb_sm v n) with q | q | q
    · exact absurd hs.1 (hv.2.1 s q)
    · exact q
    · exact absurd hv.1 (hs.2.1 v q)
  rcases vtri n s v with h | h | h
  · exact h
  · exact absurd hs.1 (hv.2.2 s e h)
  · exact absurd hv.1 (hs.2.2 v e.symm h)
/-- a number that grows with the order -/
def vrk (s : Nat → Nat) : Nat → Nat
  | 0 => 0
  | i + 1 => vrk s i * 101 + s i
theorem vrk_lt {s : Nat → Nat} : ∀ n : Nat, (∀ i, i < n → s i ≤ 100) → vrk s n < 101 ^ n
  | 0, _ => by simp [vrk]
  | n + 1, h => by
    have h1 := vrk_lt n (fun i hi => h i (by omega))
    have h2 := h n (by omega)
    unfold vrk
    rw [Nat.pow_succ]
    omega
theorem vrk_mono {s v : Nat → Nat} : ∀ n : Nat, (∀ i, i < n → s i ≤ 100) → vlt n s v → vrk s n < vrk v n
  | 0, _, h => by
    obtain ⟨i, hi, _⟩ := h
    omega
  | n + 1, hb, ⟨i, h1, h2, h3⟩ => by
    unfold vrk
    rcases Nat.eq_or_lt_of_le (show i ≤ n by omega) with z | z
    · subst z
      have e : vrk s i = vrk v i := by
        have : ∀ k, k ≤ i → vrk s k = vrk v k := by
          intro k
          induction k with
          | zero => intro _; rfl
          | succ k ih =>
            intro hk
            unfold vrk
            rw [ih (by omega), h2 k (by omega)]
        exact this i (Nat.le_refl _)
      omega
    · have := vrk_mono n (fun i hi => hb i (by omega)) ⟨i, z, h2, h3⟩
      have := hb n (by omega)
      omega
/-- what the reference knows once a table is solved -/
def slvOK (g : jG) (M : jMem) (q : jMq) (n t : Nat) : Prop := q.2.2.1 = jB (isG n t) ∧ (isG n t = false → ∃ wt, M 39 = iA g 4 wt ∧ witF wt (wA n t) (wB n t (wA n t)) (wC n t (wA n t) (wB n t (wA n t))) (wD n t (wA n t) (wB n t (wA n t)))) ∧ (isG n t = true → ∃ s sz wv, LW n t s ∧ fb_sm s n ≤ 16 ∧ M 40 = iA g 5 sz ∧ (∀ i, i < n → sz i = nI (s i)) ∧ M 41 = iA g 5 wv ∧ (∀ i, i < n → wv i = iI (wOf (fl n t) s i)) ∧ q.2.2.2.1 = iI (bndW n t (wOf (fl n t) s)))
def mS (g : jG) (M : jMem) : Prop := ∃ th hf wt sz wv, M 37 = iA g 32 th ∧ M 38 = zA g 243 hf ∧ M 39 = iA g 4 wt ∧ M 40 = iA g 5 sz ∧ M 41 = iA g 5 wv
def cInv (g : jG) (M : jMem) (q : jMq) : Prop := ∀ n t, 1 ≤ n → n ≤ 5 → t < 2 ^ 32 → q.1 = lN t → q.2.1 = nI n → slvOK g M q n t
/-- but for the solver's cells nothing has changed -/
def sFr (M M2 : jMem) : Prop := ∀ k, k ≠ 34 → k ≠ 37 → k ≠ 38 → k ≠ 39 → k ≠ 40 → k ≠ 41 → M2 k = M k
theorem sFr.rf {M : jMem} : sFr M M := fun _ _ _ _ _ _ _ => rfl
theorem sFr.up {M M2 : jMem} (h : sFr M M2) {k : Nat} {e : va_E} (hk : k = 34 ∨ (37 ≤ k ∧ k ≤ 41)) : sFr M (va_up M2 k e) := fun j h1 h2 h3 h4 h5 h6 => (va_at_ne (by omega)).trans (h j h1 h2 h3 h4 h5 h6)
/-- every gate has a weighing of a sum of sizes of 16 at most -/
def EXg (n t : Nat) : Prop := ∃ s, fb_sm s n ≤ 16 ∧ sepS n t s
def MM (g : jG) (M : jMem) (sz wv : Nat → Int32) (q : jMq) : jMem := va_up (va_up (va_up M 40 (iA g 5 sz)) 41 (iA g 5 wv)) 34 (.inr (7, oMod g q))
theorem MM_parts {g : jG} {M : jMem} {sz wv wv2 : Nat → Int32} {q q2 : jMq} : va_up (va_up (MM g M sz wv q) 41 (iA g 5 wv2)) 34 (.inr (7, oMod g q2)) = MM g M sz wv2 q2 := by
  unfold MM
  rw [va_comm (show (41 : Nat) ≠ 34 by decide), va_uu, va_uu]
theorem MM_size {g : jG} {M : jMem} {sz sz2 wv : Nat → Int32} {q : jMq} : va_up (MM g M sz wv q) 40 (iA g 5 sz2) = MM g M sz2 wv q := by
  unfold MM
  rw [va_comm (show (40 : Nat) ≠ 34 by decide), va_comm (show (40 : Nat) ≠ 41 by decide), va_uu]
theorem fl_bit {n t i : Nat} (h : i < n) : (mkT n (fl n t)).testBit i = fl n t i := by
  rw [mkT_bit]
  simp [h]
set_option maxRecDepth 100000 in
set_option maxHeartbeats 1000000 in
/-- the search of the reference, from its start on -/
theorem solve_run {g : jG} {M : jMem} {q0 : jMq} {n t : Nat} {sz wv : Nat → Int32} {K : Option Value → jMem → Prop} (h1 : 1 ≤ n) (hn : n ≤ 5) (ht : t < 2 ^ 32) (hex : EXg n t) (hK : ∀ s sz2 wv2, LW n t s → fb_sm s n ≤ 16 → (∀ i, i < n → sz2 i = nI (s i)) → (∀ i, i < n → wv2 i = iI (wOf (fl n t) s i)) → K none (MM g M sz2 wv2 (qB q0 (iI (bndW n t (wOf (fl n t) s)))))) : J g jX8_solve 4 K 66 [some (.ref (jA g 34)), some (.long (lN t)), none, some (.int (nI n)), some (.int (nI (mkT n (fl n t)))), some (.int (nI 0)), some (.int (nI 0)), none] [] (MM g M sz wv q0) := by
  have hsg : mkT n (fl n t) < 32 := Nat.lt_of_lt_of_le (mkT_lt (fl n t) n) (pw5 hn)
  obtain ⟨S0, ⟨u, hu1, hu2⟩, hmin⟩ := pk_least (fun k => ∃ s, fb_sm s n = k ∧ sepS n t s) (by obtain ⟨s, _, h3⟩ := hex; exact ⟨_, s, rfl, h3⟩)
  have hS16 : S0 ≤ 16 := by
    obtain ⟨s, h2, h3⟩ := hex
    rcases Nat.lt_or_ge 16 S0 with z | z
    · exact absurd ⟨s, rfl, h3⟩ (hmin (fb_sm s n) (by omega))
    · exact z
  have outer : ∀ S, S ≤ S0 → ∀ (sz wv : Nat → Int32) (b : Int32) (x7 : Option Value), J g jX8_solve 4 K 66 [some (.ref (jA g 34)), some (.long (lN t)), none, some (.int (nI n)), some (.int (nI (mkT n (fl n t)))), some (.int (nI 0)), some (.int (nI S)), x7] [] (MM g M sz wv (qB q0 b)) := by
    have body : ∀ S, S ≤ S0 → (S < S0 → ∀ (sz wv : Nat → Int32) (b : Int32) (x7 : Option Value), J g jX8_solve 4 K 66 [some (.ref (jA g 34)), some (.long (lN t)), none, some (.int (nI n)), some (.int (nI (mkT n (fl n t)))), some (.int (nI 0)), some (.int (nI (S + 1))), x7] [] (MM g M sz wv (qB q0 b))) → ∀ (sz wv : Nat → Int32) (b : Int32) (x7 : Option Value), J g jX8_solve 4 K 66 [some (.ref (jA g 34)), some (.long (lN t)), none, some (.int (nI n)), some (.int (nI (mkT n (fl n t)))), some (.int (nI 0)), some (.int (nI S)), x7] [] (MM g M sz wv (qB q0 b)) := by
      intro S hS ihS sz wv b x7
      refine j_iload5 (n := 68) dX8_solve_66 rfl ?_
      refine j_if_ne (n := 71) 161 dX8_solve_68 rfl (by decide) (fun e => ?_) (fun e => ?_)
      · exact absurd rfl e
      refine j_iconst (n := 72) (nI 0) dX8_solve_71 rfl (by decide) ?_
      refine j_istore7 (n := 74) dX8_solve_72 rfl (Nat.le_of_ble_eq_true rfl) rfl ?_
      have inner : ∀ m s, 101 ^ n ≤ vrk s n + m → fb_sm s n = S → (∀ v, fb_sm v n = S → vlt n v s → ¬ sepS n t v) → ∀ (sz wv : Nat → Int32) (b : Int32), (∀ i, i < n → sz i = nI (s i)) → J g jX8_solve 4 K 110 [some (.ref (jA g 34)), some (.long (lN t)), none, some (.int (nI n)), some (.int (nI (mkT n (fl n t)))), some (.int (jB false)), some (.int (nI S)), some (.int (jB true))] [] (MM g M sz wv (qB q0 b)) := by
        intro m
        induction m with
        | zero =>
          intro s hm hs
          have := vrk_lt (s := s) n (fun i hi => Nat.le_trans (sm_at hi) (by omega))
          omega
        | succ m ih =>
          intro s hm hs hno sz wv b hsz
          have hsb : ∀ i, i < n → s i ≤ 100 := fun i hi => Nat.le_trans (sm_at hi) (by omega)
          have e0 := sep_cong (n := n) (t := t) (w := wOf (mkT n (fl n t)).testBit s) (w2 := wOf (fl n t) s) (fun i hi => wOf_cong (fl_bit hi) rfl)
          refine j_iload7 (n := 112) dX8_solve_110 rfl ?_
          refine j_bif_eq (n := 115) 155 dX8_solve_112 rfl (by decide) (fun z1 => ?_) (fun z1 => ?_)
          · cases z1
          refine j_iload5 (n := 117) dX8_solve_115 rfl ?_
          refine j_bif_ne (n := 120) 155 dX8_solve_117 rfl (by decide) (fun z2 => ?_) (fun z2 => ?_)
          · cases z2
          refine j_aload_n0 (n := 121) dX8_solve_120 rfl ?_
          refine j_lload_n1 (n := 122) dX8_solve_121 rfl ?_
          refine j_iload_n3 (n := 123) dX8_solve_122 rfl ?_
          refine j_iload4 (n := 125) dX8_solve_123 rfl ?_
          refine j_cV3 (n := 128) (con_X8_parts (M := MM g M sz wv (qB q0 b)) (q := qB q0 b) rfl rfl rfl hn ht hsg (fun i hi => ⟨hsz i hi, hsb i hi⟩)) dX8_solve_125 rfl cal_X8_parts ml_X8_153 (Nat.le_of_ble_eq_true rfl) (by first | decide | omega) rfl rfl (Nat.le_of_ble_eq_true rfl) (by first | assumption | rfl) ?_
          rintro _ M2 ⟨rfl, wv2, rfl, hwv2⟩
          rw [MM_parts, e0.1]
          have eq2 : qB (qB q0 b) (iI (bndW n t (wOf (mkT n (fl n t)).testBit s))) = qB q0 (iI (bndW n t (wOf (fl n t) s))) := by rw [e0.2]; rfl
          rw [eq2]
          refine j_istore5 (n := 130) dX8_solve_128 rfl (Nat.le_of_ble_eq_true rfl) rfl ?_
          refine j_iload5 (n := 132) dX8_solve_130 rfl ?_
          refine j_bif_ne (n := 135) 149 dX8_solve_132 rfl (by decide) (fun f1 => ?_) (fun f1 => ?_)
          · have hsep : sepS n t s := f1
            rw [f1]
            refine j_iconst (n := 150) (nI 0) dX8_solve_149 rfl (by decide) ?_
            refine j_istore7 (n := 152) dX8_solve_150 rfl (Nat.le_of_ble_eq_true rfl) rfl ?_
            refine j_goto 110 dX8_solve_152 (by decide) ?_
            refine j_iload7 (n := 112) dX8_solve_110 rfl ?_
            refine j_if_eq (n := 115) 155 dX8_solve_112 rfl (by decide) (fun _ => ?_) (fun z => absurd rfl z)
            refine j_inc6 (n := 158) dX8_solve_155 rfl (Nat.le_of_ble_eq_true rfl) rfl ?_
            refine j_goto 66 dX8_solve_158 (by decide) ?_
            refine j_iload5 (n := 68) dX8_solve_66 rfl ?_
            refine j_bif_ne (n := 71) (b := true) 161 dX8_solve_68 rfl (by decide) (fun _ => ?_) (fun z => by cases z)
            refine j_vret dX8_solve_161 rfl ?_
            refine hK s sz wv2 ⟨hsep, fun v hv hv2 => ?_, fun v hv hv2 => hno v (by omega) hv2⟩ (by omega) hsz (fun i hi => ?_)
            · exact hmin (fb_sm v n) (by omega) ⟨v, rfl, hv2⟩
            · rw [hwv2 i hi, wOf_cong (fl_bit hi) rfl]
          · have hsep : ¬ sepS n t s := fun z => by unfold sepS at z; rw [f1] at z; cases z
            rw [f1]
            refine j_aload_n0 (n := 136) dX8_solve_135 rfl ?_
            refine j_iload_n3 (n := 137) dX8_solve_136 rfl ?_
            refine j_iload6 (n := 139) dX8_solve_137 rfl ?_
            refine j_cV2 (n := 142) (con_X8_next (M := MM g M sz wv2 (qB q0 (iI (bndW n t (wOf (fl n t) s))))) (q := qB q0 (iI (bndW n t (wOf (fl n t) s)))) rfl rfl h1 hn hsz hs (by omega)) dX8_solve_139 rfl cal_X8_next ml_X8_157 (Nat.le_of_ble_eq_true rfl) (by first | decide | omega) rfl rfl (Nat.le_of_ble_eq_true rfl) (by first | assumption | rfl) ?_
            rintro v0 M2 (⟨rfl, rfl, hz⟩ | ⟨rfl, j, sz2, rfl, hsz2, hj1, hj2, hj3⟩)
            · refine j_bif_eq (n := 145) (b := false) 149 dX8_solve_142 rfl (by decide) (fun _ => ?_) (fun z => by cases z)
              refine j_iconst (n := 150) (nI 0) dX8_solve_149 rfl (by decide) ?_
              refine j_istore7 (n := 152) dX8_solve_150 rfl (Nat.le_of_ble_eq_true rfl) rfl ?_
              refine j_goto 110 dX8_solve_152 (by decide) ?_
              refine j_iload7 (n := 112) dX8_solve_110 rfl ?_
              refine j_if_eq (n := 115) 155 dX8_solve_112 rfl (by decide) (fun _ => ?_) (fun z => absurd rfl z)
              have hlt : S < S0 := by
                rcases Nat.eq_or_lt_of_le hS with z | z
                · subst z
                  exfalso
                  rcases vtri n u s with y | y | y
                  · exact hsep ((sepS_cong y).mp hu2)
                  · exact hno u hu1 y hu2
                  · exact no_next hz (by omega) y
                · exact z
              refine j_inc6 (n := 158) dX8_solve_155 rfl (Nat.le_of_ble_eq_true rfl) rfl ?_
              refine j_goto 66 dX8_solve_158 (by decide) ?_
              exact ihS hlt _ _ _ _
            · rw [MM_size]
              refine j_bif_eq (n := 145) (b := true) 149 dX8_solve_142 rfl (by decide) (fun z => by cases z) (fun _ => ?_)
              refine j_iconst (n := 146) (nI 1) dX8_solve_145 rfl (by decide) ?_
              refine j_goto 150 dX8_solve_146 (by decide) ?_
              refine j_istore7 (n := 152) dX8_solve_150 rfl (Nat.le_of_ble_eq_true rfl) rfl ?_
              refine j_goto 110 dX8_solve_152 (by decide) ?_
              have hsum := nxt_sum hj1 hj2 hj3
              have hlt := nxt_lt (s := s) hj1
              have hrk := vrk_mono n hsb hlt
              refine ih (nxt n j s) (by omega) (by omega) (fun v hv hv2 => ?_) _ _ _ hsz2
              rcases vtri n v s with y | y | y
              · exact fun z => hsep ((sepS_cong y).mp z)
              · exact hno v hv y
              · exact absurd hv2 (nxt_first hj1 hj2 hj3 (by omega) y)
      have init : ∀ i, i ≤ n → ∀ f : Nat → Int32, (∀ k, k < i → f k = nI (if k = n - 1 then S else 0)) → J g jX8_solve 4 K 74 [some (.ref (jA g 34)), some (.long (lN t)), none, some (.int (nI n)), some (.int (nI (mkT n (fl n t)))), some (.int (nI 0)), some (.int (nI S)), some (.int (nI i))] [] (MM g M f wv (qB q0 b)) := by
        refine j_for ?_ ?_
        · intro f hf
          refine j_iload7 (n := 76) dX8_solve_74 rfl ?_
          refine j_iload_n3 (n := 77) dX8_solve_76 rfl ?_
          refine j_nicmp_ge (n := 80) 107 dX8_solve_77 rfl (by decide) (by omega) (by omega) (fun h => ?_) (fun h => ?_)
          rotate_left
          · omega
          refine j_iconst (n := 108) (nI 1) dX8_solve_107 rfl (by decide) ?_
          refine j_istore7 (n := 110) dX8_solve_108 rfl (Nat.le_of_ble_eq_true rfl) rfl ?_
          have hsum : fb_sm (fun k => if k = n - 1 then S else 0) n = S := by
            obtain ⟨m, rfl⟩ : ∃ m, n = m + 1 := ⟨n - 1, by omega⟩
            show fb_sm _ m + _ = S
            rw [sm_to (m := 0) (Nat.zero_le _) (fun k _ hk => by simp; omega)]
            simp [fb_sm]
          refine inner (101 ^ n) (fun k => if k = n - 1 then S else 0) (by omega) hsum (fun v hv hv2 => ?_) f wv b hf
          exfalso
          obtain ⟨i, hi, ha, hb⟩ := hv2
          have hb : v i < if i = n - 1 then S else 0 := hb
          by_cases z : i = n - 1
          · rw [if_pos z] at hb
            have h2 : fb_sm v n = fb_sm v i + v i := by
              have e : n = i + 1 := by omega
              rw [e]; rfl
            have h3 : fb_sm v i = 0 := by
              rw [fb_sm_cong (g := fun _ => 0) (fun k hk => by rw [ha k hk]; exact if_neg (by omega)), fb_sm_const]
              omega
            omega
          · rw [if_neg z] at hb
            omega
        · intro i hi ih f hf
          refine j_iload7 (n := 76) dX8_solve_74 rfl ?_
          refine j_iload_n3 (n := 77) dX8_solve_76 rfl ?_
          refine j_nicmp_ge (n := 80) 107 dX8_solve_77 rfl (by decide) (by omega) (by omega) (fun h => ?_) (fun h => ?_)
          · omega
          refine j_aload_n0 (n := 81) dX8_solve_80 rfl ?_
          refine j_get (n := 84) (k := 8) dX8_solve_81 rfl jcl7 (Nat.le_of_ble_eq_true rfl) fl_X8_33 (by first | decide | omega) (by first | assumption | rfl) (by rfl) ?_
          refine j_iload7 (n := 86) dX8_solve_84 rfl ?_
          refine j_iload7 (n := 88) dX8_solve_86 rfl ?_
          refine j_iload_n3 (n := 89) dX8_solve_88 rfl ?_
          refine j_iconst (n := 90) (nI 1) dX8_solve_89 rfl (by decide) ?_
          refine j_isub (n := 91) dX8_solve_90 rfl ?_
          refine j_topi (nI (n - 1)) (pk_sub h1) ?_
          have fin : ∀ z : Nat, z = (if i = n - 1 then S else 0) → J g jX8_solve 4 K 100 [some (.ref (jA g 34)), some (.long (lN t)), none, some (.int (nI n)), some (.int (nI (mkT n (fl n t)))), some (.int (nI 0)), some (.int (nI S)), some (.int (nI i))] [.int (nI z), .int (nI i), .ref (jA g 40)] (MM g M f wv (qB q0 b)) := by
            intro z hz
            refine j_iast_n (n := 101) dX8_solve_100 rfl (by first | decide | omega) (by first | assumption | rfl) (by decide) (by first | assumption | omega) ?_
            refine j_inc7 (n := 104) dX8_solve_101 rfl (Nat.le_of_ble_eq_true rfl) rfl ?_
            refine j_goto 74 dX8_solve_104 (by decide) ?_
            rw [MM_size]
            refine ih _ (fun k hk => ?_)
            by_cases y : k = i
            · rw [y, pk_us, hz]
            · rw [pk_un y]
              exact hf k (by omega)
          refine j_nicmp_ne (n := 94) 99 dX8_solve_91 rfl (by decide) (by omega) (by omega) (fun e => ?_) (fun e => ?_)
          · refine j_iconst (n := 100) (nI 0) dX8_solve_99 rfl (by decide) ?_
            exact fin 0 (by rw [if_neg e])
          · refine j_iload6 (n := 96) dX8_solve_94 rfl ?_
            refine j_goto 100 dX8_solve_96 (by decide) ?_
            exact fin S (by rw [if_pos e])
      exact init 0 (Nat.zero_le _) sz (fun k hk => absurd hk (Nat.not_lt_zero k))
    refine j_for ?_ ?_
    · exact body S0 (Nat.le_refl _) (fun z => absurd z (Nat.lt_irrefl _))
    · intro S hS ih
      exact body S (by omega) (fun _ => ih)
  exact outer 0 (Nat.zero_le _) sz wv q0.2.2.2.1 none
