theorem rsum_ao {w : Nat → Int} {a b : Nat} : ∀ i, rsum w (a &&& b) i + rsum w (a ||| b) i = rsum w a i + rsum w b i
  | 0 => rfl
  | i + 1 => by
    have h := rsum_ao (w := w) (a := a) (b := b) i
    unfold rsum
    rw [Nat.testBit_and, Nat.testBit_or]
    cases a.testBit i <;> cases b.testBit i <;> simp <;> omega
theorem sep_isG {n t : Nat} (hn : n ≤ 5) (w : Nat → Int) (h : ∀ o z, o < 2 ^ n → z < 2 ^ n → t.testBit o = true → t.testBit z = false → rsum w z n < rsum w o n) : isG n t = true := by
  refine isG_of hn (fun a b c d ha hb hc hd e1 e2 e3 e4 e5 e6 => ?_)
  have h1 := rsum_ao (w := w) (a := a) (b := b) n
  have h2 := rsum_ao (w := w) (a := c) (b := d) n
  rw [e5, e6] at h2
  have h3 := h a c ha hc e1 e3
  have h4 := h b d hb hd e2 e4
  omega
theorem sepK_of {n t gt k : Nat} (hn : n ≤ 3) (h : ∀ o z, o < 2 ^ n → z < 2 ^ n → t.testBit o = true → t.testBit z = false → xsum (wK k) n gt z < xsum (wK k) n gt o) : sepK n t gt k = true := by
  have hb : ∀ r, -12 ≤ xsum (wK k) n gt r ∧ xsum (wK k) n gt r ≤ 12 := fun r => xsum_bd hn
  unfold sepK
  rw [decide_eq_true_eq]
  rcases mLow_in (t := t) (x := xsum (wK k) n gt) (2 ^ n) with e | ⟨o, ho, ho2, e⟩
  · rcases mHi_in (t := t) (x := xsum (wK k) n gt) (2 ^ n) with f | ⟨z, hz, hz2, f⟩
    · omega
    · have := hb z
      omega
  · rcases mHi_in (t := t) (x := xsum (wK k) n gt) (2 ^ n) with f | ⟨z, hz, hz2, f⟩
    · have := hb o
      omega
    · have := h o z ho hz ho2 hz2
      omega
theorem sepK_pair {n t gt k : Nat} (h : sepK n t gt k = true) {o z : Nat} (ho : o < 2 ^ n) (hz : z < 2 ^ n) (h1 : t.testBit o = true) (h0 : t.testBit z = false) : xsum (wK k) n gt z < xsum (wK k) n gt o := by
  unfold sepK at h
  rw [decide_eq_true_eq] at h
  have a := mLow_le (t := t) (x := xsum (wK k) n gt) ho h1
  have b := mHi_ge (t := t) (x := xsum (wK k) n gt) hz h0
  omega
theorem secB_iff {n t gt : Nat} : secB n t gt = true ↔ ∃ k, k < 7 ^ (n + 1) ∧ sepK n t gt k = true := by
  unfold secB
  rw [decide_eq_true_eq]
  constructor
  · intro h
    exact ⟨_, h, fa_first_yes _ _ h⟩
  · rintro ⟨k, hk, hs⟩
    exact ff_yes hk hs
theorem psB_iff {n t gt : Nat} : psB n t gt = true ↔ ∃ k, k < 96 ∧ pso n t gt k = true := by
  unfold psB
  rw [decide_eq_true_eq]
  constructor
  · intro h
    exact ⟨_, h, fa_first_yes _ _ h⟩
  · rintro ⟨k, hk, hs⟩
    exact ff_yes hk hs
theorem nsum_r (kk r : Nat) : ∀ n, (nsum (dg7 kk) r n : Int) = rsum (wK kk) r n + 3 * (n : Int)
  | 0 => rfl
  | n + 1 => by
    have h := nsum_r kk r n
    have e : ((dg7 kk n : Nat) : Int) = wK kk n + 3 := by
      show ((kk / 7 ^ n % 7 : Nat) : Int) = ((kk / 7 ^ n % 7 : Nat) : Int) - 3 + 3
      omega
    show ((nsum (dg7 kk) r n + (if r.testBit n then dg7 kk n else 3) : Nat) : Int) = rsum (wK kk) r n + (if r.testBit n then wK kk n else 0) + 3 * ((n + 1 : Nat) : Int)
    cases r.testBit n
    · simp only [Bool.false_eq_true, if_false]
      omega
    · simp only [if_true]
      omega
theorem xN_r (kk n gt r : Nat) : (xN kk n gt r : Int) = xsum (wK kk) n gt r + 3 * ((n + 1 : Nat) : Int) := by
  have h := nsum_r kk r n
  have e : ((dg7 kk n : Nat) : Int) = wK kk n + 3 := by
    show ((kk / 7 ^ n % 7 : Nat) : Int) = ((kk / 7 ^ n % 7 : Nat) : Int) - 3 + 3
    omega
  unfold xN xsum
  cases gt.testBit r
  · simp only [Bool.false_eq_true, if_false]
    omega
  · simp only [if_true]
    omega
theorem gtb_lt (n cg b : Nat) : gtb n cg b < 2 ^ 2 ^ n := mkT_lt _ _
theorem gtb_G {n cg b : Nat} (hn : n ≤ 5) : isG n (gtb n cg b) = true := by
  refine sep_isG hn (wK cg) (fun o z ho hz h1 h0 => ?_)
  unfold gtb at h1 h0
  rw [mkT_bit] at h1 h0
  simp only [ho, hz, decide_true, Bool.true_and] at h1 h0
  have a := Nat.ble_eq.mp h1
  have b2 : ¬ b ≤ nsum (dg7 cg) z n := fun y => by rw [Nat.ble_eq.mpr y] at h0; cases h0
  have c := nsum_r cg o n
  have d := nsum_r cg z n
  omega
theorem chkT_at {n : Nat} : ∀ (l : List Nat) (t : Nat), chkT n l t = true → ∀ i, i < l.length → ∃ c, okT n (t + i) c = true
  | [], _, _, i, hi => absurd hi (Nat.not_lt_zero i)
  | c :: l, t, h, i, hi => by
    unfold chkT at h
    rw [Bool.and_eq_true] at h
    rcases Nat.eq_zero_or_pos i with e | e
    · rw [e]
      exact ⟨c, h.1⟩
    · have h2 := chkT_at l (t + 1) h.2 (i - 1) (by rw [List.length_cons] at hi; omega)
      rw [show t + 1 + (i - 1) = t + i by omega] at h2
      exact h2
theorem okT_ex {n t : Nat} (h1 : 1 ≤ n) (hn : n ≤ 3) (ht : t < 2 ^ 2 ^ n) : ∃ c, okT n t c = true := by
  rcases (show n = 1 ∨ n = 2 ∨ n = 3 by omega) with e | e | e <;> subst e
  · have := chkT_at _ _ chk_1.1 t (by rw [chk_1.2]; exact ht)
    rw [Nat.zero_add] at this
    exact this
  · have := chkT_at _ _ chk_2.1 t (by rw [chk_2.2]; exact ht)
    rw [Nat.zero_add] at this
    exact this
  · have := chkT_at _ _ chk_3.1 t (by rw [chk_3.2]; exact ht)
    rw [Nat.zero_add] at this
    exact this
/-- two gates are enough -/
theorem first_ex {n t : Nat} (h1 : 1 ≤ n) (hn : n ≤ 3) (ht : t < 2 ^ 2 ^ n) : ∃ gt, gt < 2 ^ 2 ^ n ∧ fstB n t gt = true := by
  obtain ⟨c, hc⟩ := okT_ex h1 hn ht
  unfold okT at hc
  rw [Bool.and_eq_true, List.all_eq_true] at hc
  obtain ⟨hk, hr⟩ := hc
  refine ⟨cfG n c, gtb_lt _ _ _, ?_⟩
  unfold fstB
  rw [show isG n (cfG n c) = true from gtb_G (by omega), Bool.true_and, secB_iff]
  refine ⟨cfK c, Nat.ble_eq.mp hk, sepK_of hn (fun o z ho hz e1 e0 => ?_)⟩
  have a := hr o (List.mem_range.mpr ho)
  have b := hr z (List.mem_range.mpr hz)
  rw [beq_iff_eq] at a b
  rw [e1] at a
  rw [e0] at b
  have a2 := Nat.ble_eq.mp a.symm
  have b2 : ¬ cfT c ≤ xN (cfK c) n (cfG n c) z := fun y => by rw [Nat.ble_eq.mpr y] at b; cases b
  have c1 := xN_r (cfK c) n (cfG n c) o
  have c2 := xN_r (cfK c) n (cfG n c) z
  omega
theorem rs3 {m : Nat} {u : Nat → Nat} {n r : Nat} (hn : n ≤ 3) (hr : r < 2 ^ n) : rsum (wOf (fun i => m.testBit i) u) r n = (psum u (r ^^^ m) 3 : Int) - (psum u m 3 : Int) := by
  have h := rsum_psum (sg := fun i => m.testBit i) (s := u) (m := m) (x := r ^^^ m) 3 (fun i _ => rfl)
  rw [Nat.xor_assoc, Nat.xor_self, Nat.xor_zero] at h
  have h2 := rsum_hi (w := wOf (fun i => m.testBit i) u) hr (3 - n)
  rw [show n + (3 - n) = 3 by omega] at h2
  rw [← h2, h]
theorem oW_w (k : Nat) : oW k = wOf (fun i => (k % 8).testBit i) (fun i => SZo (k / 8 * 3 + i)) := rfl
theorem os3 {k n r : Nat} (hn : n ≤ 3) (hr : r < 2 ^ n) : rsum (oW k) r n = (Sj (k / 8) (r ^^^ (k % 8)) : Int) - (Sj (k / 8) (k % 8) : Int) := by
  rw [oW_w, rs3 hn hr]
  rfl
theorem x8 {n r m : Nat} (hn : n ≤ 3) (hr : r < 2 ^ n) (hm : m < 8) : r ^^^ m < 8 := by
  have h8 := pw8 hn
  exact Nat.xor_lt_two_pow (n := 3) (by omega) hm
theorem psum_tri (u : Nat → Nat) (x : Nat) : psum u x 3 = psum (tri (u 0) (u 1) (u 2)) x 3 := by
  simp [psum, tri]
theorem refl_of {a b c : Nat} (ha : a < 4) (hb : b < 4) (hc : c < 4) : ∃ j, j < 12 ∧ ∀ x, x < 8 → ∀ y, y < 8 → psum (tri a b c) x 3 < psum (tri a b c) y 3 → Sj j x < Sj j y := by
  have h := ref_all a ha b hb c hc
  unfold refB at h
  rw [List.any_eq_true] at h
  obtain ⟨j, hj, h⟩ := h
  refine ⟨j, List.mem_range.mp hj, fun x hx y hy hl => ?_⟩
  rw [List.all_eq_true] at h
  have h2 := h x (List.mem_range.mpr hx)
  rw [List.all_eq_true] at h2
  have h3 := h2 y (List.mem_range.mpr hy)
  rw [Nat.ble_eq.mpr (show psum (tri a b c) x 3 + 1 ≤ psum (tri a b c) y 3 from hl)] at h3
  exact Nat.ble_eq.mp (by simpa using h3)
/-- some order keeps what weights of up to 3 tell -/
theorem refine_of {kk n : Nat} (hn : n ≤ 3) : ∃ k, k < 96 ∧ ∀ r, r < 2 ^ n → ∀ q, q < 2 ^ n → rsum (wK kk) r n < rsum (wK kk) q n → rsum (oW k) r n < rsum (oW k) q n := by
  obtain ⟨m, hm⟩ : ∃ m, m = mkT 3 (fun i => decide (wK kk i < 0)) := ⟨_, rfl⟩
  have hm8 : m < 8 := by rw [hm]; exact mkT_lt _ 3
  obtain ⟨u, hu⟩ : ∃ u : Nat → Nat, u = fun i => if i < n then (wK kk i).natAbs else 0 := ⟨_, rfl⟩
  have hu3 : ∀ i, u i < 4 := fun i => by
    rw [hu]
    have := wK_bd kk i
    show (if i < n then _ else _) < 4
    split <;> omega
  have hw : ∀ i, i < n → wK kk i = wOf (fun i => m.testBit i) u i := fun i hi => by
    unfold wOf
    rw [hm, hu]
    simp only [mkT_bit]
    simp only [show i < 3 by omega, decide_true, Bool.true_and, decide_eq_true_eq, hi, if_true]
    split <;> omega
  obtain ⟨j, hj, hr⟩ := refl_of (hu3 0) (hu3 1) (hu3 2)
  refine ⟨j * 8 + m, by omega, fun r hr2 q hq hl => ?_⟩
  have e1 : (j * 8 + m) / 8 = j := by omega
  have e2 : (j * 8 + m) % 8 = m := by omega
  rw [os3 hn hr2, os3 hn hq, e1, e2]
  rw [rsum_cong n hw, rsum_cong n hw, rs3 hn hr2, rs3 hn hq] at hl
  have h3 := hr (r ^^^ m) (x8 hn hr2 hm8) (q ^^^ m) (x8 hn hq hm8) (by rw [← psum_tri, ← psum_tri]; omega)
  omega
theorem WO_ex {n t k r : Nat} (hn : n ≤ 3) (h : WO n t k r = true) : t.testBit r = true ∧ ∃ z, z < 2 ^ n ∧ t.testBit z = false ∧ rsum (oW k) r n < rsum (oW k) z n := by
  have hb : ∀ j, -900 ≤ rsum (oW k) j n ∧ rsum (oW k) j n ≤ 900 := fun j => by have := osum_bd (k := k) (r := j) hn; omega
  unfold WO at h
  rw [Bool.and_eq_true, decide_eq_true_eq] at h
  refine ⟨h.1, ?_⟩
  have hr := hb r
  rcases eHi_m (t := t) (x := fun r => rsum (oW k) r n) (2 ^ n) (fun j _ => hb j) with ⟨e, _, _⟩ | ⟨e, e2, _⟩
  · omega
  · rcases mHi_in (t := t) (x := fun r => rsum (oW k) r n) (2 ^ n) with f | ⟨z, hz, hz2, f⟩
    · omega
    · exact ⟨z, hz, hz2, by omega⟩
theorem WZ_ex {n t k r : Nat} (hn : n ≤ 3) (h : WZ n t k r = true) : t.testBit r = false ∧ ∃ o, o < 2 ^ n ∧ t.testBit o = true ∧ rsum (oW k) o n < rsum (oW k) r n := by
  have hb : ∀ j, -900 ≤ rsum (oW k) j n ∧ rsum (oW k) j n ≤ 900 := fun j => by have := osum_bd (k := k) (r := j) hn; omega
  unfold WZ at h
  rw [Bool.and_eq_true, decide_eq_true_eq] at h
  refine ⟨by simpa using h.1, ?_⟩
  have hr := hb r
  rcases eLo_m (t := t) (x := fun r => rsum (oW k) r n) (2 ^ n) (fun j _ => hb j) with ⟨e, _, _⟩ | ⟨e, e2⟩
  · omega
  · rcases mLow_in (t := t) (x := fun r => rsum (oW k) r n) (2 ^ n) with f | ⟨z, hz, hz2, f⟩
    · omega
    · exact ⟨z, hz, hz2, by omega⟩
theorem seen_eq {n gt : Nat} {p q : Nat → Bool} (hp : ∀ r, r < 2 ^ n → p r = true → gt.testBit r = true) (hq : ∀ r, r < 2 ^ n → q r = true → gt.testBit r = false) : gt &&& (mkT (2 ^ n) q ||| mkT (2 ^ n) p) = mkT (2 ^ n) p := by
  apply Nat.eq_of_testBit_eq
  intro r
  rw [Nat.testBit_and, Nat.testBit_or, mkT_bit, mkT_bit]
  by_cases hr : r < 2 ^ n
  · simp only [hr, decide_true, Bool.true_and]
    cases e1 : p r
    · cases e2 : q r
      · simp
      · rw [hq r hr e2]
        rfl
    · rw [hp r hr e1]
      simp
  · simp [hr]
/-- what weights of up to 3 do is seen in some order -/
theorem sec_ps {n t gt : Nat} (hn : n ≤ 3) (h : secB n t gt = true) : psB n t gt = true := by
  obtain ⟨kk, hkk, hs⟩ := secB_iff.mp h
  obtain ⟨k, hk, hr⟩ := refine_of (kk := kk) hn
  rw [psB_iff]
  refine ⟨k, hk, ?_⟩
  have ho : ∀ r, r < 2 ^ n → WO n t k r = true → (0 < wK kk n ∧ gt.testBit r = true) ∨ (wK kk n < 0 ∧ gt.testBit r = false) := fun r hr2 hw => by
    obtain ⟨h1, z, hz, hz2, hl⟩ := WO_ex hn hw
    have h3 : ¬ rsum (wK kk) z n < rsum (wK kk) r n := fun y => by have := hr z hz r hr2 y; omega
    have h4 := sepK_pair hs hr2 hz h1 hz2
    unfold xsum at h4
    cases e1 : gt.testBit r <;> cases e2 : gt.testBit z <;> rw [e1, e2] at h4 <;> simp at h4 ⊢ <;> omega
  have hzr : ∀ r, r < 2 ^ n → WZ n t k r = true → (0 < wK kk n ∧ gt.testBit r = false) ∨ (wK kk n < 0 ∧ gt.testBit r = true) := fun r hr2 hw => by
    obtain ⟨h1, o, ho2, ho3, hl⟩ := WZ_ex hn hw
    have h3 : ¬ rsum (wK kk) r n < rsum (wK kk) o n := fun y => by have := hr r hr2 o ho2 y; omega
    have h4 := sepK_pair hs ho2 hr2 ho3 h1
    unfold xsum at h4
    cases e1 : gt.testBit r <;> cases e2 : gt.testBit o <;> rw [e1, e2] at h4 <;> simp at h4 ⊢ <;> omega
  unfold pso
  rw [Bool.or_eq_true, decide_eq_true_eq, decide_eq_true_eq]
  by_cases hv : 0 < wK kk n
  · refine Or.inr (seen_eq (fun r hr2 hw => ?_) (fun r hr2 hw => ?_))
    · rcases ho r hr2 hw with y | y
      · exact y.2
      · omega
    · rcases hzr r hr2 hw with y | y
      · exact y.2
      · omega
  · refine Or.inl ?_
    rw [Nat.or_comm]
    refine seen_eq (fun r hr2 hw => ?_) (fun r hr2 hw => ?_)
    · rcases hzr r hr2 hw with y | y
      · omega
      · exact y.2
    · rcases ho r hr2 hw with y | y
      · omega
      · exact y.2
def mk7 : Nat → (Nat → Nat) → Nat
  | 0, _ => 0
  | r + 1, f => mk7 r f + f r * 7 ^ r
theorem mk7_lt {f : Nat → Nat} : ∀ R, (∀ r, r < R → f r < 7) → mk7 R f < 7 ^ R
  | 0, _ => by simp [mk7]
  | R + 1, h => by
    have h1 := mk7_lt R (fun r hr => h r (by omega))
    have h2 := h R (by omega)
    unfold mk7
    rw [Nat.pow_succ]
    have : f R * 7 ^ R ≤ 6 * 7 ^ R := Nat.mul_le_mul_right _ (by omega)
    omega
theorem dg_mk7 {f : Nat → Nat} : ∀ {R r : Nat}, r < R → (∀ r, r < R → f r < 7) → dg7 (mk7 R f) r = f r
  | 0, r, h, _ => absurd h (Nat.not_lt_zero r)
  | R + 1, r, h, hf => by
    have h1 := mk7_lt R (fun r hr => hf r (by omega))
    have h2 := hf R (by omega)
    have hp : 0 < 7 ^ R := Nat.pow_pos (by omega)
    unfold dg7 mk7
    rcases Nat.eq_or_lt_of_le (show r ≤ R by omega) with e | e
    · subst e
      rw [Nat.mul_comm, Nat.add_mul_div_left _ _ hp, Nat.div_eq_of_lt h1, Nat.zero_add, Nat.mod_eq_of_lt h2]
    · have h3 := dg_mk7 (R := R) e (fun r hr => hf r (by omega))
      unfold dg7 at h3
      have e2 : f R * 7 ^ R = 7 ^ r * (7 * (f R * 7 ^ (R - r - 1))) := by
        have : 7 ^ R = 7 ^ r * (7 * 7 ^ (R - r - 1)) := by
          rw [← Nat.pow_succ', ← Nat.pow_add]
          congr 1
          omega
        rw [this]
        simp only [Nat.mul_comm, Nat.mul_left_comm]
      rw [e2, Nat.add_mul_div_left _ _ (Nat.pow_pos (by omega)), Nat.add_mul_mod_self_left]
      exact h3
theorem chkV_at : ∀ (l : List Nat) (t : Nat), chkV l t = true → ∀ i, i < l.length → ∃ c, okV ((t + i) / 220) ((t + i) / 20 % 11) ((t + i) % 20) c = true
  | [], _, _, i, hi => absurd hi (Nat.not_lt_zero i)
  | c :: l, t, h, i, hi => by
    unfold chkV at h
    rw [Bool.and_eq_true] at h
    rcases Nat.eq_zero_or_pos i with e | e
    · rw [e]
      exact ⟨c, h.1⟩
    · have h2 := chkV_at l (t + 1) h.2 (i - 1) (by rw [List.length_cons] at hi; omega)
      rw [show t + 1 + (i - 1) = t + i by omega] at h2
      exact h2
theorem okV_ex {j v th : Nat} (hj : j < 12) (hv : v < 11) (ht : th < 20) : ∃ c, okV j v th c = true := by
  have h := chkV_at _ _ chk_V.1 (j * 220 + v * 20 + th) (by rw [chk_V.2]; omega)
  rw [Nat.zero_add, show (j * 220 + v * 20 + th) / 220 = j by omega, show (j * 220 + v * 20 + th) / 20 % 11 = v by omega, show (j * 220 + v * 20 + th) % 20 = th by omega] at h
  exact h
theorem uC_lt (c i : Nat) : uC c i < 4 := by
  unfold uC tri
  split
  · omega
  · split <;> omega
/-- a cut of an order's sums with a step for the first gate has small weights -/
theorem small_of {j v th m n t gt : Nat} (s : Bool) (hj : j < 12) (hv : v < 11) (hth : th < 20) (hm : m < 8) (hn : n ≤ 3) (h1 : ∀ o, o < 2 ^ n → t.testBit o = true → th ≤ Sj j (o ^^^ m) + (if gt.testBit o = s then v else 0)) (h0 : ∀ z, z < 2 ^ n → t.testBit z = false → Sj j (z ^^^ m) + (if gt.testBit z = s then v else 0) < th) : secB n t gt = true := by
  obtain ⟨c, hc⟩ := okV_ex hj hv hth
  unfold okV at hc
  rw [List.all_eq_true] at hc
  obtain ⟨d, hd⟩ : ∃ d, d = c / 64 % 4 := ⟨_, rfl⟩
  have hd4 : d < 4 := by omega
  have hx : ∀ r, r < 2 ^ n → (th ≤ Sj j (r ^^^ m) + (if gt.testBit r = s then v else 0) ↔ c / 256 ≤ psum (uC c) (r ^^^ m) 3 + (if gt.testBit r = s then d else 0)) := fun r hr => by
    have h2 := hc (r ^^^ m) (List.mem_range.mpr (x8 hn hr hm))
    rw [Bool.and_eq_true, beq_iff_eq, beq_iff_eq, ← hd] at h2
    split
    · rw [← Nat.ble_eq, ← Nat.ble_eq, h2.2]
    · rw [Nat.add_zero, Nat.add_zero, ← Nat.ble_eq, ← Nat.ble_eq, h2.1]
  obtain ⟨e, he⟩ : ∃ e : Int, e = if s then (d : Int) else -(d : Int) := ⟨_, rfl⟩
  have he3 : -3 ≤ e ∧ e ≤ 3 := by rw [he]; split <;> omega
  have hwb : ∀ i, -3 ≤ wOf (fun i => m.testBit i) (uC c) i ∧ wOf (fun i => m.testBit i) (uC c) i ≤ 3 := fun i => by
    have := uC_lt c i
    unfold wOf
    split <;> omega
  obtain ⟨F, hF⟩ : ∃ F : Nat → Nat, F = fun i => if i < n then (wOf (fun i => m.testBit i) (uC c) i + 3).toNat else (e + 3).toNat := ⟨_, rfl⟩
  have hF7 : ∀ i, F i < 7 := fun i => by
    have := hwb i
    rw [hF]
    show (if i < n then _ else _) < 7
    split <;> omega
  have hwK : ∀ i, i < n + 1 → wK (mk7 (n + 1) F) i = (F i : Int) - 3 := fun i hi => by
    show ((dg7 (mk7 (n + 1) F) i : Nat) : Int) - 3 = _
    rw [dg_mk7 hi (fun r _ => hF7 r)]
  have hw : ∀ i, i < n → wK (mk7 (n + 1) F) i = wOf (fun i => m.testBit i) (uC c) i := fun i hi => by
    have := hwb i
    rw [hwK i (by omega), hF]
    show ((if i < n then _ else _ : Nat) : Int) - 3 = _
    rw [if_pos hi]
    omega
  have hwn : wK (mk7 (n + 1) F) n = e := by
    rw [hwK n (by omega), hF]
    show ((if n < n then _ else _ : Nat) : Int) - 3 = _
    rw [if_neg (Nat.lt_irrefl n)]
    omega
  rw [secB_iff]
  refine ⟨mk7 (n + 1) F, mk7_lt _ (fun r _ => hF7 r), sepK_of hn (fun o z ho hz e1 e0 => ?_)⟩
  have a := (hx o ho).mp (h1 o ho e1)
  have b : ¬ _ := fun y => Nat.not_le.mpr (h0 z hz e0) ((hx z hz).mpr y)
  unfold xsum
  rw [rsum_cong n hw, rsum_cong n hw, rs3 hn ho, rs3 hn hz, hwn, he]
  cases s <;> cases e3 : gt.testBit o <;> cases e4 : gt.testBit z <;> rw [e3] at a <;> rw [e4] at b <;> simp at a b ⊢ <;> omega
theorem WO_iff {n t k r : Nat} : WO n t k r = true ↔ t.testBit r = true ∧ rsum (oW k) r n < eHi t (fun r => rsum (oW k) r n) (2 ^ n) := by
  unfold WO
  rw [Bool.and_eq_true, decide_eq_true_eq]
theorem WZ_iff {n t k r : Nat} : WZ n t k r = true ↔ t.testBit r = false ∧ eLo t (fun r => rsum (oW k) r n) (2 ^ n) < rsum (oW k) r n := by
  unfold WZ
  rw [Bool.and_eq_true, decide_eq_true_eq, Bool.not_eq_true']
theorem seen_of {n gt : Nat} {p q : Nat → Bool} (h : gt &&& (mkT (2 ^ n) q ||| mkT (2 ^ n) p) = mkT (2 ^ n) p) {r : Nat} (hr : r < 2 ^ n) : (gt.testBit r && (q r || p r)) = p r := by
  have h2 := congrArg (fun x => Nat.testBit x r) h
  simp only [Nat.testBit_and, Nat.testBit_or, mkT_bit, hr, decide_true, Bool.true_and] at h2
  exact h2
/-- what is seen in an order can be done with weights of up to 3 -/
theorem ps_sec {n t gt : Nat} (hn : n ≤ 3) (hg : isG n t = false) (h : psB n t gt = true) : secB n t gt = true := by
  obtain ⟨k, hk, hp⟩ := psB_iff.mp h
  have hb : ∀ j, -900 ≤ rsum (oW k) j n ∧ rsum (oW k) j n ≤ 900 := fun j => by have := osum_bd (k := k) (r := j) hn; omega
  obtain ⟨j, hj⟩ : ∃ j, j = k / 8 := ⟨_, rfl⟩
  obtain ⟨m, hm⟩ : ∃ m, m = k % 8 := ⟨_, rfl⟩
  have hj12 : j < 12 := by omega
  have hm8 : m < 8 := by omega
  have hS : ∀ r, r < 2 ^ n → rsum (oW k) r n = (Sj j (r ^^^ m) : Int) - (Sj j m : Int) := fun r hr => by rw [os3 hn hr, hj, hm]
  have hS9 : ∀ r, r < 2 ^ n → Sj j (r ^^^ m) ≤ 9 := fun r hr => Sj_le j hj12 _ (x8 hn hr hm8)
  have hne : ∀ o z, o < 2 ^ n → z < 2 ^ n → t.testBit o = true → t.testBit z = false → Sj j (o ^^^ m) ≠ Sj j (z ^^^ m) := fun o z ho hz e1 e0 y => by
    have y2 := Sj_inj j hj12 _ (x8 hn ho hm8) _ (x8 hn hz hm8) y
    have y3 : o ^^^ m ^^^ m = z ^^^ m ^^^ m := by rw [y2]
    rw [Nat.xor_assoc, Nat.xor_assoc, Nat.xor_self, Nat.xor_zero, Nat.xor_zero] at y3
    rw [y3, e0] at e1
    cases e1
  -- two rows lie the wrong way
  have hw : ∃ o z, o < 2 ^ n ∧ z < 2 ^ n ∧ t.testBit o = true ∧ t.testBit z = false ∧ rsum (oW k) o n ≤ rsum (oW k) z n := by
    rcases Classical.em (∃ o z, o < 2 ^ n ∧ z < 2 ^ n ∧ t.testBit o = true ∧ t.testBit z = false ∧ rsum (oW k) o n ≤ rsum (oW k) z n) with y | y
    · exact y
    · have := sep_isG (t := t) (show n ≤ 5 by omega) (oW k) (fun o z ho hz e1 e0 => Int.not_le.mp (fun q => y ⟨o, z, ho, hz, e1, e0, q⟩))
      rw [hg] at this
      cases this
  obtain ⟨o1, z1, ho1, hz1, eo1, ez1, hw1⟩ := hw
  obtain ⟨L, hL⟩ : ∃ L, L = eLo t (fun r => rsum (oW k) r n) (2 ^ n) := ⟨_, rfl⟩
  obtain ⟨H, hH⟩ : ∃ H, H = eHi t (fun r => rsum (oW k) r n) (2 ^ n) := ⟨_, rfl⟩
  have hLo : (∃ o, o < 2 ^ n ∧ t.testBit o = true ∧ L = rsum (oW k) o n) ∧ ∀ o, o < 2 ^ n → t.testBit o = true → L ≤ rsum (oW k) o n := by
    rcases eLo_m (t := t) (x := fun r => rsum (oW k) r n) (2 ^ n) (fun j _ => hb j) with ⟨_, _, e⟩ | ⟨e, e2⟩
    · rw [e o1 ho1] at eo1
      cases eo1
    · refine ⟨?_, fun o ho h1 => ?_⟩
      · rcases mLow_in (t := t) (x := fun r => rsum (oW k) r n) (2 ^ n) with f | ⟨z, hz, hz2, f⟩
        · omega
        · exact ⟨z, hz, hz2, by omega⟩
      · have := mLow_le (t := t) (x := fun r => rsum (oW k) r n) ho h1
        rw [hL, e]
        exact this
  have hHi : (∃ z, z < 2 ^ n ∧ t.testBit z = false ∧ H = rsum (oW k) z n) ∧ ∀ z, z < 2 ^ n → t.testBit z = false → rsum (oW k) z n ≤ H := by
    rcases eHi_m (t := t) (x := fun r => rsum (oW k) r n) (2 ^ n) (fun j _ => hb j) with ⟨_, _, e⟩ | ⟨e, e2, _⟩
    · rw [e z1 hz1] at ez1
      cases ez1
    · refine ⟨?_, fun z hz h1 => ?_⟩
      · rcases mHi_in (t := t) (x := fun r => rsum (oW k) r n) (2 ^ n) with f | ⟨z, hz, hz2, f⟩
        · omega
        · exact ⟨z, hz, hz2, by omega⟩
      · have := mHi_ge (t := t) (x := fun r => rsum (oW k) r n) hz h1
        rw [hH, e]
        exact this
  obtain ⟨⟨oL, hoL, eoL, eL⟩, hL2⟩ := hLo
  obtain ⟨⟨zH, hzH, ezH, eH⟩, hH2⟩ := hHi
  have q1 := hS oL hoL
  have q2 := hS zH hzH
  have q3 := hS9 oL hoL
  have q4 := hS9 zH hzH
  have q5 := hL2 o1 ho1 eo1
  have q6 := hH2 z1 hz1 ez1
  have q7 := hne oL zH hoL hzH eoL ezH
  obtain ⟨v, hv⟩ : ∃ v : Nat, v = (H - L + 1).toNat := ⟨_, rfl⟩
  have hv11 : v < 11 := by omega
  -- the step parts the ones from the zeros
  have main : ∀ s : Bool, (∀ r, r < 2 ^ n → WO n t k r = true → gt.testBit r = s) → (∀ r, r < 2 ^ n → WZ n t k r = true → gt.testBit r = !s) → secB n t gt = true := by
    intro s hO hZ
    obtain ⟨f, hf⟩ : ∃ f : Nat → Nat, f = fun r => Sj j (r ^^^ m) + (if gt.testBit r = s then v else 0) := ⟨_, rfl⟩
    have hfr : ∀ r, f r = Sj j (r ^^^ m) + (if gt.testBit r = s then v else 0) := fun r => by rw [hf]
    have hlt : ∀ o z, o < 2 ^ n → z < 2 ^ n → t.testBit o = true → t.testBit z = false → f z < f o := fun o z ho hz e1 e0 => by
      have a1 := hS o ho
      have a2 := hS z hz
      have a3 := hL2 o ho e1
      have a4 := hH2 z hz e0
      have a5 := hne o z ho hz e1 e0
      have a6 := hne o zH ho hzH e1 ezH
      have a7 := hne oL z hoL hz eoL e0
      have b1 : ¬ gt.testBit o = s → ¬ rsum (oW k) o n < H := fun y y2 => y (hO o ho (WO_iff.mpr ⟨e1, by rw [← hH]; exact y2⟩))
      have b2 : gt.testBit z = s → ¬ L < rsum (oW k) z n := fun y y2 => by
        have := hZ z hz (WZ_iff.mpr ⟨e0, by rw [← hL]; exact y2⟩)
        rw [y] at this
        cases s <;> cases this
      rw [hfr, hfr]
      by_cases c1 : gt.testBit o = s
      · rw [if_pos c1]
        by_cases c2 : gt.testBit z = s
        · have := b2 c2
          rw [if_pos c2]
          omega
        · rw [if_neg c2]
          omega
      · have := b1 c1
        rw [if_neg c1]
        by_cases c2 : gt.testBit z = s
        · have := b2 c2
          rw [if_pos c2]
          omega
        · rw [if_neg c2]
          omega
    -- the least of the ones is the cut
    have hcut : ∃ o, o < 2 ^ n ∧ t.testBit o = true ∧ ∀ o2, o2 < 2 ^ n → t.testBit o2 = true → f o ≤ f o2 := by
      have fb : ∀ r, r < 2 ^ n → f r ≤ 19 := fun r hr => by
        have := hS9 r hr
        rw [hfr]
        split <;> omega
      rcases mLow_in (t := t) (x := fun r => (f r : Int)) (2 ^ n) with y | ⟨o, ho, ho2, y⟩
      · have y2 := mLow_le (t := t) (x := fun r => (f r : Int)) ho1 eo1
        have y3 := fb o1 ho1
        omega
      · refine ⟨o, ho, ho2, fun o2 h2 e2 => ?_⟩
        have y2 := mLow_le (t := t) (x := fun r => (f r : Int)) h2 e2
        omega
    obtain ⟨oC, hoC, eoC, hC⟩ := hcut
    have hth : f oC < 20 := by
      have := hS9 oC hoC
      rw [hfr]
      split <;> omega
    refine small_of (j := j) (v := v) (th := f oC) (m := m) s hj12 hv11 hth hm8 hn (fun o ho e1 => ?_) (fun z hz e0 => ?_)
    · rw [← hfr]
      exact hC o ho e1
    · rw [← hfr]
      exact hlt oC z hoC hz eoC e0
  unfold pso at hp
  rw [Bool.or_eq_true, decide_eq_true_eq, decide_eq_true_eq] at hp
  have ex : ∀ r, ¬ (WO n t k r = true ∧ WZ n t k r = true) := fun r y => by
    have y1 := (WO_iff.mp y.1).1
    have y2 := (WZ_iff.mp y.2).1
    rw [y1] at y2
    cases y2
  rcases hp with y | y
  · rw [Nat.or_comm] at y
    refine main false (fun r hr hw => ?_) (fun r hr hw => ?_)
    · have y2 := seen_of y hr
      rw [hw] at y2
      cases e : WZ n t k r
      · rw [e] at y2
        simpa using y2
      · exact (ex r ⟨hw, e⟩).elim
    · have y2 := seen_of y hr
      rw [hw] at y2
      simpa using y2
  · refine main true (fun r hr hw => ?_) (fun r hr hw => ?_)
    · have y2 := seen_of y hr
      rw [hw] at y2
      simpa using y2
    · have y2 := seen_of y hr
      rw [hw] at y2
      cases e : WO n t k r
      · rw [e] at y2
        simpa using y2
      · exact (ex r ⟨e, hw⟩).elim
theorem first_same {n t gt : Nat} (hn : n ≤ 3) (hg : isG n t = false) : cfB n t gt = fstB n t gt := by
  have h : psB n t gt = secB n t gt := by
    cases e : secB n t gt
    · cases e2 : psB n t gt
      · rfl
      · rw [ps_sec hn hg e2] at e
        cases e
    · exact sec_ps hn e
  unfold cfB fstB
  rw [h, Bool.and_comm]
theorem ff_cong {p q : Nat → Bool} (h : ∀ k, p k = q k) (N : Nat) : fa_first p N = fa_first q N := by
  rw [show p = q from funext h]
theorem clI_eq {n t : Nat} (h1 : 1 ≤ n) (hn : n ≤ 3) (ht : t < 2 ^ 2 ^ n) (hg : isG n t = false) : clI n t = fstI n t ∧ ¬ fstI n t < 0 := by
  obtain ⟨gt, hgt, hf⟩ := first_ex h1 hn ht
  have h256 := pw256 hn
  unfold clI fstI
  rw [ff_cong (fun k => first_same (gt := k) hn hg)]
  have hy := ff_yes hgt hf
  rw [if_pos hy, if_pos hy]
  exact ⟨rfl, fun z => Nat.not_lt_zero _ ((nI_ltI (b := 0) (by omega) (by omega)).mp z)⟩
