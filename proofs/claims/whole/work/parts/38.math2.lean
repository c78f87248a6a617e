theorem cnt_countP (p : Nat → Bool) : ∀ n, cnt n p = (List.range n).countP p
  | 0 => rfl
  | n + 1 => by
    rw [List.range_succ, List.countP_append, ← cnt_countP p n]
    show cnt n p + (if p n then 1 else 0) = _
    simp [List.countP_cons]
theorem perm_xb : ∀ n, n < 6 → ∀ m, m < 2 ^ n → List.isPerm ((List.range (2 ^ n)).map (fun r => r ^^^ m)) (List.range (2 ^ n)) = true := by decide +kernel
theorem cnt_xor {n m : Nat} (hn : n ≤ 5) (hm : m < 2 ^ n) (p : Nat → Bool) : cnt (2 ^ n) (fun r => p (r ^^^ m)) = cnt (2 ^ n) p := by
  have h := List.isPerm_iff.mp (perm_xb n (by omega) m hm)
  have h2 := h.countP_eq p
  rw [List.countP_map] at h2
  rw [cnt_countP, cnt_countP, ← h2]
  rfl
theorem cnt_mono {p q : Nat → Bool} : ∀ {n : Nat}, (∀ r, r < n → p r = true → q r = true) → cnt n p ≤ cnt n q
  | 0, _ => Nat.le_refl _
  | n + 1, h => by
    have h1 := cnt_mono (n := n) (fun r hr => h r (by omega))
    have h2 := h n (by omega)
    show cnt n p + (if p n then 1 else 0) ≤ cnt n q + (if q n then 1 else 0)
    cases hp : p n with
    | false => simp; omega
    | true => rw [hp] at h2; simp [h2 rfl]; omega
theorem cnt_strict {p q : Nat → Bool} : ∀ {n : Nat}, (∀ r, r < n → p r = true → q r = true) → ∀ r, r < n → p r = false → q r = true → cnt n p < cnt n q
  | 0, _, r, h, _, _ => absurd h (Nat.not_lt_zero r)
  | n + 1, h, r, hr, h1, h2 => by
    show cnt n p + (if p n then 1 else 0) < cnt n q + (if q n then 1 else 0)
    rcases Nat.eq_or_lt_of_le (show r ≤ n by omega) with e | e
    · subst e
      have := cnt_mono (n := r) (fun k hk => h k (by omega))
      simp [h1, h2]
      omega
    · have h3 := cnt_strict (n := n) (fun k hk => h k (by omega)) r e h1 h2
      have h4 := h n (by omega)
      cases hp : p n with
      | false => simp; omega
      | true => rw [hp] at h4; simp [h4 rfl]; omega
theorem cnt_or {p q : Nat → Bool} : ∀ n : Nat, cnt n p = cnt n (fun r => p r && q r) + cnt n (fun r => p r && !q r)
  | 0 => rfl
  | n + 1 => by
    have h := cnt_or (p := p) (q := q) n
    show cnt n p + (if p n then 1 else 0) = (cnt n (fun r => p r && q r) + (if (p n && q n) then 1 else 0)) + (cnt n (fun r => p r && !q r) + (if (p n && !q n) then 1 else 0))
    rw [h]
    cases p n <;> cases q n <;> simp <;> omega
theorem xbit (r i j : Nat) : (r ^^^ 2 ^ i).testBit j = (r.testBit j ^^ decide (j = i)) := fb_bit_flip r i j
theorem xlt {n r m : Nat} (hr : r < 2 ^ n) (hm : m < 2 ^ n) : r ^^^ m < 2 ^ n := Nat.xor_lt_two_pow hr hm
theorem p2lt {i n : Nat} (h : i < n) : 2 ^ i < 2 ^ n := Nat.pow_lt_pow_right (by omega) h
theorem or_flip {r i : Nat} (h : r.testBit i = false) : r ||| 2 ^ i = r ^^^ 2 ^ i := by
  apply Nat.eq_of_testBit_eq
  intro j
  rw [Nat.testBit_or, xbit, Nat.testBit_two_pow]
  by_cases e : i = j
  · subst e; simp [h]
  · simp [e, Ne.symm e]
theorem xor_twice (r m : Nat) : r ^^^ m ^^^ m = r := by
  rw [Nat.xor_assoc, Nat.xor_self, Nat.xor_zero]
/-- how much more often a table is 1 with input i than without -/
def pu (n t i : Nat) : Int := 2 * (cnt (2 ^ n) (fun r => t.testBit r && r.testBit i) : Int) - (cnt (2 ^ n) t.testBit : Int)
theorem pu_AZ (n t i : Nat) : pu n t i = (cnt (2 ^ n) (fun r => t.testBit r && r.testBit i) : Int) - (cnt (2 ^ n) (fun r => t.testBit r && !r.testBit i) : Int) := by
  unfold pu
  have := cnt_or (p := t.testBit) (q := fun r => r.testBit i) (2 ^ n)
  omega
/-- no rise where another row falls -/
theorem isG_unate {n t i : Nat} (hn : n ≤ 5) (hi : i < n) (hg : isG n t = true) {r q : Nat} (hr : r < 2 ^ n) (hq : q < 2 ^ n) (h1 : r.testBit i = false) (h2 : t.testBit r = true) (h3 : t.testBit (r ^^^ 2 ^ i) = false) (h4 : q.testBit i = false) (h5 : t.testBit q = false) (h6 : t.testBit (q ^^^ 2 ^ i) = true) : False := by
  have h32 := pw5 hn
  have hr2 := xlt hr (p2lt hi)
  have hq2 := xlt hq (p2lt hi)
  -- ones r and q+i, zeros q and r+i
  have key : ∀ a b c d : Nat, a < 2 ^ n → b < 2 ^ n → c < 2 ^ n → d < 2 ^ n → t.testBit a = true → t.testBit b = true → t.testBit c = false → t.testBit d = false → c3 n c + c3 n d = c3 n a + c3 n b → False := by
    have k2 : ∀ a b c d : Nat, a ≤ b → c ≤ d → a < 2 ^ n → b < 2 ^ n → c < 2 ^ n → d < 2 ^ n → t.testBit a = true → t.testBit b = true → t.testBit c = false → t.testBit d = false → c3 n c + c3 n d = c3 n a + c3 n b → False := by
      intro a b c d hab hcd ha hb hc hd e1 e2 e3 e4 e5
      have hC := (hasC_iff hn ha hb).mpr ⟨c, d, hcd, hd, e3, e4, e5⟩
      have hne : a < b := by
        rcases Nat.eq_or_lt_of_le hab with z | z
        · subst z
          rw [hasC_same hn ha e1] at hC
          cases hC
        · exact z
      have hB : pB n t a b = true := by simp [pB, e2, hne, hC]
      have hA : pA n t a = true := by
        unfold pA
        rw [e1, Bool.true_and]
        cases hz : decide (fa_first (pB n t a) (2 ^ n) < 2 ^ n) with
        | true => rfl
        | false =>
          have z1 : ¬ fa_first (pB n t a) (2 ^ n) < 2 ^ n := of_decide_eq_false hz
          have z2 := fa_first_le (pB n t a) (2 ^ n)
          have z3 := fa_first_no (pB n t a) (2 ^ n) b (by omega)
          rw [hB] at z3
          cases z3
      have z4 : ¬ fa_first (pA n t) (2 ^ n) < 2 ^ n := by
        intro z
        unfold isG at hg
        rw [decide_eq_true z] at hg
        cases hg
      have z5 := fa_first_le (pA n t) (2 ^ n)
      have z6 := fa_first_no (pA n t) (2 ^ n) a (by omega)
      rw [hA] at z6
      cases z6
    intro a b c d ha hb hc hd e1 e2 e3 e4 e5
    rcases Nat.le_total a b with z | z <;> rcases Nat.le_total c d with y | y
    · exact k2 a b c d z y ha hb hc hd e1 e2 e3 e4 e5
    · exact k2 a b d c z y ha hb hd hc e1 e2 e4 e3 (by omega)
    · exact k2 b a c d z y hb ha hc hd e2 e1 e3 e4 (by omega)
    · exact k2 b a d c z y hb ha hd hc e2 e1 e4 e3 (by omega)
  refine key r (q ^^^ 2 ^ i) q (r ^^^ 2 ^ i) hr hq2 hq hr2 h2 h6 h5 h3 ?_
  refine (c3_iff (by omega) hr hq2 hq hr2).mpr ⟨?_, ?_⟩
  · apply Nat.eq_of_testBit_eq
    intro j
    rw [Nat.testBit_and, Nat.testBit_and, xbit, xbit]
    by_cases e : j = i
    · subst e; simp [h1, h4]
    · simp [e, Bool.and_comm]
  · apply Nat.eq_of_testBit_eq
    intro j
    rw [Nat.testBit_or, Nat.testBit_or, xbit, xbit]
    by_cases e : j = i
    · subst e; simp [h1, h4]
    · simp [e, Bool.or_comm]
theorem fl_t {n t i : Nat} (h : fl n t i = true) : ∃ r, r < 2 ^ n ∧ r.testBit i = false ∧ t.testBit r = true ∧ t.testBit (r ^^^ 2 ^ i) = false := by
  have h1 : fa_first (flp t i) (2 ^ n) < 2 ^ n := of_decide_eq_true h
  have h2 := fa_first_yes (flp t i) (2 ^ n) h1
  generalize fa_first (flp t i) (2 ^ n) = r0 at h1 h2
  unfold flp at h2
  simp only [Bool.and_eq_true, Bool.not_eq_true'] at h2
  refine ⟨r0, h1, h2.1, h2.2.1, ?_⟩
  rw [← or_flip h2.1]
  exact h2.2.2
theorem fl_f {n t i : Nat} (h : fl n t i = false) {r : Nat} (hr : r < 2 ^ n) (h1 : r.testBit i = false) (h2 : t.testBit r = true) : t.testBit (r ^^^ 2 ^ i) = true := by
  cases h3 : t.testBit (r ^^^ 2 ^ i) with
  | true => rfl
  | false =>
    have h4 : ¬ fa_first (flp t i) (2 ^ n) < 2 ^ n := of_decide_eq_false h
    have h5 := fa_first_le (flp t i) (2 ^ n)
    have h6 := fa_first_no (flp t i) (2 ^ n) r (by omega)
    unfold flp at h6
    rw [or_flip h1] at h6
    simp [h1, h2, h3] at h6
theorem Z_flip {n t i : Nat} (hn : n ≤ 5) (hi : i < n) : cnt (2 ^ n) (fun r => t.testBit r && !r.testBit i) = cnt (2 ^ n) (fun r => t.testBit (r ^^^ 2 ^ i) && r.testBit i) := by
  rw [← cnt_xor hn (p2lt hi) (fun r => t.testBit r && !r.testBit i)]
  apply cnt_ext
  intro r hr
  rw [xbit]
  simp
/-- the sign of the pull is that of the fall -/
theorem fl_pu {n t i : Nat} (hn : n ≤ 5) (hi : i < n) (hg : isG n t = true) : fl n t i = decide (pu n t i < 0) := by
  rw [pu_AZ, Z_flip hn hi]
  cases h : fl n t i with
  | false =>
    symm
    apply decide_eq_false
    have : cnt (2 ^ n) (fun r => t.testBit (r ^^^ 2 ^ i) && r.testBit i) ≤ cnt (2 ^ n) (fun r => t.testBit r && r.testBit i) := by
      apply cnt_mono
      intro r hr hp
      simp only [Bool.and_eq_true] at hp ⊢
      refine ⟨?_, hp.2⟩
      have h2 := fl_f h (r := r ^^^ 2 ^ i) (xlt hr (p2lt hi)) (by rw [xbit]; simp [hp.2]) hp.1
      rw [xor_twice] at h2
      exact h2
    omega
  | true =>
    symm
    apply decide_eq_true
    obtain ⟨q, hq, q1, q2, q3⟩ := fl_t h
    have : cnt (2 ^ n) (fun r => t.testBit r && r.testBit i) < cnt (2 ^ n) (fun r => t.testBit (r ^^^ 2 ^ i) && r.testBit i) := by
      refine cnt_strict ?_ (q ^^^ 2 ^ i) (xlt hq (p2lt hi)) ?_ ?_
      · intro r hr hp
        simp only [Bool.and_eq_true] at hp ⊢
        refine ⟨?_, hp.2⟩
        cases h3 : t.testBit (r ^^^ 2 ^ i) with
        | true => rfl
        | false => exact (isG_unate hn hi hg hq (xlt hr (p2lt hi)) q1 q2 q3 (by rw [xbit]; simp [hp.2]) h3 (by rw [xor_twice]; exact hp.1)).elim
      · simp [q3]
      · rw [xor_twice, xbit]
        simp [q1, q2]
    omega
/-- an input without pull does not matter -/
theorem pu_zero {n t i : Nat} (hn : n ≤ 5) (hi : i < n) (hg : isG n t = true) (h0 : pu n t i = 0) {r : Nat} (hr : r < 2 ^ n) : t.testBit (r ^^^ 2 ^ i) = t.testBit r := by
  have hf : fl n t i = false := by rw [fl_pu hn hi hg, h0]; rfl
  rw [pu_AZ, Z_flip hn hi] at h0
  have key : ∀ r, r < 2 ^ n → r.testBit i = true → t.testBit (r ^^^ 2 ^ i) = t.testBit r := by
    intro r hr hb
    cases h1 : t.testBit (r ^^^ 2 ^ i) with
    | true =>
      have h2 := fl_f hf (r := r ^^^ 2 ^ i) (xlt hr (p2lt hi)) (by rw [xbit]; simp [hb]) h1
      rw [xor_twice] at h2
      exact h2.symm
    | false =>
      cases h2 : t.testBit r with
      | false => rfl
      | true =>
        exfalso
        have : cnt (2 ^ n) (fun r => t.testBit (r ^^^ 2 ^ i) && r.testBit i) < cnt (2 ^ n) (fun r => t.testBit r && r.testBit i) := by
          refine cnt_strict ?_ r hr ?_ ?_
          · intro q hq hp
            simp only [Bool.and_eq_true] at hp ⊢
            refine ⟨?_, hp.2⟩
            have h2 := fl_f hf (r := q ^^^ 2 ^ i) (xlt hq (p2lt hi)) (by rw [xbit]; simp [hp.2]) hp.1
            rw [xor_twice] at h2
            exact h2
          · simp [h1]
          · simp [h2, hb]
        omega
  cases hb : r.testBit i with
  | true => exact key r hr hb
  | false =>
    have := key (r ^^^ 2 ^ i) (xlt hr (p2lt hi)) (by rw [xbit]; simp [hb])
    rw [xor_twice] at this
    exact this.symm
theorem rsum_flip (w : Nat → Int) (r i : Nat) : ∀ n : Nat, rsum w (r ^^^ 2 ^ i) n = rsum w r n + (if i < n then (if r.testBit i then - w i else w i) else 0)
  | 0 => by simp [rsum]
  | n + 1 => by
    unfold rsum
    rw [rsum_flip w r i n, xbit]
    rcases Nat.lt_trichotomy i n with h | h | h
    · have e : ¬ n = i := by omega
      simp only [e, decide_false, Bool.xor_false, if_pos h, if_pos (show i < n + 1 by omega)]
      omega
    · subst h
      simp only [decide_true, Bool.xor_true, if_neg (Nat.lt_irrefl i), if_pos (Nat.lt_succ_self i)]
      cases r.testBit i
      · simp
      · simp
        omega
    · have e : ¬ n = i := by omega
      simp only [e, decide_false, Bool.xor_false, if_neg (show ¬ i < n by omega), if_neg (show ¬ i < n + 1 by omega)]
      omega
theorem mLow_le {t : Nat} {x : Nat → Int} : ∀ {R r : Nat}, r < R → t.testBit r = true → mLow t x R ≤ x r
  | 0, r, h, _ => absurd h (Nat.not_lt_zero r)
  | R + 1, r, h, h1 => by
    unfold mLow
    rcases Nat.eq_or_lt_of_le (show r ≤ R by omega) with e | e
    · subst e
      rw [if_pos h1]
      split <;> omega
    · have := mLow_le (t := t) (x := x) e h1
      split
      · split <;> omega
      · exact this
theorem mHi_ge {t : Nat} {x : Nat → Int} : ∀ {R r : Nat}, r < R → t.testBit r = false → x r ≤ mHi t x R
  | 0, r, h, _ => absurd h (Nat.not_lt_zero r)
  | R + 1, r, h, h1 => by
    unfold mHi
    rcases Nat.eq_or_lt_of_le (show r ≤ R by omega) with e | e
    · subst e
      rw [if_neg (by rw [h1]; decide)]
      split <;> omega
    · have := mHi_ge (t := t) (x := x) e h1
      split
      · exact this
      · split <;> omega
theorem mLow_in {t : Nat} {x : Nat → Int} : ∀ R : Nat, mLow t x R = 1000 ∨ ∃ r, r < R ∧ t.testBit r = true ∧ mLow t x R = x r
  | 0 => Or.inl rfl
  | R + 1 => by
    unfold mLow
    cases h : t.testBit R with
    | false =>
      simp
      rcases mLow_in (t := t) (x := x) R with q | ⟨r, q1, q2, q3⟩
      · exact Or.inl q
      · exact Or.inr ⟨r, by omega, q2, q3⟩
    | true =>
      simp
      split
      · exact Or.inr ⟨R, by omega, h, rfl⟩
      · rcases mLow_in (t := t) (x := x) R with q | ⟨r, q1, q2, q3⟩
        · exact Or.inl q
        · exact Or.inr ⟨r, by omega, q2, q3⟩
theorem mHi_in {t : Nat} {x : Nat → Int} : ∀ R : Nat, mHi t x R = -1000 ∨ ∃ r, r < R ∧ t.testBit r = false ∧ mHi t x R = x r
  | 0 => Or.inl rfl
  | R + 1 => by
    unfold mHi
    cases h : t.testBit R with
    | true =>
      simp
      rcases mHi_in (t := t) (x := x) R with q | ⟨r, q1, q2, q3⟩
      · exact Or.inl q
      · exact Or.inr ⟨r, by omega, q2, q3⟩
    | false =>
      simp
      split
      · exact Or.inr ⟨R, by omega, h, rfl⟩
      · rcases mHi_in (t := t) (x := x) R with q | ⟨r, q1, q2, q3⟩
        · exact Or.inl q
        · exact Or.inr ⟨r, by omega, q2, q3⟩
theorem sep_pair {n t : Nat} {w : Nat → Int} (h : sepB n t w = true) {r q : Nat} (hr : r < 2 ^ n) (hq : q < 2 ^ n) (h1 : t.testBit r = true) (h0 : t.testBit q = false) : rsum w q n < rsum w r n := by
  have h2 : mHi t (fun r => rsum w r n) (2 ^ n) < mLow t (fun r => rsum w r n) (2 ^ n) := of_decide_eq_true h
  have h3 : mLow t (fun r => rsum w r n) (2 ^ n) ≤ rsum w r n := mLow_le (t := t) (x := fun r => rsum w r n) hr h1
  have h4 : rsum w q n ≤ mHi t (fun r => rsum w r n) (2 ^ n) := mHi_ge (t := t) (x := fun r => rsum w r n) hq h0
  omega
theorem pair_sep {n t : Nat} {w : Nat → Int} (hb : ∀ r, -900 ≤ rsum w r n ∧ rsum w r n ≤ 900) (h : ∀ r q, r < 2 ^ n → q < 2 ^ n → t.testBit r = true → t.testBit q = false → rsum w q n < rsum w r n) : sepB n t w = true := by
  apply decide_eq_true
  have b1 := mLow_bd (t := t) (x := fun r => rsum w r n) (2 ^ n) (fun j _ => hb j)
  have b2 := mHi_bd (t := t) (x := fun r => rsum w r n) (2 ^ n) (fun j _ => hb j)
  rcases mLow_in (t := t) (x := fun r => rsum w r n) (2 ^ n) with q | ⟨r, q1, q2, q3⟩
  · omega
  · rcases mHi_in (t := t) (x := fun r => rsum w r n) (2 ^ n) with p | ⟨s, p1, p2, p3⟩
    · have := hb r
      omega
    · rw [q3, p3]
      exact h r s q1 p1 q2 p2
/-- an input that matters has a size -/
theorem sep_pos {n t i : Nat} {s : Nat → Nat} (hn : n ≤ 5) (hi : i < n) (hs : sepS n t s) (h : pu n t i ≠ 0) : 1 ≤ s i := by
  rcases Nat.eq_zero_or_pos (s i) with e | e
  · exfalso
    apply h
    have hw : wOf (fl n t) s i = 0 := by unfold wOf; rw [e]; split <;> rfl
    have key : ∀ r, r < 2 ^ n → t.testBit (r ^^^ 2 ^ i) = t.testBit r := by
      intro r hr
      have e2 : rsum (wOf (fl n t) s) (r ^^^ 2 ^ i) n = rsum (wOf (fl n t) s) r n := by
        rw [rsum_flip, hw]
        simp
      cases h1 : t.testBit r <;> cases h2 : t.testBit (r ^^^ 2 ^ i)
      · rfl
      · have := sep_pair hs (xlt hr (p2lt hi)) hr h2 h1
        omega
      · have := sep_pair hs hr (xlt hr (p2lt hi)) h1 h2
        omega
      · rfl
    rw [pu_AZ, Z_flip hn hi, cnt_ext (f := fun r => t.testBit (r ^^^ 2 ^ i) && r.testBit i) (f2 := fun r => t.testBit r && r.testBit i) (fun r hr => by rw [key r hr])]
    omega
  · exact e
