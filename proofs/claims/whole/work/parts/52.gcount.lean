/-- a row's inputs as digits in base 3: sums of two rows keep their digits -/
def t3 (r : Nat) : Nat := r % 2 + 3 * (r / 2 % 2) + 9 * (r / 4 % 2) + 27 * (r / 8 % 2)
theorem t3_sum : ∀ a, a < 16 → ∀ b, b < 16 → t3 a + t3 b = t3 (a &&& b) + t3 (a ||| b) := by decide +kernel
def d3and (x : Nat) : Nat := (if x % 3 = 2 then 1 else 0) + (if x / 3 % 3 = 2 then 2 else 0) + (if x / 9 % 3 = 2 then 4 else 0) + (if x / 27 % 3 = 2 then 8 else 0)
def d3or (x : Nat) : Nat := (if x % 3 = 0 then 0 else 1) + (if x / 3 % 3 = 0 then 0 else 2) + (if x / 9 % 3 = 0 then 0 else 4) + (if x / 27 % 3 = 0 then 0 else 8)
theorem t3_and : ∀ a, a < 16 → ∀ b, b < 16 → d3and (t3 a + t3 b) = a &&& b ∧ d3or (t3 a + t3 b) = a ||| b := by decide +kernel
def gT : Nat → Nat → Nat → Nat → Nat → Nat → Nat
  | 0, _, _, _, _, _ => 1
  | k + 1, r, S, P, S0, P0 =>
    (if (P ||| ((S ||| 2 ^ t3 r) <<< t3 r)) &&& P0 = 0 then gT k (r + 1) (S ||| 2 ^ t3 r) (P ||| ((S ||| 2 ^ t3 r) <<< t3 r)) S0 P0 else 0) + (if P &&& (P0 ||| ((S0 ||| 2 ^ t3 r) <<< t3 r)) = 0 then gT k (r + 1) S P (S0 ||| 2 ^ t3 r) (P0 ||| ((S0 ||| 2 ^ t3 r) <<< t3 r)) else 0)
theorem gT_s (k r S P S0 P0 : Nat) : gT (k + 1) r S P S0 P0 = (if (P ||| ((S ||| 2 ^ t3 r) <<< t3 r)) &&& P0 = 0 then gT k (r + 1) (S ||| 2 ^ t3 r) (P ||| ((S ||| 2 ^ t3 r) <<< t3 r)) S0 P0 else 0) + (if P &&& (P0 ||| ((S0 ||| 2 ^ t3 r) <<< t3 r)) = 0 then gT k (r + 1) S P (S0 ||| 2 ^ t3 r) (P0 ||| ((S0 ||| 2 ^ t3 r) <<< t3 r)) else 0) := rfl
theorem gT_1 : gT 2 0 0 0 0 0 = 4 := by decide +kernel
theorem gT_2 : gT 4 0 0 0 0 0 = 14 := by decide +kernel
theorem gT_3 : gT 8 0 0 0 0 0 = 104 := by decide +kernel
theorem gT_4 : gT 16 0 0 0 0 0 = 1882 := by decide +kernel
def MS (S P r : Nat) (h : Nat → Bool) : Prop := (∀ x, S.testBit x = true ↔ ∃ a, a < r ∧ h a = true ∧ t3 a = x) ∧ ∀ x, P.testBit x = true ↔ ∃ a b, a < r ∧ b < r ∧ h a = true ∧ h b = true ∧ t3 a + t3 b = x
theorem MS_ext {S P r : Nat} {h h2 : Nat → Bool} (e : ∀ a, a < r → h a = h2 a) (m : MS S P r h) : MS S P r h2 := by
  refine ⟨fun x => ?_, fun x => ?_⟩
  · rw [m.1 x]
    constructor
    · rintro ⟨a, q1, q2, q3⟩
      exact ⟨a, q1, by rw [← e a q1]; exact q2, q3⟩
    · rintro ⟨a, q1, q2, q3⟩
      exact ⟨a, q1, by rw [e a q1]; exact q2, q3⟩
  · rw [m.2 x]
    constructor
    · rintro ⟨a, b, q1, q2, q3, q4, q5⟩
      exact ⟨a, b, q1, q2, by rw [← e a q1]; exact q3, by rw [← e b q2]; exact q4, q5⟩
    · rintro ⟨a, b, q1, q2, q3, q4, q5⟩
      exact ⟨a, b, q1, q2, by rw [e a q1]; exact q3, by rw [e b q2]; exact q4, q5⟩
theorem MS_skip {S P r : Nat} {h : Nat → Bool} (m : MS S P r h) (hr : h r = false) : MS S P (r + 1) h := by
  have ne : ∀ a, a < r + 1 → h a = true → a < r := fun a q1 q2 => by
    rcases Nat.eq_or_lt_of_le (show a ≤ r by omega) with z | z
    · rw [z, hr] at q2
      cases q2
    · exact z
  refine ⟨fun x => ?_, fun x => ?_⟩
  · rw [m.1 x]
    constructor
    · rintro ⟨a, q1, q2, q3⟩
      exact ⟨a, by omega, q2, q3⟩
    · rintro ⟨a, q1, q2, q3⟩
      exact ⟨a, ne a q1 q2, q2, q3⟩
  · rw [m.2 x]
    constructor
    · rintro ⟨a, b, q1, q2, q3, q4, q5⟩
      exact ⟨a, b, by omega, by omega, q3, q4, q5⟩
    · rintro ⟨a, b, q1, q2, q3, q4, q5⟩
      exact ⟨a, b, ne a q1 q3, ne b q2 q4, q3, q4, q5⟩
theorem MS_add {S P r : Nat} {h : Nat → Bool} (m : MS S P r h) (hr : h r = true) : MS (S ||| 2 ^ t3 r) (P ||| ((S ||| 2 ^ t3 r) <<< t3 r)) (r + 1) h := by
  have s1 : ∀ x, (S ||| 2 ^ t3 r).testBit x = true ↔ ∃ a, a < r + 1 ∧ h a = true ∧ t3 a = x := by
    intro x
    rw [Nat.testBit_or, Bool.or_eq_true, m.1 x, Nat.testBit_two_pow, decide_eq_true_eq]
    constructor
    · rintro (⟨a, q1, q2, q3⟩ | z)
      · exact ⟨a, by omega, q2, q3⟩
      · exact ⟨r, by omega, hr, z⟩
    · rintro ⟨a, q1, q2, q3⟩
      rcases Nat.eq_or_lt_of_le (show a ≤ r by omega) with z | z
      · rw [z] at q3
        exact Or.inr q3
      · exact Or.inl ⟨a, z, q2, q3⟩
  refine ⟨s1, fun x => ?_⟩
  rw [Nat.testBit_or, Bool.or_eq_true, m.2 x, Nat.testBit_shiftLeft, Bool.and_eq_true, decide_eq_true_eq, s1]
  constructor
  · rintro (⟨a, b, q1, q2, q3, q4, q5⟩ | ⟨z, a, q1, q2, q3⟩)
    · exact ⟨a, b, by omega, by omega, q3, q4, q5⟩
    · exact ⟨a, r, q1, by omega, q2, hr, by omega⟩
  · rintro ⟨a, b, q1, q2, q3, q4, q5⟩
    rcases Nat.eq_or_lt_of_le (show a ≤ r by omega) with z | z
    · rw [z] at q5
      exact Or.inr ⟨by omega, b, q2, q4, by omega⟩
    · rcases Nat.eq_or_lt_of_le (show b ≤ r by omega) with y | y
      · rw [y] at q5
        exact Or.inr ⟨by omega, a, q1, q3, by omega⟩
      · exact Or.inl ⟨a, b, z, y, q3, q4, q5⟩
theorem cnt_eo (f : Nat → Bool) : ∀ N, cnt (2 * N) f = cnt N (fun u => f (2 * u)) + cnt N (fun u => f (2 * u + 1))
  | 0 => rfl
  | N + 1 => by
    have h := cnt_eo f N
    show cnt (2 * N) f + (if f (2 * N) then 1 else 0) + (if f (2 * N + 1) then 1 else 0) = cnt N (fun u => f (2 * u)) + (if f (2 * N) then 1 else 0) + (cnt N (fun u => f (2 * u + 1)) + (if f (2 * N + 1) then 1 else 0))
    omega
theorem and_no {a b : Nat} : a &&& b = 0 ↔ ∀ x, a.testBit x = true → b.testBit x = true → False := by
  constructor
  · intro h x h1 h2
    have : (a &&& b).testBit x = true := by rw [Nat.testBit_and, h1, h2]; rfl
    rw [h, Nat.zero_testBit] at this
    cases this
  · intro h
    apply Nat.eq_of_testBit_eq
    intro x
    rw [Nat.testBit_and, Nat.zero_testBit]
    cases h1 : a.testBit x with
    | false => rfl
    | true =>
      cases h2 : b.testBit x with
      | false => rfl
      | true => exact (h x h1 h2).elim
theorem ext_bit {r p u j : Nat} (hp : p < 2 ^ r) (hj : j < r) : (2 ^ r * u + p).testBit j = p.testBit j := by
  rw [Nat.testBit_two_pow_mul_add _ hp, if_pos hj]
theorem isG_conf {n r p u P P0 S S0 : Nat} (hn : n ≤ 4) (hr : r ≤ 2 ^ n) (hp : p < 2 ^ r) (m : MS S P r p.testBit) (m0 : MS S0 P0 r (fun a => !p.testBit a)) (hc : ¬ P &&& P0 = 0) : isG n (2 ^ r * u + p) = false := by
  have h16 := pw16 hn
  cases hg : isG n (2 ^ r * u + p) with
  | false => rfl
  | true =>
    refine (hc (and_no.mpr (fun x h1 h2 => ?_))).elim
    obtain ⟨a, b, q1, q2, q3, q4, q5⟩ := (m.2 x).mp h1
    obtain ⟨c, d, w1, w2, w3, w4, w5⟩ := (m0.2 x).mp h2
    have e1 := t3_and a (by omega) b (by omega)
    have e2 := t3_and c (by omega) d (by omega)
    rw [q5] at e1
    rw [w5] at e2
    simp only [Bool.not_eq_true'] at w3 w4
    exact isG_no (by omega) hg (show a < 2 ^ n by omega) (show b < 2 ^ n by omega) (show c < 2 ^ n by omega) (show d < 2 ^ n by omega) (by rw [ext_bit hp q1]; exact q3) (by rw [ext_bit hp q2]; exact q4) (by rw [ext_bit hp w1]; exact w3) (by rw [ext_bit hp w2]; exact w4) (e2.1.symm.trans e1.1) (e2.2.symm.trans e1.2)
theorem gT_eq {n : Nat} (hn : n ≤ 4) : ∀ k r p S P S0 P0, r + k = 2 ^ n → p < 2 ^ r → MS S P r p.testBit → MS S0 P0 r (fun a => !p.testBit a) → P &&& P0 = 0 → gT k r S P S0 P0 = cnt (2 ^ k) (fun u => isG n (2 ^ r * u + p))
  | 0, r, p, S, P, S0, P0, hr, hp, m, m0, hc => by
    have h16 := pw16 hn
    show 1 = 0 + (if isG n (2 ^ r * 0 + p) then 1 else 0)
    have : isG n (2 ^ r * 0 + p) = true := by
      rw [Nat.mul_zero, Nat.zero_add]
      refine isG_of (by omega) (fun a b c d ha hb hc2 hd e1 e2 e3 e4 e5 e6 => ?_)
      refine and_no.mp hc (t3 a + t3 b) ((m.2 _).mpr ⟨a, b, by omega, by omega, e1, e2, rfl⟩) ((m0.2 _).mpr ⟨c, d, by omega, by omega, by simp [e3], by simp [e4], ?_⟩)
      rw [t3_sum a (by omega) b (by omega), t3_sum c (by omega) d (by omega), e5, e6]
    rw [this]
    rfl
  | k + 1, r, p, S, P, S0, P0, hr, hp, m, m0, hc => by
    have h2r : 2 ^ (r + 1) = 2 * 2 ^ r := by rw [Nat.pow_succ, Nat.mul_comm]
    have hp1 : 2 ^ r + p < 2 ^ (r + 1) := by omega
    have hp0 : p < 2 ^ (r + 1) := by omega
    have b1 : ∀ a, a < r → (2 ^ r + p).testBit a = p.testBit a := fun a ha => by
      have := ext_bit (u := 1) hp ha
      rw [Nat.mul_one] at this
      exact this
    have b2 : (2 ^ r + p).testBit r = true := by
      have := Nat.testBit_two_pow_mul_add 1 hp r
      rw [Nat.mul_one, if_neg (Nat.lt_irrefl _), Nat.sub_self] at this
      rw [this]
      rfl
    have b3 : p.testBit r = false := Nat.testBit_lt_two_pow hp
    have m1 := MS_add (MS_ext (h2 := (2 ^ r + p).testBit) (fun a ha => (b1 a ha).symm) m) b2
    have m10 := MS_skip (MS_ext (h2 := fun a => !(2 ^ r + p).testBit a) (fun a ha => by rw [b1 a ha]) m0) (by simp [b2])
    have m2 := MS_skip m b3
    have m20 := MS_add m0 (by simp [b3])
    rw [Nat.pow_succ, Nat.mul_comm (2 ^ k) 2, cnt_eo, Nat.add_comm (cnt (2 ^ k) _)]
    have f1 : ∀ u, 2 ^ r * (2 * u + 1) + p = 2 ^ (r + 1) * u + (2 ^ r + p) := fun u => by
      rw [h2r, Nat.mul_add, Nat.mul_one, Nat.mul_comm 2 u, ← Nat.mul_assoc, Nat.mul_comm (2 ^ r * u) 2, ← Nat.mul_assoc]
      omega
    have f0 : ∀ u, 2 ^ r * (2 * u) + p = 2 ^ (r + 1) * u + p := fun u => by
      rw [h2r, Nat.mul_comm 2 (2 ^ r), Nat.mul_assoc]
    refine (gT_s k r S P S0 P0).trans ?_
    congr 1
    · rw [cnt_ext (f2 := fun u => isG n (2 ^ (r + 1) * u + (2 ^ r + p))) (fun u _ => congrArg (isG n) (f1 u))]
      split
      · rename_i hz
        exact gT_eq hn k (r + 1) _ _ _ _ _ (by omega) hp1 m1 m10 hz
      · rename_i hz
        exact (cnt_no _ _ (fun u _ => isG_conf hn (by omega) hp1 m1 m10 hz)).symm
    · rw [cnt_ext (f2 := fun u => isG n (2 ^ (r + 1) * u + p)) (fun u _ => congrArg (isG n) (f0 u))]
      split
      · rename_i hz
        exact gT_eq hn k (r + 1) _ _ _ _ _ (by omega) hp0 m2 m20 hz
      · rename_i hz
        exact (cnt_no _ _ (fun u _ => isG_conf hn (by omega) hp0 m2 m20 hz)).symm
theorem MS_0 {h : Nat → Bool} : MS 0 0 0 h := by
  refine ⟨fun x => ?_, fun x => ?_⟩
  · rw [Nat.zero_testBit]
    exact ⟨fun z => (Bool.false_ne_true z).elim, fun ⟨a, q, _⟩ => absurd q (Nat.not_lt_zero a)⟩
  · rw [Nat.zero_testBit]
    exact ⟨fun z => (Bool.false_ne_true z).elim, fun ⟨a, _, q, _⟩ => absurd q (Nat.not_lt_zero a)⟩
theorem gates_cnt {n : Nat} (hn : n ≤ 4) : cnt (2 ^ 2 ^ n) (isG n) = gT (2 ^ n) 0 0 0 0 0 := by
  rw [gT_eq hn (2 ^ n) 0 0 0 0 0 0 (by omega) (by decide) MS_0 MS_0 (by decide)]
  apply cnt_ext
  intro u _
  rw [Nat.pow_zero, Nat.one_mul, Nat.add_zero]
def gatesF (n : Nat) : Nat := cnt (2 ^ 2 ^ n) (isG n)
theorem gatesF_v : gatesF 1 = 4 ∧ gatesF 2 = 14 ∧ gatesF 3 = 104 ∧ gatesF 4 = 1882 := ⟨(gates_cnt (by omega)).trans gT_1, (gates_cnt (by omega)).trans gT_2, (gates_cnt (by omega)).trans gT_3, (gates_cnt (by omega)).trans gT_4⟩
