/-- the code of a row in threes -/
def c3k (n r : Nat) : Nat → Nat
  | 0 => 0
  | k + 1 => 3 * c3k n r k + (if r.testBit (n - 1 - k) then 1 else 0)
def c3 (n r : Nat) : Nat := c3k n r n
def d3O (n s : Nat) : Nat := mkT n (fun i => decide (1 ≤ s / 3 ^ i % 3))
def d3A (n s : Nat) : Nat := mkT n (fun i => decide (s / 3 ^ i % 3 = 2))
theorem c3_dec : ∀ n, n < 6 → ∀ a, a < 2 ^ n → ∀ b, b < 2 ^ n → d3O n (c3 n a + c3 n b) = a ||| b ∧ d3A n (c3 n a + c3 n b) = a &&& b ∧ c3 n a + c3 n b = c3 n (a &&& b) + c3 n (a ||| b) ∧ c3 n a + c3 n b < 243 := by decide +kernel
theorem c3_iff {n a b c d : Nat} (hn : n < 6) (ha : a < 2 ^ n) (hb : b < 2 ^ n) (hc : c < 2 ^ n) (hd : d < 2 ^ n) : c3 n c + c3 n d = c3 n a + c3 n b ↔ c &&& d = a &&& b ∧ c ||| d = a ||| b := by
  have h1 := c3_dec n hn a ha b hb
  have h2 := c3_dec n hn c hc d hd
  constructor
  · intro h
    rw [h] at h2
    exact ⟨h2.2.1.symm.trans h1.2.1, h2.1.symm.trans h1.1⟩
  · rintro ⟨q1, q2⟩
    rw [h1.2.2.1, h2.2.2.1, q1, q2]
theorem par_1 : ∀ c, c < 32 → ∀ d, d < 32 → c + d = (c &&& d) + (c ||| d) ∧ c &&& (c &&& d) = c &&& d ∧ c ||| (c ||| d) = c ||| d := by decide +kernel
def par2b (x y c : Nat) : Bool := !(x &&& y == x && c &&& x == x && c ||| y == y) || (c &&& (x + y - c) == x && c ||| (x + y - c) == y && decide (x + y - c < 32) && decide (x + y - c ≤ y))
theorem par_2b : ∀ x, x < 32 → ∀ y, y < 32 → ∀ c, c < 32 → par2b x y c = true := by decide +kernel
theorem par_2 : ∀ x, x < 32 → ∀ y, y < 32 → ∀ c, c < 32 → (x &&& y = x ∧ c &&& x = x ∧ c ||| y = y) → c &&& (x + y - c) = x ∧ c ||| (x + y - c) = y ∧ x + y - c < 32 ∧ x + y - c ≤ y := by
  intro x hx y hy c hc h
  have := par_2b x hx y hy c hc
  simp [par2b, h.1, h.2.1, h.2.2] at this
  omega
theorem and_or_sub (a b : Nat) : (a &&& b) &&& (a ||| b) = a &&& b := by
  apply Nat.eq_of_testBit_eq
  intro i
  simp only [Nat.testBit_and, Nat.testBit_or]
  cases a.testBit i <;> cases b.testBit i <;> rfl
theorem okC_pair {n t a b c d : Nat} (hn : n ≤ 5) (ha : a < 2 ^ n) (hb : b < 2 ^ n) (hcd : c ≤ d) (hd : d < 2 ^ n) (h1 : t.testBit c = false) (h2 : t.testBit d = false) (h : c3 n c + c3 n d = c3 n a + c3 n b) : okC t a b c = true ∧ d = (a &&& b) + (a ||| b) - c := by
  have h5 := pw5 hn
  obtain ⟨q1, q2⟩ := (c3_iff (by omega) ha hb (by omega) hd).mp h
  obtain ⟨p1, p2, p3⟩ := par_1 c (by omega) d (by omega)
  rw [q1, q2] at p1
  rw [q1] at p2
  rw [q2] at p3
  have e : d = (a &&& b) + (a ||| b) - c := by omega
  refine ⟨?_, e⟩
  unfold okC
  rw [← e]
  simp [p2, p3, h1, h2, hcd]
theorem pair_okC {n t a b c : Nat} (hn : n ≤ 5) (ha : a < 2 ^ n) (hb : b < 2 ^ n) (hc : c < 2 ^ n) (h : okC t a b c = true) : ∃ d, d = (a &&& b) + (a ||| b) - c ∧ c ≤ d ∧ d < 2 ^ n ∧ t.testBit c = false ∧ t.testBit d = false ∧ c3 n c + c3 n d = c3 n a + c3 n b := by
  have h5 := pw5 hn
  have hor : a ||| b < 2 ^ n := Nat.or_lt_two_pow ha hb
  have hand : a &&& b ≤ a := Nat.and_le_left
  unfold okC at h
  simp only [Bool.and_eq_true, decide_eq_true_eq, Bool.not_eq_true'] at h
  obtain ⟨q1, q2, q3, q4, q5⟩ := h
  obtain ⟨p1, p2, p3, p4⟩ := par_2 (a &&& b) (by omega) (a ||| b) (by omega) c (by omega) ⟨and_or_sub a b, q1, q2⟩
  refine ⟨_, rfl, q5, by omega, q3, q4, ?_⟩
  exact (c3_iff (by omega) ha hb hc (by omega)).mpr ⟨p1, p2⟩
theorem hasC_iff {n t a b : Nat} (hn : n ≤ 5) (ha : a < 2 ^ n) (hb : b < 2 ^ n) : hasC n t a b = true ↔ ∃ c d, c ≤ d ∧ d < 2 ^ n ∧ t.testBit c = false ∧ t.testBit d = false ∧ c3 n c + c3 n d = c3 n a + c3 n b := by
  constructor
  · intro h
    have h1 : fa_first (okC t a b) (2 ^ n) < 2 ^ n := of_decide_eq_true h
    have h2 := fa_first_yes (okC t a b) (2 ^ n) h1
    obtain ⟨d, -, q1, q2, q3, q4, q5⟩ := pair_okC hn ha hb h1 h2
    exact ⟨_, d, q1, q2, q3, q4, q5⟩
  · rintro ⟨c, d, q1, q2, q3, q4, q5⟩
    have h1 := (okC_pair hn ha hb q1 q2 q3 q4 q5).1
    have hc : c < 2 ^ n := by omega
    cases h : hasC n t a b with
    | true => rfl
    | false =>
      have h2 : ¬ fa_first (okC t a b) (2 ^ n) < 2 ^ n := of_decide_eq_false h
      have h3 := fa_first_le (okC t a b) (2 ^ n)
      have h4 := fa_first_no (okC t a b) (2 ^ n) c (by omega)
      rw [h1] at h4
      cases h4
set_option maxRecDepth 100000 in
theorem con_X8_layThree {g : jG} {M : jMem} {q : jMq} {n : Nat} {th : Nat → Int32} (h34 : M 34 = .inr (7, oMod g q)) (h37 : M 37 = iA g 32 th) (hn : n ≤ 5) (h1 : 1 ≤ n) : Con g jX8_layThree 0 [.ref (jA g 34), .int (nI n)] M (fun v M2 => v = none ∧ ∃ th2, M2 = va_up M 37 (iA g 32 th2) ∧ ∀ r, r < 2 ^ n → th2 r = nI (c3 n r)) := by
  have h5 := pw5 hn
  refine con_of (l := [some (.ref (jA g 34)), some (.int (nI n)), none, none, none]) (by decide) (Nat.le_of_ble_eq_true rfl) rfl ?_
  refine j_iconst (n := 1) (nI 0) dX8_layThree_0 rfl (by decide) ?_
  refine j_istore_n2 (n := 2) dX8_layThree_1 rfl (Nat.le_of_ble_eq_true rfl) rfl ?_
  have key : ∀ r, r ≤ 2 ^ n → ∀ (f : Nat → Int32) (x3 x4 : Option Value), jNL x3 = true → (∀ j, j < r → f j = nI (c3 n j)) → J g jX8_layThree 0 (fun v M2 => v = none ∧ ∃ th2, M2 = va_up M 37 (iA g 32 th2) ∧ ∀ r, r < 2 ^ n → th2 r = nI (c3 n r)) 2 [some (.ref (jA g 34)), some (.int (nI n)), some (.int (nI r)), x3, x4] [] (va_up M 37 (iA g 32 f)) := by
    refine j_for ?_ ?_
    · intro f x3 x4 _ hf
      refine j_iload_n2 (n := 3) dX8_layThree_2 rfl ?_
      refine j_iconst (n := 4) (nI 1) dX8_layThree_3 rfl (by decide) ?_
      refine j_iload_n1 (n := 5) dX8_layThree_4 rfl ?_
      refine j_ishl (n := 6) dX8_layThree_5 rfl ?_
      refine j_topi (nI (2 ^ n)) (ai_shl1 (by omega)) ?_
      refine j_nicmp_ge (n := 9) 51 dX8_layThree_6 rfl (by decide) (by omega) (by omega) (fun h => ?_) (fun h => ?_)
      · refine j_vret dX8_layThree_51 rfl ?_
        exact ⟨rfl, f, rfl, hf⟩
      · omega
    · intro r hr ih f x3 x4 hx3 hf
      refine j_iload_n2 (n := 3) dX8_layThree_2 rfl ?_
      refine j_iconst (n := 4) (nI 1) dX8_layThree_3 rfl (by decide) ?_
      refine j_iload_n1 (n := 5) dX8_layThree_4 rfl ?_
      refine j_ishl (n := 6) dX8_layThree_5 rfl ?_
      refine j_topi (nI (2 ^ n)) (ai_shl1 (by omega)) ?_
      refine j_nicmp_ge (n := 9) 51 dX8_layThree_6 rfl (by decide) (by omega) (by omega) (fun h => ?_) (fun h => ?_)
      · omega
      refine j_iconst (n := 10) (nI 0) dX8_layThree_9 rfl (by decide) ?_
      refine j_istore_n3 (n := 11) dX8_layThree_10 rfl (Nat.le_of_ble_eq_true rfl) rfl ?_
      refine j_iload_n1 (n := 12) dX8_layThree_11 rfl ?_
      refine j_iconst (n := 13) (nI 1) dX8_layThree_12 rfl (by decide) ?_
      refine j_isub (n := 14) dX8_layThree_13 rfl ?_
      refine j_topi (iI ((n : Int) - 1 - ((0 : Nat) : Int))) (by rw [← iI_nat, ← iI_nat, iI_sub]; simp) ?_
      refine j_istore4 (n := 16) dX8_layThree_14 rfl (Nat.le_of_ble_eq_true rfl) rfl ?_
      have inner : ∀ k, k ≤ n → J g jX8_layThree 0 (fun v M2 => v = none ∧ ∃ th2, M2 = va_up M 37 (iA g 32 th2) ∧ ∀ r, r < 2 ^ n → th2 r = nI (c3 n r)) 16 [some (.ref (jA g 34)), some (.int (nI n)), some (.int (nI r)), some (.int (nI (c3k n r k))), some (.int (iI ((n : Int) - 1 - (k : Int))))] [] (va_up M 37 (iA g 32 f)) := by
        refine j_for ?_ ?_
        · refine j_iload4 (n := 18) dX8_layThree_16 rfl ?_
          refine j_if_lt (n := 21) 38 dX8_layThree_18 rfl (by decide) (fun e => ?_) (fun e => ?_)
          rotate_left
          · exact absurd ((iI_lt (a := (n : Int) - 1 - (n : Int)) (b := 0) (by omega) (by omega)).mpr (by omega)) e
          refine j_aload_n0 (n := 39) dX8_layThree_38 rfl ?_
          refine j_get (n := 42) (k := 2) dX8_layThree_39 rfl jcl7 (Nat.le_of_ble_eq_true rfl) fl_X8_17 (by first | decide | omega) (by first | assumption | rfl) (by rfl) ?_
          refine j_iload_n2 (n := 43) dX8_layThree_42 rfl ?_
          refine j_iload_n3 (n := 44) dX8_layThree_43 rfl ?_
          refine j_iast_n (n := 45) dX8_layThree_44 rfl (by first | decide | omega) (by first | assumption | rfl) (by decide) (by first | assumption | omega) ?_
          refine j_inc2 (n := 48) dX8_layThree_45 rfl (Nat.le_of_ble_eq_true rfl) rfl ?_
          refine j_goto 2 dX8_layThree_48 (by decide) ?_
          rw [va_uu]
          refine ih _ _ _ rfl (fun j hj => ?_)
          by_cases e2 : j = r
          · rw [e2, pk_us]
            rfl
          · rw [pk_un e2]
            exact hf j (by omega)
        · intro k hk ih2
          have e1 : iI ((n : Int) - 1 - (k : Int)) = nI (n - 1 - k) := by
            rw [← iI_nat]
            congr 1
            omega
          refine j_iload4 (n := 18) dX8_layThree_16 rfl ?_
          refine j_if_lt (n := 21) 38 dX8_layThree_18 rfl (by decide) (fun e => ?_) (fun e => ?_)
          · have := (iI_lt (a := (n : Int) - 1 - (k : Int)) (b := 0) (by omega) (by omega)).mp e
            omega
          rw [e1]
          refine j_iconst (n := 22) (nI 3) dX8_layThree_21 rfl (by decide) ?_
          refine j_iload_n3 (n := 23) dX8_layThree_22 rfl ?_
          refine j_imul (n := 24) dX8_layThree_23 rfl ?_
          refine j_iload_n2 (n := 25) dX8_layThree_24 rfl ?_
          refine j_iload4 (n := 27) dX8_layThree_25 rfl ?_
          refine j_ishr (n := 28) dX8_layThree_27 rfl ?_
          refine j_iconst (n := 29) (nI 1) dX8_layThree_28 rfl (by decide) ?_
          refine j_iand (n := 30) dX8_layThree_29 rfl ?_
          refine j_topi (nI (if r.testBit (n - 1 - k) then 1 else 0)) (by rw [ai_bit (by omega) (by omega), jB_nI]) ?_
          refine j_iadd (n := 31) dX8_layThree_30 rfl ?_
          refine j_topi (nI (c3k n r (k + 1))) (by rw [pk_mul, nI_add]; rfl) ?_
          refine j_istore_n3 (n := 32) dX8_layThree_31 rfl (Nat.le_of_ble_eq_true rfl) rfl ?_
          refine j_iinc4 (n := 35) (v := iI ((n : Int) - 1 - ((k + 1 : Nat) : Int))) dX8_layThree_32 rfl (Nat.le_of_ble_eq_true rfl) rfl ?_ ?_
          · rw [← e1]
            show iI _ + iI (-1) = _
            rw [iI_add]
            congr 1
            omega
          refine j_goto 16 dX8_layThree_35 (by decide) ?_
          exact ih2
      exact inner 0 (Nat.zero_le _)
  have h0 := key 0 (Nat.zero_le _) th none none rfl (fun j hj => absurd hj (Nat.not_lt_zero j))
  rw [va_self h37] at h0
  exact h0
/-- which sums of two codes zeros have, of the pairs ahead of (c, d) -/
def HF (n t c d k : Nat) : Prop := ∃ c1 d1, (c1 < c ∨ (c1 = c ∧ d1 < d)) ∧ c1 ≤ d1 ∧ d1 < 2 ^ n ∧ t.testBit c1 = false ∧ t.testBit d1 = false ∧ c3 n c1 + c3 n d1 = k
def hfOK (n t c d : Nat) (f : Nat → Int32) : Prop := ∀ k, k < 243 → ∃ b : Bool, f k = jB b ∧ (b = true ↔ HF n t c d k)
theorem hfOK.same {n t c d c2 d2 : Nat} {f : Nat → Int32} (h : hfOK n t c d f) (hs : ∀ k, HF n t c d k ↔ HF n t c2 d2 k) : hfOK n t c2 d2 f := by
  intro k hk
  obtain ⟨b, h1, h2⟩ := h k hk
  exact ⟨b, h1, h2.trans (hs k)⟩
theorem bnar (x : Int32) (h : x = nI 0 ∨ x = nI 1) : vp_nar .boolean x = x := by
  rcases h with h | h <;> rw [h] <;> rfl
set_option maxRecDepth 100000 in
theorem con_X8_layFalse {g : jG} {M : jMem} {q : jMq} {n t : Nat} {th hf : Nat → Int32} (h34 : M 34 = .inr (7, oMod g q)) (h37 : M 37 = iA g 32 th) (h38 : M 38 = zA g 243 hf) (hn : n ≤ 5) (h1 : 1 ≤ n) (ht : t < 2 ^ 32) : Con g jX8_layFalse 1 [.ref (jA g 34), .long (lN t), .int (nI n)] M (fun v M2 => v = none ∧ ∃ th2 hf2, M2 = va_up (va_up M 37 (iA g 32 th2)) 38 (zA g 243 hf2) ∧ (∀ r, r < 2 ^ n → th2 r = nI (c3 n r)) ∧ hfOK n t (2 ^ n) 0 hf2) := by
  have h5 := pw5 hn
  refine con_of (l := [some (.ref (jA g 34)), some (.long (lN t)), none, some (.int (nI n)), none, none]) (by decide) (Nat.le_of_ble_eq_true rfl) rfl ?_
  refine j_aload_n0 (n := 1) dX8_layFalse_0 rfl ?_
  refine j_iload_n3 (n := 2) dX8_layFalse_1 rfl ?_
  refine j_cV1 (n := 5) (con_X8_layThree h34 h37 hn h1) dX8_layFalse_2 rfl cal_X8_layThree ml_X8_121 (Nat.le_of_ble_eq_true rfl) (by first | decide | omega) rfl rfl (Nat.le_of_ble_eq_true rfl) (by first | assumption | rfl) ?_
  rintro _ M2 ⟨rfl, th2, rfl, hth⟩
  refine j_iconst (n := 6) (nI 0) dX8_layFalse_5 rfl (by decide) ?_
  refine j_istore4 (n := 8) dX8_layFalse_6 rfl (Nat.le_of_ble_eq_true rfl) rfl ?_
  have pass2 : ∀ c, c ≤ 2 ^ n → ∀ (f : Nat → Int32) (x5 : Option Value), hfOK n t c 0 f → J g jX8_layFalse 1 (fun v M2 => v = none ∧ ∃ th2 hf2, M2 = va_up (va_up M 37 (iA g 32 th2)) 38 (zA g 243 hf2) ∧ (∀ r, r < 2 ^ n → th2 r = nI (c3 n r)) ∧ hfOK n t (2 ^ n) 0 hf2) 33 [some (.ref (jA g 34)), some (.long (lN t)), none, some (.int (nI n)), some (.int (nI c)), x5] [] (va_up (va_up M 37 (iA g 32 th2)) 38 (zA g 243 f)) := by
    refine j_for ?_ ?_
    · intro f x5 hf
      refine j_iload4 (n := 35) dX8_layFalse_33 rfl ?_
      refine j_iconst (n := 36) (nI 1) dX8_layFalse_35 rfl (by decide) ?_
      refine j_iload_n3 (n := 37) dX8_layFalse_36 rfl ?_
      refine j_ishl (n := 38) dX8_layFalse_37 rfl ?_
      refine j_topi (nI (2 ^ n)) (ai_shl1 (by omega)) ?_
      refine j_nicmp_ge (n := 41) 104 dX8_layFalse_38 rfl (by decide) (by omega) (by omega) (fun h => ?_) (fun h => ?_)
      · refine j_vret dX8_layFalse_104 rfl ?_
        exact ⟨rfl, th2, f, rfl, hth, hf⟩
      · omega
    · intro c hc ih f x5 hf
      refine j_iload4 (n := 35) dX8_layFalse_33 rfl ?_
      refine j_iconst (n := 36) (nI 1) dX8_layFalse_35 rfl (by decide) ?_
      refine j_iload_n3 (n := 37) dX8_layFalse_36 rfl ?_
      refine j_ishl (n := 38) dX8_layFalse_37 rfl ?_
      refine j_topi (nI (2 ^ n)) (ai_shl1 (by omega)) ?_
      refine j_nicmp_ge (n := 41) 104 dX8_layFalse_38 rfl (by decide) (by omega) (by omega) (fun h => ?_) (fun h => ?_)
      · omega
      refine j_iload4 (n := 43) dX8_layFalse_41 rfl ?_
      refine j_istore5 (n := 45) dX8_layFalse_43 rfl (Nat.le_of_ble_eq_true rfl) rfl ?_
      have fin : ∀ (d : Nat) (f : Nat → Int32), hfOK n t c d f → (t.testBit c = true ∨ 2 ^ n ≤ d) → J g jX8_layFalse 1 (fun v M2 => v = none ∧ ∃ th2 hf2, M2 = va_up (va_up M 37 (iA g 32 th2)) 38 (zA g 243 hf2) ∧ (∀ r, r < 2 ^ n → th2 r = nI (c3 n r)) ∧ hfOK n t (2 ^ n) 0 hf2) 98 [some (.ref (jA g 34)), some (.long (lN t)), none, some (.int (nI n)), some (.int (nI c)), some (.int (nI d))] [] (va_up (va_up M 37 (iA g 32 th2)) 38 (zA g 243 f)) := by
        intro d f hf hq
        refine j_inc4 (n := 101) dX8_layFalse_98 rfl (Nat.le_of_ble_eq_true rfl) rfl ?_
        refine j_goto 33 dX8_layFalse_101 (by decide) ?_
        refine ih _ _ (hf.same (fun k => ⟨?_, ?_⟩))
        · rintro ⟨c1, d1, p1, p2⟩
          exact ⟨c1, d1, by omega, p2⟩
        · rintro ⟨c1, d1, p1, p2⟩
          refine ⟨c1, d1, ?_, p2⟩
          rcases hq with hq | hq
          · have : c1 ≠ c := fun z => by rw [z, hq] at p2; exact absurd p2.2.2.1 (by decide)
            omega
          · omega
      have inner : ∀ d, d ≤ 2 ^ n → c ≤ d → ∀ f : Nat → Int32, hfOK n t c d f → J g jX8_layFalse 1 (fun v M2 => v = none ∧ ∃ th2 hf2, M2 = va_up (va_up M 37 (iA g 32 th2)) 38 (zA g 243 hf2) ∧ (∀ r, r < 2 ^ n → th2 r = nI (c3 n r)) ∧ hfOK n t (2 ^ n) 0 hf2) 45 [some (.ref (jA g 34)), some (.long (lN t)), none, some (.int (nI n)), some (.int (nI c)), some (.int (nI d))] [] (va_up (va_up M 37 (iA g 32 th2)) 38 (zA g 243 f)) := by
        refine j_for ?_ ?_
        · intro _ f hf
          refine j_iload5 (n := 47) dX8_layFalse_45 rfl ?_
          refine j_iconst (n := 48) (nI 1) dX8_layFalse_47 rfl (by decide) ?_
          refine j_iload_n3 (n := 49) dX8_layFalse_48 rfl ?_
          refine j_ishl (n := 50) dX8_layFalse_49 rfl ?_
          refine j_topi (nI (2 ^ n)) (ai_shl1 (by omega)) ?_
          refine j_nicmp_ge (n := 53) 98 dX8_layFalse_50 rfl (by decide) (by omega) (by omega) (fun h => ?_) (fun h => ?_)
          · exact fin _ f hf (Or.inr (Nat.le_refl _))
          · omega
        · intro d hd ih2 hcd f hf
          refine j_iload5 (n := 47) dX8_layFalse_45 rfl ?_
          refine j_iconst (n := 48) (nI 1) dX8_layFalse_47 rfl (by decide) ?_
          refine j_iload_n3 (n := 49) dX8_layFalse_48 rfl ?_
          refine j_ishl (n := 50) dX8_layFalse_49 rfl ?_
          refine j_topi (nI (2 ^ n)) (ai_shl1 (by omega)) ?_
          refine j_nicmp_ge (n := 53) 98 dX8_layFalse_50 rfl (by decide) (by omega) (by omega) (fun h => ?_) (fun h => ?_)
          · omega
          refine j_lload_n1 (n := 54) dX8_layFalse_53 rfl ?_
          refine j_iload4 (n := 56) dX8_layFalse_54 rfl ?_
          refine j_fnS2 (n := 59) (con_X8_is (by omega) (by omega)) dX8_layFalse_56 rfl cal_X8_is ml_X8_80 (Nat.le_of_ble_eq_true rfl) (Nat.le_of_ble_eq_true rfl) ?_
          refine j_bif_ne (n := 62) 98 dX8_layFalse_59 rfl (by decide) (fun e1 => ?_) (fun e1 => ?_)
          · exact fin _ f hf (Or.inl e1)
          refine j_lload_n1 (n := 63) dX8_layFalse_62 rfl ?_
          refine j_iload5 (n := 65) dX8_layFalse_63 rfl ?_
          refine j_fnS2 (n := 68) (con_X8_is (by omega) (by omega)) dX8_layFalse_65 rfl cal_X8_is ml_X8_80 (Nat.le_of_ble_eq_true rfl) (Nat.le_of_ble_eq_true rfl) ?_
          refine j_bif_ne (n := 71) 92 dX8_layFalse_68 rfl (by decide) (fun e2 => ?_) (fun e2 => ?_)
          · refine j_inc5 (n := 95) dX8_layFalse_92 rfl (Nat.le_of_ble_eq_true rfl) rfl ?_
            refine j_goto 45 dX8_layFalse_95 (by decide) ?_
            refine ih2 (by omega) f (hf.same (fun k => ⟨?_, ?_⟩))
            · rintro ⟨c1, d1, p1, p2⟩
              exact ⟨c1, d1, by omega, p2⟩
            · rintro ⟨c1, d1, p1, p2⟩
              refine ⟨c1, d1, ?_, p2⟩
              have : ¬ (c1 = c ∧ d1 = d) := fun z => by rw [z.2, e2] at p2; exact absurd p2.2.2.2.1 (by decide)
              omega
          · refine j_aload_n0 (n := 72) dX8_layFalse_71 rfl ?_
            refine j_get (n := 75) (k := 3) dX8_layFalse_72 rfl jcl7 (Nat.le_of_ble_eq_true rfl) fl_X8_20 (by first | decide | omega) (by first | assumption | rfl) (by rfl) ?_
            refine j_aload_n0 (n := 76) dX8_layFalse_75 rfl ?_
            refine j_get (n := 79) (k := 2) dX8_layFalse_76 rfl jcl7 (Nat.le_of_ble_eq_true rfl) fl_X8_17 (by first | decide | omega) (by first | assumption | rfl) (by rfl) ?_
            refine j_iload4 (n := 81) dX8_layFalse_79 rfl ?_
            refine j_iald_n (n := 82) dX8_layFalse_81 rfl (by first | decide | omega) (by first | assumption | rfl) (by decide) (by first | assumption | omega) ?_
            rw [hth c (by omega)]
            refine j_aload_n0 (n := 83) dX8_layFalse_82 rfl ?_
            refine j_get (n := 86) (k := 2) dX8_layFalse_83 rfl jcl7 (Nat.le_of_ble_eq_true rfl) fl_X8_17 (by first | decide | omega) (by first | assumption | rfl) (by rfl) ?_
            refine j_iload5 (n := 88) dX8_layFalse_86 rfl ?_
            refine j_iald_n (n := 89) dX8_layFalse_88 rfl (by first | decide | omega) (by first | assumption | rfl) (by decide) (by first | assumption | omega) ?_
            rw [hth d (by omega)]
            refine j_iadd (n := 90) dX8_layFalse_89 rfl ?_
            have hlt := (c3_dec n (by omega) c (by omega) d (by omega)).2.2.2
            refine j_topi (nI (c3 n c + c3 n d)) (nI_add _ _) ?_
            refine j_iconst (n := 91) (nI 1) dX8_layFalse_90 rfl (by decide) ?_
            refine j_zast_n (n := 92) dX8_layFalse_91 rfl (by first | decide | omega) (by first | assumption | rfl) (by decide) (by first | assumption | omega) ?_
            rw [va_uu]
            refine j_inc5 (n := 95) dX8_layFalse_92 rfl (Nat.le_of_ble_eq_true rfl) rfl ?_
            refine j_goto 45 dX8_layFalse_95 (by decide) ?_
            refine ih2 (by omega) _ (fun k hk => ?_)
            by_cases e3 : k = c3 n c + c3 n d
            · refine ⟨true, ?_, fun _ => ⟨c, d, by omega, hcd, hd, e1, e2, e3.symm⟩, fun _ => rfl⟩
              rw [e3, pk_us]
              rfl
            · obtain ⟨b, q1, q2⟩ := hf k hk
              refine ⟨b, by rw [pk_un e3]; exact q1, q2.trans ⟨?_, ?_⟩⟩
              · rintro ⟨c1, d1, p1, p2⟩
                exact ⟨c1, d1, by omega, p2⟩
              · rintro ⟨c1, d1, p1, p2⟩
                refine ⟨c1, d1, ?_, p2⟩
                have : ¬ (c1 = c ∧ d1 = d) := fun z => e3 (by rw [← p2.2.2.2.2, z.1, z.2])
                omega
      refine inner c (by omega) (Nat.le_refl _) f (hf.same (fun k => ⟨?_, ?_⟩))
      · rintro ⟨c1, d1, p1, p2⟩
        exact ⟨c1, d1, by omega, p2⟩
      · rintro ⟨c1, d1, p1, p2⟩
        exact ⟨c1, d1, by omega, p2⟩
  have pass1 : ∀ i, i ≤ 243 → ∀ f : Nat → Int32, (∀ k, k < i → f k = jB false) → J g jX8_layFalse 1 (fun v M2 => v = none ∧ ∃ th2 hf2, M2 = va_up (va_up M 37 (iA g 32 th2)) 38 (zA g 243 hf2) ∧ (∀ r, r < 2 ^ n → th2 r = nI (c3 n r)) ∧ hfOK n t (2 ^ n) 0 hf2) 8 [some (.ref (jA g 34)), some (.long (lN t)), none, some (.int (nI n)), some (.int (nI i)), none] [] (va_up (va_up M 37 (iA g 32 th2)) 38 (zA g 243 f)) := by
    refine j_for ?_ ?_
    · intro f hf
      refine j_iload4 (n := 10) dX8_layFalse_8 rfl ?_
      refine j_sipush (n := 13) (nI 243) dX8_layFalse_10 rfl (by decide) ?_
      refine j_nicmp_ge (n := 16) 30 dX8_layFalse_13 rfl (by decide) (by omega) (by omega) (fun h => ?_) (fun h => ?_)
      rotate_left
      · omega
      refine j_iconst (n := 31) (nI 0) dX8_layFalse_30 rfl (by decide) ?_
      refine j_istore4 (n := 33) dX8_layFalse_31 rfl (Nat.le_of_ble_eq_true rfl) rfl ?_
      refine pass2 0 (Nat.zero_le _) f _ (fun k hk => ⟨false, hf k hk, ⟨fun z => by (cases z), ?_⟩⟩)
      rintro ⟨c1, d1, p1, p2⟩
      omega
    · intro i hi ih f hf
      refine j_iload4 (n := 10) dX8_layFalse_8 rfl ?_
      refine j_sipush (n := 13) (nI 243) dX8_layFalse_10 rfl (by decide) ?_
      refine j_nicmp_ge (n := 16) 30 dX8_layFalse_13 rfl (by decide) (by omega) (by omega) (fun h => ?_) (fun h => ?_)
      · omega
      refine j_aload_n0 (n := 17) dX8_layFalse_16 rfl ?_
      refine j_get (n := 20) (k := 3) dX8_layFalse_17 rfl jcl7 (Nat.le_of_ble_eq_true rfl) fl_X8_20 (by first | decide | omega) (by first | assumption | rfl) (by rfl) ?_
      refine j_iload4 (n := 22) dX8_layFalse_20 rfl ?_
      refine j_iconst (n := 23) (nI 0) dX8_layFalse_22 rfl (by decide) ?_
      refine j_zast_n (n := 24) dX8_layFalse_23 rfl (by first | decide | omega) (by first | assumption | rfl) (by decide) (by first | assumption | omega) ?_
      refine j_inc4 (n := 27) dX8_layFalse_24 rfl (Nat.le_of_ble_eq_true rfl) rfl ?_
      refine j_goto 8 dX8_layFalse_27 (by decide) ?_
      rw [va_uu]
      refine ih _ (fun k hk => ?_)
      by_cases e : k = i
      · rw [e, pk_us]
        rfl
      · rw [pk_un e]
        exact hf k (by omega)
  have h0 := pass1 0 (Nat.zero_le _) hf (fun k hk => absurd hk (Nat.not_lt_zero k))
  have hM : va_up (va_up M 37 (iA g 32 th2)) 38 (zA g 243 hf) = va_up M 37 (iA g 32 th2) := va_self h38
  rw [hM] at h0
  exact h0
