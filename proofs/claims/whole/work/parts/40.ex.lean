def regT0 : List (Nat × List Nat × Nat) := [
  (0, [0, 0, 0, 0, 0], 1),
  (2147483648, [1, 1, 1, 1, 1], 5),
  (3221225472, [0, 1, 1, 1, 1], 4),
  (3758096384, [1, 1, 2, 2, 2], 7),
  (4026531840, [0, 0, 1, 1, 1], 3),
  (3892314112, [1, 1, 1, 2, 2], 6),
  (4160749568, [1, 1, 2, 3, 3], 8),
  (4227858432, [0, 1, 1, 2, 2], 5),
  (4261412864, [1, 1, 1, 3, 3], 7),
  (4278190080, [0, 0, 0, 1, 1], 2),
  (3900702720, [1, 1, 1, 1, 2], 5),
  (4169138176, [1, 1, 2, 2, 3], 7),
  (4236247040, [1, 2, 2, 3, 4], 9),
  (4269801472, [1, 1, 1, 2, 3], 6),
  (4286578688, [1, 1, 1, 3, 4], 7),
  (4240441344, [0, 1, 1, 1, 2], 4),
  (4273995776, [1, 2, 2, 3, 5], 9),
  (4290772992, [0, 1, 1, 2, 3], 5),
  (4276092928, [1, 1, 2, 2, 4], 7),
  (4292870144, [1, 1, 2, 3, 5], 8),
  (4293918720, [0, 0, 1, 1, 2], 3),
  (4276617216, [1, 1, 1, 1, 3], 5),
  (4293394432, [1, 1, 1, 2, 4], 6),
  (4294443008, [1, 1, 2, 2, 5], 7),
  (4294705152, [0, 1, 1, 1, 3], 4),
  (4294836224, [1, 1, 1, 1, 4], 5),
  (4294901760, [0, 0, 0, 0, 1], 1),
  (3900735488, [1, 1, 1, 1, 1], 4),
  (4169170944, [1, 1, 2, 2, 2], 6),
  (4236279808, [1, 2, 2, 3, 3], 8)]
def regT1 : List (Nat × List Nat × Nat) := [
  (4269834240, [1, 1, 1, 2, 2], 5),
  (4286611456, [1, 1, 1, 3, 3], 6),
  (4240474112, [1, 2, 2, 2, 3], 7),
  (4274028544, [1, 2, 2, 3, 4], 8),
  (4290805760, [1, 2, 2, 4, 5], 9),
  (4276125696, [1, 1, 2, 2, 3], 6),
  (4292902912, [1, 1, 2, 3, 4], 7),
  (4293951488, [1, 1, 3, 3, 5], 8),
  (4276649984, [1, 1, 1, 1, 2], 4),
  (4293427200, [1, 1, 1, 2, 3], 5),
  (4294475776, [1, 1, 2, 2, 4], 6),
  (4294737920, [1, 2, 2, 2, 5], 7),
  (4294868992, [1, 1, 1, 1, 3], 4),
  (4294934528, [1, 1, 1, 1, 4], 4),
  (4240490496, [0, 1, 1, 1, 1], 3),
  (4274044928, [1, 2, 2, 3, 3], 7),
  (4290822144, [0, 1, 1, 2, 2], 4),
  (4276142080, [1, 2, 3, 3, 4], 8),
  (4292919296, [1, 2, 3, 4, 5], 9),
  (4293967872, [0, 1, 2, 2, 3], 5),
  (4276666368, [1, 2, 2, 2, 3], 6),
  (4293443584, [1, 2, 2, 3, 4], 7),
  (4294492160, [1, 2, 3, 3, 5], 8),
  (4294754304, [0, 1, 1, 1, 2], 3),
  (4294885376, [1, 2, 2, 2, 5], 6),
  (4294950912, [0, 1, 1, 1, 3], 3),
  (4276150272, [1, 1, 2, 2, 2], 5),
  (4292927488, [1, 1, 2, 3, 3], 6),
  (4293976064, [1, 1, 3, 3, 4], 7),
  (4276674560, [2, 2, 3, 3, 4], 8)]
def regT2 : List (Nat × List Nat × Nat) := [
  (4293451776, [2, 2, 3, 4, 5], 9),
  (4294500352, [1, 1, 2, 2, 3], 5),
  (4294762496, [1, 2, 3, 3, 5], 7),
  (4294893568, [1, 1, 2, 2, 4], 5),
  (4294959104, [1, 1, 2, 2, 5], 5),
  (4293980160, [0, 0, 1, 1, 1], 2),
  (4294504448, [1, 1, 3, 3, 4], 6),
  (4294766592, [0, 1, 2, 2, 3], 4),
  (4294897664, [1, 1, 3, 3, 5], 6),
  (4294963200, [0, 0, 1, 1, 2], 2),
  (4276676608, [2, 2, 2, 3, 3], 7),
  (4293453824, [1, 1, 1, 2, 2], 4),
  (4294502400, [2, 2, 3, 4, 5], 8),
  (4294764544, [1, 2, 2, 3, 4], 6),
  (4294895616, [1, 1, 1, 2, 3], 4),
  (4294961152, [1, 1, 1, 2, 4], 4),
  (4294506496, [1, 1, 2, 3, 3], 5),
  (4294768640, [1, 2, 3, 4, 5], 7),
  (4294899712, [1, 1, 2, 3, 4], 5),
  (4294965248, [1, 1, 2, 3, 5], 5),
  (4294769664, [0, 1, 1, 2, 2], 3),
  (4294900736, [1, 2, 2, 4, 5], 6),
  (4294966272, [0, 1, 1, 2, 3], 3),
  (4294901248, [1, 1, 1, 3, 3], 4),
  (4294966784, [1, 1, 1, 3, 4], 4),
  (4294967040, [0, 0, 0, 1, 1], 1),
  (4276676736, [1, 1, 1, 1, 1], 3),
  (4293453952, [2, 2, 2, 3, 3], 6),
  (4294502528, [2, 2, 3, 3, 4], 7),
  (4294764672, [1, 2, 2, 2, 3], 5)]
def regT3 : List (Nat × List Nat × Nat) := [
  (4294895744, [1, 1, 1, 1, 2], 3),
  (4294961280, [1, 1, 1, 1, 3], 3),
  (4294506624, [1, 1, 2, 2, 2], 4),
  (4294768768, [1, 2, 3, 3, 4], 6),
  (4294899840, [1, 1, 2, 2, 3], 4),
  (4294965376, [1, 1, 2, 2, 4], 4),
  (4294769792, [1, 2, 2, 3, 3], 5),
  (4294900864, [1, 2, 2, 3, 4], 5),
  (4294966400, [1, 2, 2, 3, 5], 5),
  (4294901376, [1, 1, 1, 2, 2], 3),
  (4294966912, [1, 1, 1, 2, 3], 3),
  (4294967168, [1, 1, 1, 3, 3], 3),
  (4294769856, [0, 1, 1, 1, 1], 2),
  (4294900928, [1, 2, 2, 2, 3], 4),
  (4294966464, [0, 1, 1, 1, 2], 2),
  (4294901440, [1, 2, 2, 3, 3], 4),
  (4294966976, [1, 2, 2, 3, 4], 4),
  (4294967232, [0, 1, 1, 2, 2], 2),
  (4294901472, [1, 1, 2, 2, 2], 3),
  (4294967008, [1, 1, 2, 2, 3], 3),
  (4294967264, [1, 1, 2, 3, 3], 3),
  (4294967280, [0, 0, 1, 1, 1], 1),
  (4294901480, [1, 1, 1, 1, 1], 2),
  (4294967016, [1, 1, 1, 1, 2], 2),
  (4294967272, [1, 1, 1, 2, 2], 2),
  (4294967288, [1, 1, 2, 2, 2], 2),
  (4294967292, [0, 1, 1, 1, 1], 1),
  (4294967294, [1, 1, 1, 1, 1], 1),
  (4294967295, [0, 0, 0, 0, 0], 0)]
def regT : List (Nat × List Nat × Nat) := regT0 ++ regT1 ++ regT2 ++ regT3
def psum (u : Nat → Nat) (y : Nat) : Nat → Nat
  | 0 => 0
  | b + 1 => psum u y b + (if y.testBit b then u b else 0)
def leafOK (T : Nat) : Bool := match regT.find? (fun e => e.1 == T) with
  | some e => decide (fb_sm (fun b => e.2.1.getD b 0) 5 ≤ 16) && (List.range 32).all (fun y => T.testBit y == decide (e.2.2 ≤ psum (fun b => e.2.1.getD b 0) y 5))
  | none => false
/-- a row that must be 1 because one below it is -/
def cov (y acc : Nat) : Bool := (y.testBit 0 && acc.testBit (y ^^^ 1)) || ((y.testBit 1 && (!y.testBit 0 && acc.testBit (y ^^^ 2 ^^^ 1))) || ((y.testBit 2 && (!y.testBit 1 && acc.testBit (y ^^^ 4 ^^^ 2))) || ((y.testBit 3 && (!y.testBit 2 && acc.testBit (y ^^^ 8 ^^^ 4))) || (y.testBit 4 && (!y.testBit 3 && acc.testBit (y ^^^ 16 ^^^ 8))))))
def chkR : Nat → Nat → Nat → Bool
  | 0, _, acc => leafOK acc
  | k + 1, y, acc => if cov y acc then chkR k (y + 1) (acc ||| 2 ^ y) else chkR k (y + 1) acc && chkR k (y + 1) (acc ||| 2 ^ y)
theorem chkR_ok : chkR 32 0 0 = true := by decide +kernel
def Reg (h : Nat → Bool) : Prop := (∀ y, y < 32 → y.testBit 0 = true → h (y ^^^ 2 ^ 0) = true → h y = true) ∧ ∀ y, y < 32 → ∀ k, 1 ≤ k → k ≤ 4 → y.testBit k = true → y.testBit (k - 1) = false → h (y ^^^ 2 ^ k ^^^ 2 ^ (k - 1)) = true → h y = true
theorem cov_h {h : Nat → Bool} (hr : Reg h) {y : Nat} (hy : y < 32) (hc : cov y (mkT y h) = true) : h y = true := by
  have get : ∀ z, (mkT y h).testBit z = true → h z = true := by
    intro z hz
    rw [mkT_bit] at hz
    simp only [Bool.and_eq_true] at hz
    exact hz.2
  unfold cov at hc
  simp only [Bool.or_eq_true, Bool.and_eq_true, Bool.not_eq_true'] at hc
  rcases hc with ⟨a1, a2⟩ | ⟨a1, a2, a3⟩ | ⟨a1, a2, a3⟩ | ⟨a1, a2, a3⟩ | ⟨a1, a2, a3⟩
  · exact hr.1 y hy a1 (get _ a2)
  · exact hr.2 y hy 1 (by omega) (by omega) a1 a2 (get _ a3)
  · exact hr.2 y hy 2 (by omega) (by omega) a1 a2 (get _ a3)
  · exact hr.2 y hy 3 (by omega) (by omega) a1 a2 (get _ a3)
  · exact hr.2 y hy 4 (by omega) (by omega) a1 a2 (get _ a3)
theorem chkR_sound {h : Nat → Bool} (hr : Reg h) : ∀ k y, y + k = 32 → chkR k y (mkT y h) = true → leafOK (mkT 32 h) = true
  | 0, y, e, hc => by
    have : y = 32 := by omega
    subst this
    exact hc
  | k + 1, y, e, hc => by
    unfold chkR at hc
    cases hy : h y with
    | true =>
      have e2 : mkT (y + 1) h = mkT y h ||| 2 ^ y := by simp [mkT, hy]
      apply chkR_sound hr k (y + 1) (by omega)
      rw [e2]
      split at hc
      · exact hc
      · simp only [Bool.and_eq_true] at hc
        exact hc.2
    | false =>
      have e2 : mkT (y + 1) h = mkT y h := by simp [mkT, hy]
      apply chkR_sound hr k (y + 1) (by omega)
      rw [e2]
      split at hc
      · rename_i hcv
        have := cov_h hr (by omega) hcv
        rw [hy] at this
        cases this
      · simp only [Bool.and_eq_true] at hc
        exact hc.1
theorem Reg_ex {h : Nat → Bool} (hr : Reg h) : ∃ (u : Nat → Nat) (th : Nat), fb_sm u 5 ≤ 16 ∧ ∀ y, y < 32 → h y = decide (th ≤ psum u y 5) := by
  have h1 := chkR_sound hr 32 0 rfl chkR_ok
  unfold leafOK at h1
  split at h1
  · rename_i e _
    simp only [Bool.and_eq_true, decide_eq_true_eq, List.all_eq_true, beq_iff_eq] at h1
    refine ⟨_, e.2.2, h1.1, fun y hy => ?_⟩
    have h2 := h1.2 y (List.mem_range.mpr hy)
    rw [mkT_bit] at h2
    simp only [hy, decide_true, Bool.true_and] at h2
    exact h2
  · cases h1
/-- no two ones and two zeros with the same sums -/
theorem isG_no {n t : Nat} (hn : n ≤ 5) (hg : isG n t = true) {a b c d : Nat} (ha : a < 2 ^ n) (hb : b < 2 ^ n) (hc : c < 2 ^ n) (hd : d < 2 ^ n) (e1 : t.testBit a = true) (e2 : t.testBit b = true) (e3 : t.testBit c = false) (e4 : t.testBit d = false) (e5 : c &&& d = a &&& b) (e6 : c ||| d = a ||| b) : False := by
  have k2 : ∀ a b c d : Nat, a ≤ b → c ≤ d → a < 2 ^ n → b < 2 ^ n → c < 2 ^ n → d < 2 ^ n → t.testBit a = true → t.testBit b = true → t.testBit c = false → t.testBit d = false → c3 n c + c3 n d = c3 n a + c3 n b → False := by
    intro a b c d hab hcd ha hb hc hd e1 e2 e3 e4 e5
    have hC := (hasC_iff hn ha hb).mpr ⟨c, d, hcd, hd, e3, e4, e5⟩
    have hne : a < b := by
      rcases Nat.eq_or_lt_of_le hab with z | z
      · subst z
        rw [hasC_same hn ha e1] at hC
        cases hC
      · exact z
    have hB : pB n t a b = true := by simp [pB, e2, hne, hC]
    have hA : pA n t a = true := by
      unfold pA
      rw [e1, Bool.true_and]
      cases hz : decide (fa_first (pB n t a) (2 ^ n) < 2 ^ n) with
      | true => rfl
      | false =>
        have z1 : ¬ fa_first (pB n t a) (2 ^ n) < 2 ^ n := of_decide_eq_false hz
        have z2 := fa_first_le (pB n t a) (2 ^ n)
        have z3 := fa_first_no (pB n t a) (2 ^ n) b (by omega)
        rw [hB] at z3
        cases z3
    have z4 : ¬ fa_first (pA n t) (2 ^ n) < 2 ^ n := by
      intro z
      unfold isG at hg
      rw [decide_eq_true z] at hg
      cases hg
    have z5 := fa_first_le (pA n t) (2 ^ n)
    have z6 := fa_first_no (pA n t) (2 ^ n) a (by omega)
    rw [hA] at z6
    cases z6
  have e7 : c3 n c + c3 n d = c3 n a + c3 n b := (c3_iff (by omega) ha hb hc hd).mpr ⟨e5, e6⟩
  rcases Nat.le_total a b with z | z <;> rcases Nat.le_total c d with y | y
  · exact k2 a b c d z y ha hb hc hd e1 e2 e3 e4 e7
  · exact k2 a b d c z y ha hb hd hc e1 e2 e4 e3 (by omega)
  · exact k2 b a c d z y hb ha hc hd e2 e1 e3 e4 (by omega)
  · exact k2 b a d c z y hb ha hd hc e2 e1 e4 e3 (by omega)
theorem isG_of {n t : Nat} (hn : n ≤ 5) (h : ∀ a b c d, a < 2 ^ n → b < 2 ^ n → c < 2 ^ n → d < 2 ^ n → t.testBit a = true → t.testBit b = true → t.testBit c = false → t.testBit d = false → c &&& d = a &&& b → c ||| d = a ||| b → False) : isG n t = true := by
  cases hg : isG n t with
  | true => rfl
  | false =>
    exfalso
    obtain ⟨hA, hB, hC⟩ := wit_in hg
    have h1 : pA n t (wA n t) = true := fa_first_yes _ _ hA
    have h2 : pB n t (wA n t) (wB n t (wA n t)) = true := fa_first_yes _ _ hB
    have h3 : okC t (wA n t) (wB n t (wA n t)) (wC n t (wA n t) (wB n t (wA n t))) = true := fa_first_yes _ _ hC
    obtain ⟨d, -, p1, p2, p3, p4, p5⟩ := pair_okC hn hA hB hC h3
    unfold pA at h1
    unfold pB at h2
    simp only [Bool.and_eq_true] at h1 h2
    obtain ⟨q1, q2⟩ := (c3_iff (by omega) hA hB hC p2).mp p5
    exact h _ _ _ d hA hB hC p2 h1.1 h2.1 p3 p4 q1 q2
theorem nf_pos {n t i x : Nat} (hn : n ≤ 5) (hi : i < n) (hg : isG n t = true) (hx : x < 2 ^ n) (h0 : x.testBit i = false) (h1 : nf n t x = true) : nf n t (x ^^^ 2 ^ i) = true := by
  unfold nf at h1 ⊢
  have e : (x ^^^ 2 ^ i) ^^^ mk_ n t = (x ^^^ mk_ n t) ^^^ 2 ^ i := by rw [Nat.xor_assoc, Nat.xor_comm (2 ^ i), ← Nat.xor_assoc]
  rw [e]
  have hr := xlt hx (mk_lt n t)
  have hb : (x ^^^ mk_ n t).testBit i = fl n t i := by rw [Nat.testBit_xor, mk_bit hi, h0]; simp
  cases hf : fl n t i with
  | false => exact fl_f hf hr (hb.trans hf) h1
  | true =>
    cases h3 : t.testBit ((x ^^^ mk_ n t) ^^^ 2 ^ i) with
    | true => rfl
    | false =>
      obtain ⟨q, hq, q1, q2, q3⟩ := fl_t hf
      exact (isG_unate hn hi hg hq (xlt hr (p2lt hi)) q1 q2 q3 (by rw [xbit, hb, hf]; simp) h3 (by rw [xor_twice]; exact h1)).elim
theorem nf_comp {n t i j x y : Nat} (hn : n ≤ 5) (hi : i < n) (hj : j < n) (hij : i ≠ j) (hg : isG n t = true) (hx : x < 2 ^ n) (hy : y < 2 ^ n) (x1 : x.testBit i = true) (x2 : x.testBit j = false) (x3 : nf n t x = true) (x4 : nf n t (x ^^^ 2 ^ i ^^^ 2 ^ j) = false) (y1 : y.testBit i = false) (y2 : y.testBit j = true) (y3 : nf n t y = true) (y4 : nf n t (y ^^^ 2 ^ i ^^^ 2 ^ j) = false) : False := by
  unfold nf at x3 x4 y3 y4
  have hx2 := xlt (xlt hx (p2lt hi)) (p2lt hj)
  have hy2 := xlt (xlt hy (p2lt hi)) (p2lt hj)
  refine isG_no hn hg (xlt hx (mk_lt n t)) (xlt hy (mk_lt n t)) (xlt hx2 (mk_lt n t)) (xlt hy2 (mk_lt n t)) x3 y3 x4 y4 ?_ ?_
  · apply Nat.eq_of_testBit_eq
    intro k
    simp only [Nat.testBit_and, Nat.testBit_xor, Nat.testBit_two_pow]
    by_cases e : i = k
    · subst e
      simp [Ne.symm hij, x1, y1]
    · by_cases e2 : j = k
      · subst e2
        simp [e, x2, y2]
      · simp [e, e2]
  · apply Nat.eq_of_testBit_eq
    intro k
    simp only [Nat.testBit_or, Nat.testBit_xor, Nat.testBit_two_pow]
    by_cases e : i = k
    · subst e
      simp [Ne.symm hij, x1, y1]
    · by_cases e2 : j = k
      · subst e2
        simp [e, x2, y2]
      · simp [e, e2]
/-- the one that is 1 more often stands above -/
theorem nf_dom {n t i j y : Nat} (hn : n ≤ 5) (hi : i < n) (hj : j < n) (hij : i ≠ j) (hg : isG n t = true) (hA : Af n t j ≤ Af n t i) (hy : y < 2 ^ n) (y1 : y.testBit i = false) (y2 : y.testBit j = true) (y3 : nf n t y = true) : nf n t (y ^^^ 2 ^ i ^^^ 2 ^ j) = true := by
  cases y4 : nf n t (y ^^^ 2 ^ i ^^^ 2 ^ j) with
  | true => rfl
  | false =>
    exfalso
    have hm : 2 ^ i ^^^ 2 ^ j < 2 ^ n := xlt (p2lt hi) (p2lt hj)
    have a1 : Af n t i = cnt (2 ^ n) (fun x => (nf n t x && x.testBit i) && x.testBit j) + cnt (2 ^ n) (fun x => (nf n t x && x.testBit i) && !x.testBit j) := cnt_or (p := fun x => nf n t x && x.testBit i) (q := fun x => x.testBit j) _
    have a2 : Af n t j = cnt (2 ^ n) (fun x => (nf n t x && x.testBit j) && x.testBit i) + cnt (2 ^ n) (fun x => (nf n t x && x.testBit j) && !x.testBit i) := cnt_or (p := fun x => nf n t x && x.testBit j) (q := fun x => x.testBit i) _
    have a3 : cnt (2 ^ n) (fun x => (nf n t x && x.testBit i) && x.testBit j) = cnt (2 ^ n) (fun x => (nf n t x && x.testBit j) && x.testBit i) := cnt_ext (fun x _ => by cases nf n t x <;> cases x.testBit i <;> cases x.testBit j <;> rfl)
    have a4 : cnt (2 ^ n) (fun x => (nf n t x && x.testBit j) && !x.testBit i) = cnt (2 ^ n) (fun x => (nf n t (x ^^^ 2 ^ i ^^^ 2 ^ j) && x.testBit i) && !x.testBit j) := by
      rw [← cnt_xor hn hm (fun x => (nf n t x && x.testBit j) && !x.testBit i)]
      apply cnt_ext
      intro x hx
      rw [← Nat.xor_assoc, x2bit, x2bit]
      simp [hij, Ne.symm hij]
      cases nf n t (x ^^^ 2 ^ i ^^^ 2 ^ j) <;> cases x.testBit i <;> cases x.testBit j <;> rfl
    have hback : y ^^^ 2 ^ i ^^^ 2 ^ j ^^^ 2 ^ i ^^^ 2 ^ j = y := by
      rw [Nat.xor_assoc (y ^^^ 2 ^ i), Nat.xor_comm (2 ^ j) (2 ^ i), ← Nat.xor_assoc, xor_twice, xor_twice]
    have : cnt (2 ^ n) (fun x => (nf n t x && x.testBit i) && !x.testBit j) < cnt (2 ^ n) (fun x => (nf n t (x ^^^ 2 ^ i ^^^ 2 ^ j) && x.testBit i) && !x.testBit j) := by
      refine cnt_strict ?_ (y ^^^ 2 ^ i ^^^ 2 ^ j) (xlt (xlt hy (p2lt hi)) (p2lt hj)) ?_ ?_
      · intro x hx hp
        simp only [Bool.and_eq_true, Bool.not_eq_true'] at hp ⊢
        refine ⟨⟨?_, hp.1.2⟩, hp.2⟩
        cases hz : nf n t (x ^^^ 2 ^ i ^^^ 2 ^ j) with
        | true => rfl
        | false => exact (nf_comp hn hi hj hij hg hx hy hp.1.2 hp.2 hp.1.1 hz y1 y2 y3 y4).elim
      · simp [y4]
      · rw [hback, x2bit, x2bit]
        simp [y1, y2, y3, hij, Ne.symm hij]
    omega
