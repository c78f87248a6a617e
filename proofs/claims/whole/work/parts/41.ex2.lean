theorem sort5 (A : Nat → Nat) : ∃ a b c d e : Nat, List.Perm [a, b, c, d, e] [0, 1, 2, 3, 4] ∧ A b ≤ A a ∧ A c ≤ A b ∧ A d ≤ A c ∧ A e ≤ A d := by
  have h1 := List.mergeSort_perm [0, 1, 2, 3, 4] (fun i j => decide (A j ≤ A i))
  have h2 := List.pairwise_mergeSort (le := fun i j => decide (A j ≤ A i)) (fun a b c h3 h4 => by simp at h3 h4 ⊢; omega) (fun a b => by simp; omega) [0, 1, 2, 3, 4]
  have h3 := h1.length_eq
  generalize List.mergeSort [0, 1, 2, 3, 4] (fun i j => decide (A j ≤ A i)) = L at h1 h2 h3
  match L, h1, h2, h3 with
  | [a, b, c, d, e], h1, h2, _ =>
    simp only [List.pairwise_cons, decide_eq_true_eq, List.mem_cons, List.not_mem_nil, or_false, forall_eq_or_imp, forall_eq] at h2
    exact ⟨a, b, c, d, e, h1, h2.1.1, h2.2.1.1, h2.2.2.1.1, h2.2.2.2.1⟩
def qf (a b c d e k : Nat) : Nat := if k = 4 then a else if k = 3 then b else if k = 2 then c else if k = 1 then d else e
def pf (a b c d i : Nat) : Nat := if i = a then 4 else if i = b then 3 else if i = c then 2 else if i = d then 1 else 0
def permB (a b c d e : Nat) : Bool := !List.isPerm [a, b, c, d, e] [0, 1, 2, 3, 4] || ((List.range 5).all (fun k => decide (qf a b c d e k < 5) && pf a b c d (qf a b c d e k) == k && decide (pf a b c d k < 5) && qf a b c d e (pf a b c d k) == k) && List.isPerm [pf a b c d 0, pf a b c d 1, pf a b c d 2, pf a b c d 3, pf a b c d 4] [0, 1, 2, 3, 4])
theorem permB_all : ∀ a, a < 5 → ∀ b, b < 5 → ∀ c, c < 5 → ∀ d, d < 5 → ∀ e, e < 5 → permB a b c d e = true := by decide +kernel
def PQ (p q : Nat → Nat) : Prop := (∀ k, k < 5 → q k < 5) ∧ (∀ k, k < 5 → p k < 5) ∧ (∀ k, k < 5 → p (q k) = k) ∧ (∀ k, k < 5 → q (p k) = k) ∧ (∀ f : Nat → Nat, f (p 0) + f (p 1) + f (p 2) + f (p 3) + f (p 4) = f 0 + f 1 + f 2 + f 3 + f 4) ∧ (∀ f : Nat → Nat, f (q 0) + f (q 1) + f (q 2) + f (q 3) + f (q 4) = f 0 + f 1 + f 2 + f 3 + f 4)
theorem PQ.q5 {p q : Nat → Nat} (h : PQ p q) : ∀ k, k < 5 → q k < 5 := h.1
theorem PQ.p5 {p q : Nat → Nat} (h : PQ p q) : ∀ k, k < 5 → p k < 5 := h.2.1
theorem PQ.pq {p q : Nat → Nat} (h : PQ p q) : ∀ k, k < 5 → p (q k) = k := h.2.2.1
theorem PQ.qp {p q : Nat → Nat} (h : PQ p q) : ∀ k, k < 5 → q (p k) = k := h.2.2.2.1
theorem PQ.sm {p q : Nat → Nat} (h : PQ p q) : ∀ f : Nat → Nat, f (p 0) + f (p 1) + f (p 2) + f (p 3) + f (p 4) = f 0 + f 1 + f 2 + f 3 + f 4 := h.2.2.2.2.1
theorem PQ.sq {p q : Nat → Nat} (h : PQ p q) : ∀ f : Nat → Nat, f (q 0) + f (q 1) + f (q 2) + f (q 3) + f (q 4) = f 0 + f 1 + f 2 + f 3 + f 4 := h.2.2.2.2.2
theorem PQ_of {a b c d e : Nat} (h : List.Perm [a, b, c, d, e] [0, 1, 2, 3, 4]) : PQ (pf a b c d) (qf a b c d e) := by
  have m5 : ∀ x, x ∈ [a, b, c, d, e] → x < 5 := fun x hx => by
    have := h.mem_iff.mp hx
    simp only [List.mem_cons, List.not_mem_nil, or_false] at this
    omega
  have h2 := permB_all a (m5 a (by simp)) b (m5 b (by simp)) c (m5 c (by simp)) d (m5 d (by simp)) e (m5 e (by simp))
  have h3 : List.isPerm [a, b, c, d, e] [0, 1, 2, 3, 4] = true := List.isPerm_iff.mpr h
  unfold permB at h2
  rw [h3] at h2
  simp only [Bool.not_true, Bool.false_or, Bool.and_eq_true, List.all_eq_true, List.mem_range, decide_eq_true_eq, beq_iff_eq] at h2
  obtain ⟨h4, h5⟩ := h2
  refine ⟨fun k hk => (h4 k hk).1.1.1, fun k hk => (h4 k hk).1.2, fun k hk => (h4 k hk).1.1.2, fun k hk => (h4 k hk).2, fun f => ?_, fun f => ?_⟩
  · have h6 := ((List.isPerm_iff.mp h5).map f).sum_nat
    simp at h6
    omega
  · have h6 := (h.map f).sum_nat
    simp at h6
    simp [qf]
    omega
theorem psum5 (u : Nat → Nat) (y : Nat) : psum u y 5 = (if y.testBit 0 then u 0 else 0) + (if y.testBit 1 then u 1 else 0) + (if y.testBit 2 then u 2 else 0) + (if y.testBit 3 then u 3 else 0) + (if y.testBit 4 then u 4 else 0) := by
  simp [psum]
theorem fsm5 (u : Nat → Nat) : fb_sm u 5 = u 0 + u 1 + u 2 + u 3 + u 4 := by
  simp [fb_sm]
def sg_ (p : Nat → Nat) (y : Nat) : Nat := mkT 5 (fun i => y.testBit (p i))
theorem sg_lt (p : Nat → Nat) (y : Nat) : sg_ p y < 2 ^ 5 := mkT_lt _ _
theorem sg_bit {p : Nat → Nat} {y i : Nat} (h : i < 5) : (sg_ p y).testBit i = y.testBit (p i) := by
  unfold sg_
  rw [mkT_bit]
  simp [h]
theorem sg_flip {p q : Nat → Nat} (h : PQ p q) {y k : Nat} (hk : k < 5) : sg_ p (y ^^^ 2 ^ k) = sg_ p y ^^^ 2 ^ (q k) := by
  apply Nat.eq_of_testBit_eq
  intro i
  rw [xbit]
  by_cases hi : i < 5
  · rw [sg_bit hi, sg_bit hi, xbit]
    congr 1
    apply decide_eq_decide.mpr
    constructor
    · intro e
      rw [← e, h.qp i hi]
    · intro e
      rw [e, h.pq k hk]
  · have h1 := h.q5 k hk
    have e : ¬ i = q k := by omega
    simp only [e, decide_false, Bool.xor_false]
    unfold sg_
    rw [mkT_bit, mkT_bit]
    simp [hi]
theorem psum_pq {p q : Nat → Nat} (h : PQ p q) (u : Nat → Nat) (x : Nat) : psum u (sg_ q x) 5 = psum (fun i => u (p i)) x 5 := by
  rw [psum5, psum5, sg_bit (by omega), sg_bit (by omega), sg_bit (by omega), sg_bit (by omega), sg_bit (by omega)]
  have h1 := h.sq (fun i => if x.testBit i then u (p i) else 0)
  simp only [h.pq 0 (by omega), h.pq 1 (by omega), h.pq 2 (by omega), h.pq 3 (by omega), h.pq 4 (by omega)] at h1
  exact h1
theorem sg_sg {p q : Nat → Nat} (h : PQ p q) {x : Nat} (hx : x < 2 ^ 5) : sg_ p (sg_ q x) = x := by
  apply Nat.eq_of_testBit_eq
  intro i
  by_cases hi : i < 5
  · rw [sg_bit hi, sg_bit (h.p5 i hi), h.qp i hi]
  · rw [Nat.testBit_lt_two_pow (Nat.lt_of_lt_of_le (sg_lt _ _) (Nat.pow_le_pow_right (by omega) (by omega : 5 ≤ i)))]
    rw [Nat.testBit_lt_two_pow (Nat.lt_of_lt_of_le hx (Nat.pow_le_pow_right (by omega) (by omega : 5 ≤ i)))]
theorem rsum_psum {sg : Nat → Bool} {s : Nat → Nat} {m x : Nat} : ∀ n : Nat, (∀ i, i < n → m.testBit i = sg i) → rsum (wOf sg s) (x ^^^ m) n = (psum s x n : Int) - (psum s m n : Int)
  | 0, _ => by simp [rsum, psum]
  | n + 1, h => by
    have h1 := rsum_psum (sg := sg) (s := s) (m := m) (x := x) n (fun i hi => h i (by omega))
    have h2 := h n (by omega)
    unfold rsum psum wOf
    unfold wOf at h1
    rw [h1, Nat.testBit_xor, ← h2]
    cases x.testBit n <;> cases m.testBit n <;> simp <;> omega
theorem EX5 {t : Nat} (hg : isG 5 t = true) : EXg 5 t := by
  obtain ⟨a, b, c, d, e, hp, h1, h2, h3, h4⟩ := sort5 (Af 5 t)
  have P := PQ_of hp
  have hA : ∀ k, 1 ≤ k → k ≤ 4 → Af 5 t (qf a b c d e (k - 1)) ≤ Af 5 t (qf a b c d e k) := by
    intro k k1 k2
    have : k = 1 ∨ k = 2 ∨ k = 3 ∨ k = 4 := by omega
    rcases this with z | z | z | z <;> subst z
    · exact h4
    · exact h3
    · exact h2
    · exact h1
  generalize qf a b c d e = q at P hA
  generalize pf a b c d = p at P
  have hreg : Reg (fun y => nf 5 t (sg_ p y)) := by
    refine ⟨fun y hy y0 hh => ?_, fun y hy k k1 k2 y1 y2 hh => ?_⟩
    · simp only [sg_flip P (show 0 < 5 by omega)] at hh
      have hq := P.q5 0 (by omega)
      have := nf_pos (by omega) hq hg (xlt (sg_lt p y) (p2lt hq)) (by rw [xbit, sg_bit hq, P.pq 0 (by omega), y0]; simp) hh
      rw [xor_twice] at this
      exact this
    · simp only [sg_flip P (show k < 5 by omega), sg_flip P (show k - 1 < 5 by omega)] at hh
      have hq := P.q5 k (by omega)
      have hq2 := P.q5 (k - 1) (by omega)
      have hne : q k ≠ q (k - 1) := by
        intro z
        have z1 := P.pq k (by omega)
        have z2 := P.pq (k - 1) (by omega)
        rw [z] at z1
        omega
      have := nf_dom (by omega) hq hq2 hne hg (hA k k1 k2) (xlt (xlt (sg_lt p y) (p2lt hq)) (p2lt hq2)) (by rw [x2bit, sg_bit hq, P.pq k (by omega), y1]; simp [hne]) (by rw [x2bit, sg_bit hq2, P.pq (k - 1) (by omega), y2]; simp [Ne.symm hne]) hh
      rw [show sg_ p y ^^^ 2 ^ q k ^^^ 2 ^ q (k - 1) ^^^ 2 ^ q k ^^^ 2 ^ q (k - 1) = sg_ p y by rw [Nat.xor_assoc (sg_ p y ^^^ 2 ^ q k), Nat.xor_comm (2 ^ q (k - 1)) (2 ^ q k), ← Nat.xor_assoc, xor_twice, xor_twice]] at this
      exact this
  obtain ⟨u, th, hu, hy⟩ := Reg_ex hreg
  have hs : fb_sm (fun i => u (p i)) 5 ≤ 16 := by
    have := P.sm u
    rw [fsm5] at hu ⊢
    omega
  refine ⟨fun i => u (p i), hs, ?_⟩
  have hx : ∀ x, x < 2 ^ 5 → nf 5 t x = decide (th ≤ psum (fun i => u (p i)) x 5) := by
    intro x hx
    have := hy (sg_ q x) (sg_lt q x)
    simp only [sg_sg P hx, psum_pq P] at this
    exact this
  have hb : ∀ r, -900 ≤ rsum (wOf (fl 5 t) (fun i => u (p i))) r 5 ∧ rsum (wOf (fl 5 t) (fun i => u (p i))) r 5 ≤ 900 := by
    intro r
    have := rsum_bd (w := wOf (fl 5 t) (fun i => u (p i))) (r := r) (m := 16) (by omega) 5 (fun k hk => wOf_bd (Nat.le_trans (sm_at (f := fun i => u (p i)) hk) hs))
    omega
  refine pair_sep hb (fun r z hr hz e1 e2 => ?_)
  have r0 : ∀ r, rsum (wOf (fl 5 t) (fun i => u (p i))) r 5 = (psum (fun i => u (p i)) (r ^^^ mk_ 5 t) 5 : Int) - (psum (fun i => u (p i)) (mk_ 5 t) 5 : Int) := by
    intro r
    have := rsum_psum (sg := fl 5 t) (s := fun i => u (p i)) (x := r ^^^ mk_ 5 t) 5 (fun i hi => mk_bit hi)
    rw [xor_twice] at this
    exact this
  have g1 := hx (r ^^^ mk_ 5 t) (xlt hr (mk_lt 5 t))
  have g2 := hx (z ^^^ mk_ 5 t) (xlt hz (mk_lt 5 t))
  unfold nf at g1 g2
  rw [xor_twice, e1] at g1
  rw [xor_twice, e2] at g2
  have g3 := of_decide_eq_true g1.symm
  have g4 := of_decide_eq_false g2.symm
  rw [r0 r, r0 z]
  omega
def ex5 (n t : Nat) : Nat := mkT 32 (fun r => t.testBit (r % 2 ^ n))
theorem ex5_bit {n t r : Nat} (h : r < 2 ^ 5) : (ex5 n t).testBit r = t.testBit (r % 2 ^ n) := by
  unfold ex5
  rw [mkT_bit]
  simp [show r < 32 from h]
theorem ex5_G {n t : Nat} (hn : n ≤ 5) (hg : isG n t = true) : isG 5 (ex5 n t) = true := by
  apply isG_of (by omega)
  intro a b c d ha hb hc hd e1 e2 e3 e4 e5 e6
  rw [ex5_bit ha] at e1
  rw [ex5_bit hb] at e2
  rw [ex5_bit hc] at e3
  rw [ex5_bit hd] at e4
  have hp : 0 < 2 ^ n := Nat.two_pow_pos n
  refine isG_no hn hg (Nat.mod_lt _ hp) (Nat.mod_lt _ hp) (Nat.mod_lt _ hp) (Nat.mod_lt _ hp) e1 e2 e3 e4 ?_ ?_
  · rw [← Nat.and_mod_two_pow, ← Nat.and_mod_two_pow, e5]
  · rw [← Nat.or_mod_two_pow, ← Nat.or_mod_two_pow, e6]
theorem ex5_fl {n t i : Nat} (hn : n ≤ 5) (hi : i < n) : fl 5 (ex5 n t) i = fl n t i := by
  have hp : 0 < 2 ^ n := Nat.two_pow_pos n
  have hm : ∀ r, (r ^^^ 2 ^ i) % 2 ^ n = (r % 2 ^ n) ^^^ 2 ^ i := fun r => by rw [Nat.xor_mod_two_pow, Nat.mod_eq_of_lt (p2lt hi)]
  cases h1 : fl 5 (ex5 n t) i with
  | true =>
    obtain ⟨r, hr, r1, r2, r3⟩ := fl_t h1
    rw [ex5_bit hr] at r2
    rw [ex5_bit (xlt hr (p2lt (by omega))), hm] at r3
    cases h2 : fl n t i with
    | true => rfl
    | false =>
      have := fl_f h2 (Nat.mod_lt r hp) (by rw [Nat.testBit_mod_two_pow, r1]; simp) r2
      rw [this] at r3
      cases r3
  | false =>
    cases h2 : fl n t i with
    | false => rfl
    | true =>
      obtain ⟨r, hr, r1, r2, r3⟩ := fl_t h2
      have hr5 : r < 2 ^ 5 := Nat.lt_of_lt_of_le hr (Nat.pow_le_pow_right (by omega) hn)
      have := fl_f h1 hr5 r1 (by rw [ex5_bit hr5, Nat.mod_eq_of_lt hr]; exact r2)
      rw [ex5_bit (xlt hr5 (p2lt (by omega))), hm, Nat.mod_eq_of_lt hr, r3] at this
      cases this
theorem rsum_hi {w : Nat → Int} {r n : Nat} (hr : r < 2 ^ n) : ∀ k, rsum w r (n + k) = rsum w r n
  | 0 => rfl
  | k + 1 => by
    show rsum w r (n + k) + (if r.testBit (n + k) then w (n + k) else 0) = _
    rw [Nat.testBit_lt_two_pow (Nat.lt_of_lt_of_le hr (Nat.pow_le_pow_right (by omega) (by omega : n ≤ n + k))), rsum_hi hr k]
    simp
theorem EX_all : EXall := by
  intro n t h1 hn ht hg
  obtain ⟨s, s1, s2⟩ := EX5 (ex5_G hn hg)
  have s3 : fb_sm s n ≤ 16 := Nat.le_trans (sm_up hn) s1
  refine ⟨s, s3, ?_⟩
  have hb : ∀ r, -900 ≤ rsum (wOf (fl n t) s) r n ∧ rsum (wOf (fl n t) s) r n ≤ 900 := by
    intro r
    have := rsum_bd (w := wOf (fl n t) s) (r := r) (m := 16) (by omega) n (fun k hk => wOf_bd (Nat.le_trans (sm_at hk) s3))
    omega
  have h5 : ∀ r, r < 2 ^ n → r < 2 ^ 5 := fun r hr => Nat.lt_of_lt_of_le hr (Nat.pow_le_pow_right (by omega) hn)
  have hc : ∀ r, r < 2 ^ n → rsum (wOf (fl n t) s) r n = rsum (wOf (fl 5 (ex5 n t)) s) r 5 := by
    intro r hr
    rw [show (5 : Nat) = n + (5 - n) by omega, rsum_hi hr]
    apply rsum_cong
    intro j hj
    rw [show n + (5 - n) = 5 by omega]
    exact wOf_cong (ex5_fl hn hj).symm rfl
  refine pair_sep hb (fun r q hr hq e1 e2 => ?_)
  rw [hc r hr, hc q hq]
  exact sep_pair s2 (h5 r hr) (h5 q hq) (by rw [ex5_bit (h5 r hr), Nat.mod_eq_of_lt hr]; exact e1) (by rw [ex5_bit (h5 q hq), Nat.mod_eq_of_lt hq]; exact e2)
