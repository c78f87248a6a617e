/-- the inputs that fall, as a mask -/
def mk_ (n t : Nat) : Nat := mkT n (fl n t)
theorem mk_lt (n t : Nat) : mk_ n t < 2 ^ n := mkT_lt _ _
theorem mk_bit {n t i : Nat} (hi : i < n) : (mk_ n t).testBit i = fl n t i := fl_bit hi
/-- the table with the falling inputs turned -/
def nf (n t x : Nat) : Bool := t.testBit (x ^^^ mk_ n t)
/-- in how many of its rows that are 1 input i is 1 -/
def Af (n t i : Nat) : Nat := cnt (2 ^ n) (fun x => nf n t x && x.testBit i)
theorem Af_cnt {n t i : Nat} (hn : n ≤ 5) (hi : i < n) : Af n t i = cnt (2 ^ n) (fun r => t.testBit r && (r.testBit i ^^ fl n t i)) := by
  unfold Af
  rw [← cnt_xor hn (mk_lt n t) (fun r => t.testBit r && (r.testBit i ^^ fl n t i))]
  apply cnt_ext
  intro x hx
  unfold nf
  rw [Nat.testBit_xor, mk_bit hi]
  cases t.testBit (x ^^^ mk_ n t) <;> cases x.testBit i <;> cases fl n t i <;> rfl
theorem tot_cnt {n t i : Nat} : cnt (2 ^ n) t.testBit = cnt (2 ^ n) (fun r => t.testBit r && r.testBit i) + cnt (2 ^ n) (fun r => t.testBit r && !r.testBit i) := cnt_or _
/-- the pull's size, out of the turned table -/
theorem pu_abs {n t i : Nat} (hn : n ≤ 5) (hi : i < n) (hg : isG n t = true) : ((pu n t i).natAbs : Int) = 2 * (Af n t i : Int) - (cnt (2 ^ n) t.testBit : Int) := by
  have h1 := fl_pu hn hi hg
  have h2 := tot_cnt (n := n) (t := t) (i := i)
  rw [Af_cnt hn hi]
  cases h : fl n t i with
  | false =>
    rw [h] at h1
    have h3 : ¬ pu n t i < 0 := of_decide_eq_false h1.symm
    have e : cnt (2 ^ n) (fun r => t.testBit r && (r.testBit i ^^ false)) = cnt (2 ^ n) (fun r => t.testBit r && r.testBit i) := cnt_ext (fun r _ => by simp)
    rw [e]
    unfold pu at h3 ⊢
    omega
  | true =>
    rw [h] at h1
    have h3 : pu n t i < 0 := of_decide_eq_true h1.symm
    have e : cnt (2 ^ n) (fun r => t.testBit r && (r.testBit i ^^ true)) = cnt (2 ^ n) (fun r => t.testBit r && !r.testBit i) := cnt_ext (fun r _ => by simp)
    rw [e]
    unfold pu at h3 ⊢
    omega
theorem x2bit (x i j k : Nat) : (x ^^^ 2 ^ i ^^^ 2 ^ j).testBit k = ((x.testBit k ^^ decide (k = i)) ^^ decide (k = j)) := by
  rw [xbit, xbit]
/-- where i pulls harder than j there is a row with i and without j that is 1, while that with j and without i is 0 -/
theorem pull_row {n t i j : Nat} (hn : n ≤ 5) (hi : i < n) (hj : j < n) (hij : i ≠ j) (h : Af n t j < Af n t i) : ∃ x, x < 2 ^ n ∧ x.testBit i = true ∧ x.testBit j = false ∧ nf n t x = true ∧ nf n t (x ^^^ 2 ^ i ^^^ 2 ^ j) = false := by
  have hm : 2 ^ i ^^^ 2 ^ j < 2 ^ n := xlt (p2lt hi) (p2lt hj)
  have a1 : Af n t i = cnt (2 ^ n) (fun x => (nf n t x && x.testBit i) && x.testBit j) + cnt (2 ^ n) (fun x => (nf n t x && x.testBit i) && !x.testBit j) := cnt_or (p := fun x => nf n t x && x.testBit i) (q := fun x => x.testBit j) _
  have a2 : Af n t j = cnt (2 ^ n) (fun x => (nf n t x && x.testBit j) && x.testBit i) + cnt (2 ^ n) (fun x => (nf n t x && x.testBit j) && !x.testBit i) := cnt_or (p := fun x => nf n t x && x.testBit j) (q := fun x => x.testBit i) _
  have a3 : cnt (2 ^ n) (fun x => (nf n t x && x.testBit i) && x.testBit j) = cnt (2 ^ n) (fun x => (nf n t x && x.testBit j) && x.testBit i) := cnt_ext (fun x _ => by cases nf n t x <;> cases x.testBit i <;> cases x.testBit j <;> rfl)
  have a4 : cnt (2 ^ n) (fun x => (nf n t x && x.testBit j) && !x.testBit i) = cnt (2 ^ n) (fun x => (nf n t (x ^^^ 2 ^ i ^^^ 2 ^ j) && x.testBit i) && !x.testBit j) := by
    rw [← cnt_xor hn hm (fun x => (nf n t x && x.testBit j) && !x.testBit i)]
    apply cnt_ext
    intro x hx
    rw [← Nat.xor_assoc, x2bit, x2bit]
    simp [hij, Ne.symm hij]
    cases nf n t (x ^^^ 2 ^ i ^^^ 2 ^ j) <;> cases x.testBit i <;> cases x.testBit j <;> rfl
  -- if there were none, the one count would not be the greater
  rcases Classical.em (∃ x, x < 2 ^ n ∧ x.testBit i = true ∧ x.testBit j = false ∧ nf n t x = true ∧ nf n t (x ^^^ 2 ^ i ^^^ 2 ^ j) = false) with q | q
  · exact q
  · exfalso
    have : cnt (2 ^ n) (fun x => (nf n t x && x.testBit i) && !x.testBit j) ≤ cnt (2 ^ n) (fun x => (nf n t (x ^^^ 2 ^ i ^^^ 2 ^ j) && x.testBit i) && !x.testBit j) := by
      apply cnt_mono
      intro x hx hp
      simp only [Bool.and_eq_true, Bool.not_eq_true'] at hp ⊢
      refine ⟨⟨?_, hp.1.2⟩, hp.2⟩
      cases hz : nf n t (x ^^^ 2 ^ i ^^^ 2 ^ j) with
      | true => rfl
      | false => exact absurd ⟨x, hx, hp.1.2, hp.2, hp.1.1, hz⟩ q
    omega
/-- sums over the turned rows -/
theorem gsum_flip {n t x i : Nat} {s : Nat → Nat} (hi : i < n) : rsum (wOf (fl n t) s) ((x ^^^ 2 ^ i) ^^^ mk_ n t) n = rsum (wOf (fl n t) s) (x ^^^ mk_ n t) n + (if x.testBit i then -(s i : Int) else (s i : Int)) := by
  have e : (x ^^^ 2 ^ i) ^^^ mk_ n t = (x ^^^ mk_ n t) ^^^ 2 ^ i := by
    rw [Nat.xor_assoc, Nat.xor_comm (2 ^ i), ← Nat.xor_assoc]
  rw [e, rsum_flip, if_pos hi, Nat.testBit_xor, mk_bit hi]
  unfold wOf
  cases x.testBit i <;> cases fl n t i <;> simp
/-- the harder pull has the greater size -/
theorem sep_order {n t i j : Nat} {s : Nat → Nat} (hn : n ≤ 5) (hi : i < n) (hj : j < n) (hg : isG n t = true) (hs : sepS n t s) (h : (pu n t j).natAbs < (pu n t i).natAbs) : s j < s i := by
  have hij : i ≠ j := fun z => by rw [z] at h; omega
  have h1 := pu_abs hn hi hg
  have h2 := pu_abs hn hj hg
  obtain ⟨x, hx, x1, x2, x3, x4⟩ := pull_row (t := t) hn hi hj hij (by omega)
  have hlt := sep_pair hs (r := x ^^^ mk_ n t) (q := (x ^^^ 2 ^ i ^^^ 2 ^ j) ^^^ mk_ n t) (xlt hx (mk_lt n t)) (xlt (xlt (xlt hx (p2lt hi)) (p2lt hj)) (mk_lt n t)) x3 x4
  rw [gsum_flip hj, gsum_flip hi, xbit, x1, x2] at hlt
  simp [Ne.symm hij] at hlt
  omega
/-- the least sizes have no size where there is no pull -/
theorem LW_zero {n t i : Nat} {s : Nat → Nat} (hn : n ≤ 5) (hi : i < n) (hg : isG n t = true) (hL : LW n t s) (h16 : fb_sm s n ≤ 100) (h0 : pu n t i = 0) : s i = 0 := by
  rcases Nat.eq_zero_or_pos (s i) with e | e
  · exact e
  exfalso
  have hsum := fb_sm_upd s 0 hi
  have hlt : fb_sm (fun k => if k = i then 0 else s k) n < fb_sm s n := by omega
  refine hL.2.1 (fun k => if k = i then 0 else s k) hlt ?_
  have hcl : ∀ r, rsum (wOf (fl n t) (fun k => if k = i then 0 else s k)) r n = if r.testBit i then rsum (wOf (fl n t) s) (r ^^^ 2 ^ i) n else rsum (wOf (fl n t) s) r n := by
    intro r
    have step : ∀ m, m ≤ n → rsum (wOf (fl n t) (fun k => if k = i then 0 else s k)) r m = rsum (wOf (fl n t) s) r m - (if i < m ∧ r.testBit i = true then wOf (fl n t) s i else 0) := by
      intro m
      induction m with
      | zero => intro _; simp [rsum]
      | succ m ih =>
        intro hm
        unfold rsum
        rw [ih (by omega)]
        rcases Nat.lt_trichotomy i m with z | z | z
        · have e1 : wOf (fl n t) (fun k => if k = i then 0 else s k) m = wOf (fl n t) s m := wOf_cong rfl (if_neg (by omega))
          rw [e1]
          simp [z, show i < m + 1 by omega]
          omega
        · subst z
          have e1 : wOf (fl n t) (fun k => if k = i then 0 else s k) i = 0 := by unfold wOf; simp
          rw [e1]
          cases r.testBit i <;> simp
        · have e1 : wOf (fl n t) (fun k => if k = i then 0 else s k) m = wOf (fl n t) s m := wOf_cong rfl (if_neg (by omega))
          rw [e1]
          simp [show ¬ i < m by omega, show ¬ i < m + 1 by omega]
    rw [step n (Nat.le_refl _), rsum_flip]
    cases r.testBit i <;> simp [hi]
    omega
  have hb : ∀ r, -900 ≤ rsum (wOf (fl n t) (fun k => if k = i then 0 else s k)) r n ∧ rsum (wOf (fl n t) (fun k => if k = i then 0 else s k)) r n ≤ 900 := by
    intro r
    have := rsum_bd (w := wOf (fl n t) (fun k => if k = i then 0 else s k)) (r := r) (m := 100) (by omega) n (fun k hk => wOf_bd (by
      by_cases z : k = i
      · simp [z]
      · simp [z]
        exact Nat.le_trans (sm_at hk) h16))
    omega
  refine pair_sep hb (fun r q hr hq h1 h2 => ?_)
  rw [hcl r, hcl q]
  have c1 : ∀ r, r < 2 ^ n → t.testBit (r ^^^ 2 ^ i) = t.testBit r := fun r hr => pu_zero hn hi hg h0 hr
  have hr2 := xlt hr (p2lt hi)
  have hq2 := xlt hq (p2lt hi)
  split <;> split
  · exact sep_pair hL.1 hr2 hq2 ((c1 r hr).trans h1) ((c1 q hq).trans h2)
  · exact sep_pair hL.1 hr hq2 h1 ((c1 q hq).trans h2)
  · exact sep_pair hL.1 hr2 hq ((c1 r hr).trans h1) h2
  · exact sep_pair hL.1 hr hq h1 h2
