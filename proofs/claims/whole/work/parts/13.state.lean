abbrev iA (g : jG) (N : Nat) (f : Nat → Int32) : va_E := .inl (jc g 0, N, .inl f)
abbrev lA (g : jG) (N : Nat) (f : Nat → Int64) : va_E := .inl (jc g 1, N, .inr (.inl f))
abbrev zA (g : jG) (N : Nat) (f : Nat → Int32) : va_E := .inl (jc g 2, N, .inl f)
/-- the reference's own fields: solved, solvedInputs, solvedGate, bound, marks, chief, kin, netInputs, gates -/
abbrev jMq : Type := Int64 × Int32 × Int32 × Int32 × Int32 × Int64 × Int32 × Int32 × Int32
def oMod (g : jG) (q : jMq) : List Value := [.ref (jA g 35), .ref (jA g 36), .ref (jA g 37), .ref (jA g 38), .ref (jA g 39), .long q.1, .int q.2.1, .int q.2.2.1, .ref (jA g 40), .ref (jA g 41), .int q.2.2.2.1, .ref (jA g 42), .ref (jA g 43), .int q.2.2.2.2.1, .long q.2.2.2.2.2.1, .int q.2.2.2.2.2.2.1, .ref (jA g 44), .ref (jA g 45), .ref (jA g 46), .int q.2.2.2.2.2.2.2.1, .int q.2.2.2.2.2.2.2.2, .ref (jA g 47), .ref (jA g 48), .ref (jA g 49), .ref (jA g 50), .ref (jA g 51)]
def oX (g : jG) : List Value := [.ref (jA g 1), .ref (jA g 2), .ref (jA g 3), .ref (jA g 5), .ref (jA g 11), .ref (jA g 12), .ref (jA g 19)]
def oLeast (g : jG) (bound size n : Int32) (bits : Int64) : List Value := [.ref (jA g 6), .int bound, .int size, .int n, .long bits, .ref (jA g 7), .ref (jA g 8), .ref (jA g 9)]
def oSums (g : jG) (k : Nat) (lo gz : Int32) : List Value := [.ref (jA g k), .int lo, .int gz]
def oKind (least : Int64) (n ways wtl : Int32) : List Value := [.long least, .int n, .int ways, .int wtl]
def oPair (g : jG) : List Value := [.ref (jA g 13), .ref (jA g 15), .ref (jA g 17), .ref (jA g 18)]
def oWit (g : jG) (k : Nat) : List Value := [.ref (jA g k)]
def oNet (g : jG) (ni ng : Int32) : List Value := [.int ni, .int ng, .ref (jA g 20), .ref (jA g 21), .ref (jA g 22), .ref (jA g 32), .ref (jA g 33)]
/-- the slots: inputs and bits, in the cells ka and ka + 1 -/
def setM (g : jG) (ka : Nat) (M : jMem) (sn sT : Nat → Nat) : jMem := va_up (va_up M ka (iA g 8 fun j => nI (sn j))) (ka + 1) (lA g 8 fun j => lN (sT j))
theorem setM_id {g : jG} {ka : Nat} {M : jMem} {sn sT : Nat → Nat} (h1 : M ka = iA g 8 fun j => nI (sn j)) (h2 : M (ka + 1) = lA g 8 fun j => lN (sT j)) : setM g ka M sn sT = M := by
  funext k
  unfold setM va_up
  by_cases e : k = ka + 1
  · rw [if_pos e, e, h2]
  · rw [if_neg e]
    by_cases e2 : k = ka
    · rw [if_pos e2, e2, h1]
    · rw [if_neg e2]
theorem updI (f : Nat → Nat) (k n : Nat) : upd (fun j => nI (f j)) k (nI n) = fun j => nI (va_up f k n j) := by
  funext j
  unfold upd va_up
  by_cases e : j = k
  · simp [e]
  · simp [e]
theorem updL (f : Nat → Nat) (k n : Nat) : vp_updL (fun j => lN (f j)) k (lN n) = fun j => lN (va_up f k n j) := by
  funext j
  unfold vp_updL va_up
  by_cases e : j = k
  · simp [e]
  · simp [e]
/-- all slots are tables of 1 to 5 inputs -/
def slOK (sn sT : Nat → Nat) : Prop := ∀ j, j < 8 → 1 ≤ sn j ∧ sn j ≤ 5 ∧ sT j < 2 ^ 2 ^ sn j
theorem pw5 {n : Nat} (h : n ≤ 5) : 2 ^ n ≤ 32 := Nat.le_trans (Nat.pow_le_pow_right (by omega) h) (by decide)
theorem pw32 {n : Nat} (h : n ≤ 5) : 2 ^ 2 ^ n ≤ 2 ^ 32 := Nat.pow_le_pow_right (by omega) (pw5 h)
theorem slOK.b {sn sT : Nat → Nat} (h : slOK sn sT) {j : Nat} (hj : j < 8) : sT j < 2 ^ 32 := Nat.lt_of_lt_of_le (h j hj).2.2 (pw32 (h j hj).2.1)
theorem slOK.up {sn sT : Nat → Nat} (h : slOK sn sT) {k n t : Nat} (h1 : 1 ≤ n) (h2 : n ≤ 5) (h3 : t < 2 ^ 2 ^ n) : slOK (va_up sn k n) (va_up sT k t) := by
  intro j hj
  unfold va_up
  by_cases e : j = k
  · rw [if_pos e, if_pos e]
    exact ⟨h1, h2, h3⟩
  · rw [if_neg e, if_neg e]
    exact h j hj
/-- what the calls answer, and the slots behind them -/
abbrev sR : Type := (Nat → Nat) × (Nat → Nat)
def sp_table (sn sT : Nat → Nat) (s n : Int32) (b : Int64) : Int32 × sR :=
  if isSl s = false then (-1, sn, sT)
  else if isTo 5 n = false then (-2, sn, sT)
  else if decide (0 ≤ b ∧ b ≤ lN (2 ^ 2 ^ n.toNatClampNeg - 1)) = false then (-2, sn, sT)
  else (nI (cnt 32 b.toInt.toNat.testBit), va_up sn s.toNatClampNeg n.toNatClampNeg, va_up sT s.toNatClampNeg b.toInt.toNat)
def sp_bits (sT : Nat → Nat) (s : Int32) : Int64 := if isSl s = false then -1 else lN (sT s.toNatClampNeg)
def sp_inputs (sn : Nat → Nat) (s : Int32) : Int32 := if isSl s = false then -1 else nI (sn s.toNatClampNeg)
/-- two of three at least -/
def maj (a b c : Bool) : Bool := (a && b) || (b && c) || (a && c)
def majT (a b c : Nat) : Nat := (a &&& b) ||| (b &&& c) ||| (a &&& c)
def sp_most (sn sT : Nat → Nat) (to a b c : Int32) : Int32 × sR :=
  if isSl to = false then (-1, sn, sT) else if isSl a = false then (-1, sn, sT) else if isSl b = false then (-1, sn, sT) else if isSl c = false then (-1, sn, sT)
  else if ¬ sn a.toNatClampNeg = sn b.toNatClampNeg then (-3, sn, sT) else if ¬ sn a.toNatClampNeg = sn c.toNatClampNeg then (-3, sn, sT)
  else (nI (cnt 32 (majT (sT a.toNatClampNeg) (sT b.toNatClampNeg) (sT c.toNatClampNeg)).testBit), va_up sn to.toNatClampNeg (sn a.toNatClampNeg), va_up sT to.toNatClampNeg (majT (sT a.toNatClampNeg) (sT b.toNatClampNeg) (sT c.toNatClampNeg)))
/-- an input's number of a table of n inputs -/
def isIn (n : Nat) (i : Int32) : Bool := decide (0 ≤ i ∧ i ≤ nI n - 1)
theorem isIn_of {n : Nat} (hn : 1 ≤ n) (h5 : n ≤ 5) {i : Int32} (h : isIn n i = true) : ∃ j : Nat, j < n ∧ i = nI j := by
  have h1 : 0 ≤ i ∧ i ≤ nI n - 1 := of_decide_eq_true h
  have e : nI n - 1 = nI (n - 1) := by
    have : nI n - nI 1 = nI (n - 1) := pk_sub hn
    exact this
  rw [e] at h1
  obtain ⟨j, hj, e2⟩ := nI_of2 (M := nI (n - 1)) (n := n - 1) (nI_toInt (by omega)) (fun q => by have := h1.1; rw [fa_le] at this; rw [fa_lt] at q; omega) h1.2
  exact ⟨j, by omega, e2⟩
/-- the table with the inputs of a mask turned -/
def turnT (n t m : Nat) : Nat := mkT (2 ^ n) (fun r => t.testBit (r ^^^ m))
def sp_turnT (n t : Nat) (i : Int32) : Nat := if i = -1000000 then (2 ^ 2 ^ n - 1) ^^^ t else turnT n t (2 ^ i.toNatClampNeg)
def sp_turn (sn sT : Nat → Nat) (to a i : Int32) : Int32 × sR :=
  if isSl to = false then (-1, sn, sT) else if isSl a = false then (-1, sn, sT) else if ¬ i = -1000000 ∧ isIn (sn a.toNatClampNeg) i = false then (-1, sn, sT)
  else (nI (cnt 32 (sp_turnT (sn a.toNatClampNeg) (sT a.toNatClampNeg) i).testBit), va_up sn to.toNatClampNeg (sn a.toNatClampNeg), va_up sT to.toNatClampNeg (sp_turnT (sn a.toNatClampNeg) (sT a.toNatClampNeg) i))
/-- row r of the table with input i held -/
def heldR (i : Nat) (is : Bool) (r : Nat) : Nat := (r % 2 ^ i ||| r / 2 ^ i * 2 ^ (i + 1)) ||| (if is then 2 ^ i else 0)
def holdT (n t i : Nat) (is : Bool) : Nat := mkT (2 ^ (n - 1)) (fun r => t.testBit (heldR i is r))
def sp_hold (sn sT : Nat → Nat) (to a i : Int32) (is : Bool) : Int32 × sR :=
  if isSl to = false then (-1, sn, sT) else if isSl a = false then (-1, sn, sT) else if isIn (sn a.toNatClampNeg) i = false then (-1, sn, sT)
  else if sn a.toNatClampNeg = 1 then (-3, sn, sT)
  else (nI (sn a.toNatClampNeg - 1), va_up sn to.toNatClampNeg (sn a.toNatClampNeg - 1), va_up sT to.toNatClampNeg (holdT (sn a.toNatClampNeg) (sT a.toNatClampNeg) i.toNatClampNeg is))
def sp_matters (sn sT : Nat → Nat) (s i : Int32) : Int32 :=
  if isSl s = false then -1 else if isIn (sn s.toNatClampNeg) i = false then -1
  else if turnT (sn s.toNatClampNeg) (sT s.toNatClampNeg) (2 ^ i.toNatClampNeg) = sT s.toNatClampNeg then nI 0 else nI 1
def sp_ones (sn sT : Nat → Nat) (s i : Int32) : Int32 :=
  if isSl s = false then -1 else if ¬ i = -1000000 ∧ isIn (sn s.toNatClampNeg) i = false then -1
  else nI (cnt (2 ^ sn s.toNatClampNeg) (fun r => (sT s.toNatClampNeg).testBit r && (decide (i = -1000000) || r.testBit i.toNatClampNeg)))
/-- a row's sum under the weights of a call of weigh -/
def wSum (w : Nat) (r : Nat) : Nat → Int
  | 0 => 0
  | i + 1 => wSum w r i + (if r.testBit i then ((w / 100 ^ i % 100 : Nat) : Int) - 50 else 0)
def wT (n w : Nat) (b : Int) : Nat := mkT (2 ^ n) (fun r => decide (b ≤ wSum w r n))
def sp_weigh (sn sT : Nat → Nat) (s n : Int32) (w : Int64) (b : Int32) : Int64 × sR :=
  if isSl s = false then (-1, sn, sT) else if isTo 5 n = false then (-2, sn, sT) else if decide (0 ≤ w ∧ w ≤ 9999999999) = false then (-2, sn, sT) else if decide (-999 ≤ b ∧ b ≤ 999) = false then (-2, sn, sT)
  else (lN (wT n.toNatClampNeg w.toInt.toNat b.toInt), va_up sn s.toNatClampNeg n.toNatClampNeg, va_up sT s.toNatClampNeg (wT n.toNatClampNeg w.toInt.toNat b.toInt))
