theorem va_uu {M : jMem} {k : Nat} {a b : va_E} : va_up (va_up M k a) k b = va_up M k b := bx_uu M k a b
theorem va_self {M : jMem} {k : Nat} {e : va_E} (h : M k = e) : va_up M k e = M := by
  funext j
  unfold va_up
  by_cases q : j = k
  · rw [if_pos q, q, h]
  · rw [if_neg q]
theorem va_at_ne {M : jMem} {k j : Nat} {e : va_E} (h : j ≠ k) : va_up M k e j = M j := if_neg h
theorem va_at_eq {M : jMem} {k : Nat} {e : va_E} : va_up M k e k = e := if_pos rfl
theorem va_comm {M : jMem} {k j : Nat} {a b : va_E} (h : j ≠ k) : va_up (va_up M k a) j b = va_up (va_up M j b) k a := by
  funext i
  unfold va_up
  by_cases q : i = j
  · rw [if_pos q, if_neg (by rw [q]; exact h), if_pos q]
  · rw [if_neg q]
    by_cases q2 : i = k
    · rw [if_pos q2, if_pos q2]
    · rw [if_neg q2, if_neg q2, if_neg q]
section JB2
variable {g : jG} {y : jY} {d : Nat} {K : Option Value → jMem → Prop} {pc n : Nat} {ls : List (Option Value)} {st : List Value} {M : jMem}
theorem j_b1_ne {b : Bool} {off : Int} (t : Nat) (hd : decode y.2.1 pc = .ok (.if_icmp .ne off, 3)) (hn : pc + 3 = n) (ht : (pc : Int) + off = (t : Int)) (kt : b = false → J g y d K t ls st M) (kf : b = true → J g y d K n ls st M) : J g y d K pc ls (.int (nI 1) :: .int (jB b) :: st) M :=
  j_icmp_ne t hd hn ht (fun h => kt (by cases b; rfl; exact absurd rfl h)) (fun h => kf (by cases b; exact absurd h (by decide); rfl))
theorem j_bb_eq {a b : Bool} {off : Int} (t : Nat) (hd : decode y.2.1 pc = .ok (.if_icmp .eq off, 3)) (hn : pc + 3 = n) (ht : (pc : Int) + off = (t : Int)) (kt : a = b → J g y d K t ls st M) (kf : ¬ a = b → J g y d K n ls st M) : J g y d K pc ls (.int (jB b) :: .int (jB a) :: st) M :=
  j_icmp_eq t hd hn ht (fun h => kt (jB_inj.mp h)) (fun h => kf (fun q => h (by rw [q])))
theorem j_alen {kc N : Nat} {f : Nat → Int32} (hd : decode y.2.1 pc = .ok (.arraylength, 1)) (hn : pc + 1 = n) (hkc : kc < 52) (hM : M kc = .inl (jc g 0, N, .inl f)) (kk : J g y d K n ls (.int (nI N) :: st) M) : J g y d K pc ls (.ref (jA g kc) :: st) M := by
  intro p e s m args below meth c A H locs lr C hP hD hS hL
  subst hn
  have hq : va_at g.2.1 vwCl (jA g kc, .inl (jc g 0, N, .inl f)) H := hP kc _ (by rw [jW_get hkc, hM])
  exact W.alen C.1 C.2.1 hq ((C.2.2.2.2.2.2.2.1.2 0 _ rfl).1 N (fun j => .int (f j))) (n := nI N) (by show (arrV _ _ _).slots.size.toInt32 = _; rw [arrV_size]; rfl) rfl rfl hd (kk p e s m args below meth c A H locs lr C hP hD hS hL)
theorem j_lookup {dflt : Int} {ps : Array (Int × Int)} {len : Nat} {x : Int32} {off : Int} (t : Nat) (hd : decode y.2.1 pc = .ok (.lookupswitch dflt ps, len)) (hp : (ps.toList.zip (ps.toList.drop 1)).all (fun (a, next) => a.1 < next.1) = true) (ho : Op.lookupswitch.offset ps.toList dflt x.toInt = off) (ht : (pc : Int) + off = (t : Int)) (kk : J g y d K t ls st M) : J g y d K pc ls (.int x :: st) M := by
  intro p e s m args below meth c A H locs lr C hP hD hS hL
  exact lv_lookup C.1 C.2.1 hd hp ho ht (kk p e s m args below meth c A H locs lr C hP hD hS hL)
end JB2
/-- the nets: a row's sum at a gate, over what is ahead of place k -/
def nSum (ni : Nat) (w : Nat → Int) (T : Nat → Nat) (r : Nat) : Nat → Int
  | 0 => 0
  | k + 1 => nSum ni w T r k + (if (if k < ni then r.testBit k else (T (k - ni)).testBit r) then w k else 0)
def nRow (ni : Nat) (W : Nat → Nat → Int) (B : Nat → Int) (hg : Nat) (b : Bool) (T : Nat → Nat) (o r : Nat) : Bool := if o = hg then b else decide (B o ≤ nSum ni (W o) T r (ni + o))
/-- the tables of the gates; gate hg held at b (none: hg is 99) -/
def nTab (ni : Nat) (W : Nat → Nat → Int) (B : Nat → Int) (hg : Nat) (b : Bool) : Nat → (Nat → Nat)
  | 0 => fun _ => 0
  | o + 1 => va_up (nTab ni W B hg b o) o (mkT (2 ^ ni) (nRow ni W B hg b (nTab ni W B hg b o) o))
theorem nTab_lt {ni : Nat} {W : Nat → Nat → Int} {B : Nat → Int} {hg : Nat} {b : Bool} : ∀ o j, nTab ni W B hg b o j < 2 ^ 2 ^ ni
  | 0, j => Nat.pos_of_ne_zero (by simp)
  | o + 1, j => by
    unfold nTab va_up
    split
    · exact mkT_lt _ _
    · exact nTab_lt o j
theorem nTab_keep {ni : Nat} {W : Nat → Nat → Int} {B : Nat → Int} {hg : Nat} {b : Bool} {o j : Nat} (h : j < o) : nTab ni W B hg b (o + 1) j = nTab ni W B hg b o j := by
  show va_up (nTab ni W B hg b o) o _ j = _
  exact if_neg (by omega)
theorem nTab_new {ni : Nat} {W : Nat → Nat → Int} {B : Nat → Int} {hg : Nat} {b : Bool} {o : Nat} : nTab ni W B hg b (o + 1) o = mkT (2 ^ ni) (nRow ni W B hg b (nTab ni W B hg b o) o) := by
  show va_up (nTab ni W B hg b o) o _ o = _
  exact if_pos rfl
theorem nTab_le {ni : Nat} {W : Nat → Nat → Int} {B : Nat → Int} {hg : Nat} {b : Bool} {j : Nat} : ∀ (m : Nat), nTab ni W B hg b (j + 1 + m) j = nTab ni W B hg b (j + 1) j
  | 0 => rfl
  | m + 1 => by
    rw [← nTab_le m]
    exact nTab_keep (o := j + 1 + m) (by omega)
theorem nTab_st {ni : Nat} {W : Nat → Nat → Int} {B : Nat → Int} {hg : Nat} {b : Bool} {o j : Nat} (h : j < o) : nTab ni W B hg b o j = nTab ni W B hg b (j + 1) j := by
  have := nTab_le (ni := ni) (W := W) (B := B) (hg := hg) (b := b) (j := j) (o - (j + 1))
  have e : j + 1 + (o - (j + 1)) = o := by omega
  rw [e] at this
  exact this
theorem nSum_cong {ni : Nat} {w w2 : Nat → Int} {T T2 : Nat → Nat} {r : Nat} : ∀ k : Nat, (∀ j, j < k → w j = w2 j) → (∀ j, ni + j < k → T j = T2 j) → nSum ni w T r k = nSum ni w2 T2 r k
  | 0, _, _ => rfl
  | k + 1, h1, h2 => by
    unfold nSum
    rw [nSum_cong k (fun j hj => h1 j (by omega)) (fun j hj => h2 j (by omega)), h1 k (by omega)]
    by_cases q : k < ni
    · simp [q]
    · rw [if_neg q, if_neg q, h2 (k - ni) (by omega)]
theorem nTab_cong {ni : Nat} {W W2 : Nat → Nat → Int} {B B2 : Nat → Int} {hg : Nat} {b : Bool} : ∀ o : Nat, (∀ j, j < o → ∀ k, k < ni + j → W j k = W2 j k) → (∀ j, j < o → B j = B2 j) → nTab ni W B hg b o = nTab ni W2 B2 hg b o
  | 0, _, _ => rfl
  | o + 1, h1, h2 => by
    unfold nTab
    rw [nTab_cong o (fun j hj => h1 j (by omega)) (fun j hj => h2 j (by omega))]
    congr 1
    apply mkT_ext
    intro r hr
    unfold nRow
    rw [h2 o (by omega), nSum_cong (ni + o) (h1 o (by omega)) (fun _ _ => rfl)]
theorem nSum_bd {ni : Nat} {w : Nat → Int} {T : Nat → Nat} {r : Nat} : ∀ k : Nat, (∀ j, j < k → -9 ≤ w j ∧ w j ≤ 9) → -9 * (k : Int) ≤ nSum ni w T r k ∧ nSum ni w T r k ≤ 9 * (k : Int)
  | 0, _ => by simp [nSum]
  | k + 1, h => by
    have h1 := nSum_bd (ni := ni) (T := T) (r := r) k (fun j hj => h j (by omega))
    have h2 := h k (by omega)
    unfold nSum
    generalize nSum ni w T r k = z at h1
    generalize (if k < ni then r.testBit k else (T (k - ni)).testBit r) = c
    cases c
    · constructor <;> simp <;> omega
    · constructor <;> simp <;> omega
def nMost (ni : Nat) (w : Nat → Int) (D : Nat → Nat) : Nat → Nat
  | 0 => 0
  | k + 1 => if w (ni + k) ≠ 0 ∧ nMost ni w D k < D k then D k else nMost ni w D k
/-- the depth of a gate -/
def nDep (ni : Nat) (W : Nat → Nat → Int) : Nat → (Nat → Nat)
  | 0 => fun _ => 0
  | o + 1 => va_up (nDep ni W o) o (nMost ni (W o) (nDep ni W o) o + 1)
theorem nMost_le {ni : Nat} {w : Nat → Int} {D : Nat → Nat} {m : Nat} : ∀ k : Nat, (∀ j, j < k → D j ≤ m) → nMost ni w D k ≤ m
  | 0, _ => Nat.zero_le _
  | k + 1, h => by
    unfold nMost
    split
    · exact h k (by omega)
    · exact nMost_le k (fun j hj => h j (by omega))
theorem nDep_le {ni : Nat} {W : Nat → Nat → Int} : ∀ o j : Nat, nDep ni W o j ≤ o
  | 0, _ => Nat.le_refl _
  | o + 1, j => by
    unfold nDep va_up
    split
    · have := nMost_le (ni := ni) (w := W o) (D := nDep ni W o) (m := o) o (fun j _ => nDep_le o j)
      omega
    · have := nDep_le (ni := ni) (W := W) o j
      omega
theorem nDep_keep {ni : Nat} {W : Nat → Nat → Int} {o j : Nat} (h : j < o) : nDep ni W (o + 1) j = nDep ni W o j := if_neg (by omega)
theorem nDep_new {ni : Nat} {W : Nat → Nat → Int} {o : Nat} : nDep ni W (o + 1) o = nMost ni (W o) (nDep ni W o) o + 1 := if_pos rfl
theorem nDep_lem {ni : Nat} {W : Nat → Nat → Int} {j : Nat} : ∀ (m : Nat), nDep ni W (j + 1 + m) j = nDep ni W (j + 1) j
  | 0 => rfl
  | m + 1 => by
    rw [← nDep_lem m]
    exact nDep_keep (o := j + 1 + m) (by omega)
theorem nDep_st {ni : Nat} {W : Nat → Nat → Int} {o j : Nat} (h : j < o) : nDep ni W o j = nDep ni W (j + 1) j := by
  have := nDep_lem (ni := ni) (W := W) (j := j) (o - (j + 1))
  have e : j + 1 + (o - (j + 1)) = o := by omega
  rw [e] at this
  exact this
theorem nMost_cong {ni : Nat} {w w2 : Nat → Int} {D D2 : Nat → Nat} : ∀ k : Nat, (∀ j, j < k → w (ni + j) = w2 (ni + j)) → (∀ j, j < k → D j = D2 j) → nMost ni w D k = nMost ni w2 D2 k
  | 0, _, _ => rfl
  | k + 1, h1, h2 => by
    unfold nMost
    rw [nMost_cong k (fun j hj => h1 j (by omega)) (fun j hj => h2 j (by omega)), h1 k (by omega), h2 k (by omega)]
theorem nDep_cong {ni : Nat} {W W2 : Nat → Nat → Int} : ∀ o : Nat, (∀ j, j < o → ∀ k, k < ni + j → W j k = W2 j k) → nDep ni W o = nDep ni W2 o
  | 0, _ => rfl
  | o + 1, h => by
    unfold nDep
    rw [nDep_cong o (fun j hj => h j (by omega))]
    congr 2
    exact nMost_cong o (fun j hj => h o (by omega) _ (by omega)) (fun _ _ => rfl)
