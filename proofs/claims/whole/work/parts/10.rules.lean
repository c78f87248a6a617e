/-- a truth value as an int -/
def jB (b : Bool) : Int32 := if b then 1 else 0
theorem jB_t : jB true = 1 := rfl
theorem jB_f : jB false = 0 := rfl
theorem jB_nar (b : Bool) : narrow .boolean (.int (jB b)) = .int (jB b) := by cases b <;> rfl
theorem jB_eq (b : Bool) : jB b = 0 ↔ b = false := by cases b <;> decide
theorem jB_inj {a b : Bool} : jB a = jB b ↔ a = b := by cases a <;> cases b <;> decide
theorem jB_nI (b : Bool) : jB b = nI (if b then 1 else 0) := by cases b <;> rfl
/-- a whole number as an int, as a long -/
def iI (z : Int) : Int32 := Int32.ofInt z
def lI (z : Int) : Int64 := Int64.ofInt z
theorem iI_nat (n : Nat) : iI (n : Int) = nI n := by
  unfold iI nI
  rw [← Int32.toBitVec_inj]
  simp
theorem lI_nat (n : Nat) : lI (n : Int) = lN n := by
  unfold lI lN
  rw [← Int64.toBitVec_inj]
  simp
theorem iI_add (a b : Int) : iI a + iI b = iI (a + b) := by
  unfold iI
  exact (Int32.ofInt_add a b).symm
theorem iI_sub (a b : Int) : iI a - iI b = iI (a - b) := by
  unfold iI
  exact (Int32.ofInt_sub a b).symm
theorem iI_mul (a b : Int) : iI a * iI b = iI (a * b) := by
  unfold iI
  exact (Int32.ofInt_mul a b).symm
theorem iI_neg (a : Int) : - iI a = iI (-a) := by
  unfold iI
  exact (Int32.ofInt_neg a).symm
theorem iI_toInt {z : Int} (h : -2147483648 ≤ z ∧ z < 2147483648) : (iI z).toInt = z := fb_ofI h.1 h.2
theorem iI_of (x : Int32) : ∃ z : Int, (-2147483648 ≤ z ∧ z < 2147483648) ∧ x = iI z := ⟨x.toInt, fb_rng x, (fb_asI x).symm⟩
theorem iI_lt {a b : Int} (ha : -2147483648 ≤ a ∧ a < 2147483648) (hb : -2147483648 ≤ b ∧ b < 2147483648) : iI a < iI b ↔ a < b := by rw [fa_lt, iI_toInt ha, iI_toInt hb]
theorem iI_le {a b : Int} (ha : -2147483648 ≤ a ∧ a < 2147483648) (hb : -2147483648 ≤ b ∧ b < 2147483648) : iI a ≤ iI b ↔ a ≤ b := by rw [fa_le, iI_toInt ha, iI_toInt hb]
theorem iI_eq {a b : Int} (ha : -2147483648 ≤ a ∧ a < 2147483648) (hb : -2147483648 ≤ b ∧ b < 2147483648) : iI a = iI b ↔ a = b := by rw [fa_eq, iI_toInt ha, iI_toInt hb]
section JB
variable {g : jG} {y : jY} {d : Nat} {K : Option Value → jMem → Prop} {pc n : Nat} {ls : List (Option Value)} {st : List Value} {M : jMem}
theorem j_bif_eq {b : Bool} {off : Int} (t : Nat) (hd : decode y.2.1 pc = .ok (.ifCond .eq off, 3)) (hn : pc + 3 = n) (ht : (pc : Int) + off = (t : Int)) (kt : b = false → J g y d K t ls st M) (kf : b = true → J g y d K n ls st M) : J g y d K pc ls (.int (jB b) :: st) M :=
  j_if_eq t hd hn ht (fun h => kt ((jB_eq b).mp h)) (fun h => kf (by cases b; exact absurd rfl h; rfl))
theorem j_bif_ne {b : Bool} {off : Int} (t : Nat) (hd : decode y.2.1 pc = .ok (.ifCond .ne off, 3)) (hn : pc + 3 = n) (ht : (pc : Int) + off = (t : Int)) (kt : b = true → J g y d K t ls st M) (kf : b = false → J g y d K n ls st M) : J g y d K pc ls (.int (jB b) :: st) M :=
  j_if_ne t hd hn ht (fun h => kt (by cases b; exact absurd rfl h; rfl)) (fun h => kf ((jB_eq b).mp h))
theorem j_bret {b : Bool} (hd : decode y.2.1 pc = .ok (.ireturn, 1)) (hr : y.2.2.2 = some .boolean) (hk : K (some (.int (jB b))) M) : J g y d K pc ls [.int (jB b)] M := j_zret hd hr (jB_nar b) hk
theorem j_ret1 {b : Bool} (hb : b = true) (hd : decode y.2.1 pc = .ok (.ireturn, 1)) (hr : y.2.2.2 = some .boolean) (hk : K (some (.int (jB b))) M) : J g y d K pc ls [.int (nI 1)] M := by
  subst hb
  exact j_zret hd hr rfl hk
theorem j_ret0 {b : Bool} (hb : b = false) (hd : decode y.2.1 pc = .ok (.ireturn, 1)) (hr : y.2.2.2 = some .boolean) (hk : K (some (.int (jB b))) M) : J g y d K pc ls [.int (nI 0)] M := by
  subst hb
  exact j_zret hd hr rfl hk
theorem lg_lt0 (x y : Int64) : lg_cmp x y < 0 ↔ x < y := by
  unfold lg_cmp
  simp only [gt_iff_lt, Int64.lt_iff_toInt_lt, ← Int64.toInt_inj]
  split
  · constructor
    · intro h; exact absurd h (by decide)
    · intro h; omega
  · split
    · constructor
      · intro h; exact absurd h (by decide)
      · intro h; omega
    · constructor
      · intro h; omega
      · intro h; decide
theorem lg_gt0 (x y : Int64) : 0 < lg_cmp x y ↔ y < x := by
  unfold lg_cmp
  simp only [gt_iff_lt, Int64.lt_iff_toInt_lt, ← Int64.toInt_inj]
  split
  · constructor
    · intro h; assumption
    · intro h; decide
  · split
    · constructor
      · intro h; exact absurd h (by decide)
      · intro h; omega
    · constructor
      · intro h; exact absurd h (by decide)
      · intro h; omega
theorem lg_eq0 (x y : Int64) : lg_cmp x y = 0 ↔ x = y := by
  unfold lg_cmp
  simp only [gt_iff_lt, Int64.lt_iff_toInt_lt, ← Int64.toInt_inj]
  split
  · constructor
    · intro h; exact absurd h (by decide)
    · intro h; omega
  · split
    · constructor
      · intro h; assumption
      · intro h; rfl
    · constructor
      · intro h; exact absurd h (by decide)
      · intro h; omega
theorem lg_ge0 (x y : Int64) : 0 ≤ lg_cmp x y ↔ y ≤ x := lg_cmp_ge x y
theorem lg_le0 (x y : Int64) : lg_cmp x y ≤ 0 ↔ x ≤ y := by
  have h := lg_gt0 x y
  constructor
  · intro q
    rw [Int64.le_iff_toInt_le]
    rw [Int64.lt_iff_toInt_lt] at h
    rw [Int32.le_iff_toInt_le] at q
    rw [Int32.lt_iff_toInt_lt] at h
    have : ¬ (0 : Int32).toInt < (lg_cmp x y).toInt := by omega
    have := fun z => this (h.mpr z)
    omega
  · intro q
    rw [Int64.le_iff_toInt_le] at q
    rw [Int64.lt_iff_toInt_lt] at h
    rw [Int32.le_iff_toInt_le]
    rw [Int32.lt_iff_toInt_lt] at h
    have : ¬ (0 : Int32).toInt < (lg_cmp x y).toInt := fun z => by have := h.mp z; omega
    omega

theorem j_lif_eq {a b : Int64} {off : Int} (t : Nat) (hd : decode y.2.1 pc = .ok (.ifCond .eq off, 3)) (hn : pc + 3 = n) (ht : (pc : Int) + off = (t : Int)) (kt : a = b → J g y d K t ls st M) (kf : ¬ a = b → J g y d K n ls st M) : J g y d K pc ls (.int (lg_cmp a b) :: st) M :=
  j_if_eq t hd hn ht (fun h => kt ((lg_eq0 a b).mp h)) (fun h => kf (fun q => h ((lg_eq0 a b).mpr q)))
theorem j_lif_lt {a b : Int64} {off : Int} (t : Nat) (hd : decode y.2.1 pc = .ok (.ifCond .lt off, 3)) (hn : pc + 3 = n) (ht : (pc : Int) + off = (t : Int)) (kt : a < b → J g y d K t ls st M) (kf : ¬ a < b → J g y d K n ls st M) : J g y d K pc ls (.int (lg_cmp a b) :: st) M :=
  j_if_lt t hd hn ht (fun h => kt ((lg_lt0 a b).mp h)) (fun h => kf (fun q => h ((lg_lt0 a b).mpr q)))
theorem j_lif_ge {a b : Int64} {off : Int} (t : Nat) (hd : decode y.2.1 pc = .ok (.ifCond .ge off, 3)) (hn : pc + 3 = n) (ht : (pc : Int) + off = (t : Int)) (kt : b ≤ a → J g y d K t ls st M) (kf : ¬ b ≤ a → J g y d K n ls st M) : J g y d K pc ls (.int (lg_cmp a b) :: st) M :=
  j_if_ge t hd hn ht (fun h => kt ((lg_ge0 a b).mp h)) (fun h => kf (fun q => h ((lg_ge0 a b).mpr q)))
theorem j_lif_gt {a b : Int64} {off : Int} (t : Nat) (hd : decode y.2.1 pc = .ok (.ifCond .gt off, 3)) (hn : pc + 3 = n) (ht : (pc : Int) + off = (t : Int)) (kt : b < a → J g y d K t ls st M) (kf : ¬ b < a → J g y d K n ls st M) : J g y d K pc ls (.int (lg_cmp a b) :: st) M :=
  j_if_gt t hd hn ht (fun h => kt ((lg_gt0 a b).mp h)) (fun h => kf (fun q => h ((lg_gt0 a b).mpr q)))
theorem j_lif_le {a b : Int64} {off : Int} (t : Nat) (hd : decode y.2.1 pc = .ok (.ifCond .le off, 3)) (hn : pc + 3 = n) (ht : (pc : Int) + off = (t : Int)) (kt : a ≤ b → J g y d K t ls st M) (kf : ¬ a ≤ b → J g y d K n ls st M) : J g y d K pc ls (.int (lg_cmp a b) :: st) M :=
  j_if_le t hd hn ht (fun h => kt ((lg_le0 a b).mp h)) (fun h => kf (fun q => h ((lg_le0 a b).mpr q)))
theorem j_lif_ne {a b : Int64} {off : Int} (t : Nat) (hd : decode y.2.1 pc = .ok (.ifCond .ne off, 3)) (hn : pc + 3 = n) (ht : (pc : Int) + off = (t : Int)) (kt : ¬ a = b → J g y d K t ls st M) (kf : a = b → J g y d K n ls st M) : J g y d K pc ls (.int (lg_cmp a b) :: st) M :=
  j_if_ne t hd hn ht (fun h => kt (fun q => h ((lg_eq0 a b).mpr q))) (fun h => kf ((lg_eq0 a b).mp h))
theorem j_nicmp_eq {a b : Nat} {off : Int} (t : Nat) (hd : decode y.2.1 pc = .ok (.if_icmp .eq off, 3)) (hn : pc + 3 = n) (ht : (pc : Int) + off = (t : Int)) (ha : a < 2 ^ 31) (hb : b < 2 ^ 31) (kt : a = b → J g y d K t ls st M) (kf : ¬ a = b → J g y d K n ls st M) : J g y d K pc ls (.int (nI b) :: .int (nI a) :: st) M :=
  j_icmp_eq t hd hn ht (fun h => kt ((nI_eq ha hb).mp h)) (fun h => kf (fun q => h ((nI_eq ha hb).mpr q)))
theorem j_nicmp_ne {a b : Nat} {off : Int} (t : Nat) (hd : decode y.2.1 pc = .ok (.if_icmp .ne off, 3)) (hn : pc + 3 = n) (ht : (pc : Int) + off = (t : Int)) (ha : a < 2 ^ 31) (hb : b < 2 ^ 31) (kt : ¬ a = b → J g y d K t ls st M) (kf : a = b → J g y d K n ls st M) : J g y d K pc ls (.int (nI b) :: .int (nI a) :: st) M :=
  j_icmp_ne t hd hn ht (fun h => kt (fun q => h ((nI_eq ha hb).mpr q))) (fun h => kf ((nI_eq ha hb).mp h))
theorem j_nicmp_lt {a b : Nat} {off : Int} (t : Nat) (hd : decode y.2.1 pc = .ok (.if_icmp .lt off, 3)) (hn : pc + 3 = n) (ht : (pc : Int) + off = (t : Int)) (ha : a < 2 ^ 31) (hb : b < 2 ^ 31) (kt : a < b → J g y d K t ls st M) (kf : b ≤ a → J g y d K n ls st M) : J g y d K pc ls (.int (nI b) :: .int (nI a) :: st) M :=
  j_icmp_lt t hd hn ht (fun h => kt ((nI_ltI ha hb).mp h)) (fun h => kf (Nat.not_lt.mp fun q => h ((nI_ltI ha hb).mpr q)))
theorem j_nicmp_ge {a b : Nat} {off : Int} (t : Nat) (hd : decode y.2.1 pc = .ok (.if_icmp .ge off, 3)) (hn : pc + 3 = n) (ht : (pc : Int) + off = (t : Int)) (ha : a < 2 ^ 31) (hb : b < 2 ^ 31) (kt : b ≤ a → J g y d K t ls st M) (kf : a < b → J g y d K n ls st M) : J g y d K pc ls (.int (nI b) :: .int (nI a) :: st) M :=
  j_icmp_ge t hd hn ht (fun h => kt ((nI_leI hb ha).mp h)) (fun h => kf (Nat.not_le.mp fun q => h ((nI_leI hb ha).mpr q)))
theorem j_nicmp_gt {a b : Nat} {off : Int} (t : Nat) (hd : decode y.2.1 pc = .ok (.if_icmp .gt off, 3)) (hn : pc + 3 = n) (ht : (pc : Int) + off = (t : Int)) (ha : a < 2 ^ 31) (hb : b < 2 ^ 31) (kt : b < a → J g y d K t ls st M) (kf : a ≤ b → J g y d K n ls st M) : J g y d K pc ls (.int (nI b) :: .int (nI a) :: st) M :=
  j_icmp_gt t hd hn ht (fun h => kt ((nI_ltI hb ha).mp h)) (fun h => kf (Nat.not_lt.mp fun q => h ((nI_ltI hb ha).mpr q)))
theorem j_nicmp_le {a b : Nat} {off : Int} (t : Nat) (hd : decode y.2.1 pc = .ok (.if_icmp .le off, 3)) (hn : pc + 3 = n) (ht : (pc : Int) + off = (t : Int)) (ha : a < 2 ^ 31) (hb : b < 2 ^ 31) (kt : a ≤ b → J g y d K t ls st M) (kf : b < a → J g y d K n ls st M) : J g y d K pc ls (.int (nI b) :: .int (nI a) :: st) M :=
  j_icmp_le t hd hn ht (fun h => kt ((nI_leI ha hb).mp h)) (fun h => kf (Nat.not_le.mp fun q => h ((nI_leI ha hb).mpr q)))
theorem j_zicmp_eq {a b : Int} {off : Int} (t : Nat) (hd : decode y.2.1 pc = .ok (.if_icmp .eq off, 3)) (hn : pc + 3 = n) (ht : (pc : Int) + off = (t : Int)) (ha : -2147483648 ≤ a ∧ a < 2147483648) (hb : -2147483648 ≤ b ∧ b < 2147483648) (kt : a = b → J g y d K t ls st M) (kf : ¬ a = b → J g y d K n ls st M) : J g y d K pc ls (.int (iI b) :: .int (iI a) :: st) M :=
  j_icmp_eq t hd hn ht (fun h => kt ((iI_eq ha hb).mp h)) (fun h => kf (fun q => h ((iI_eq ha hb).mpr q)))
theorem j_zicmp_ne {a b : Int} {off : Int} (t : Nat) (hd : decode y.2.1 pc = .ok (.if_icmp .ne off, 3)) (hn : pc + 3 = n) (ht : (pc : Int) + off = (t : Int)) (ha : -2147483648 ≤ a ∧ a < 2147483648) (hb : -2147483648 ≤ b ∧ b < 2147483648) (kt : ¬ a = b → J g y d K t ls st M) (kf : a = b → J g y d K n ls st M) : J g y d K pc ls (.int (iI b) :: .int (iI a) :: st) M :=
  j_icmp_ne t hd hn ht (fun h => kt (fun q => h ((iI_eq ha hb).mpr q))) (fun h => kf ((iI_eq ha hb).mp h))
theorem j_zicmp_lt {a b : Int} {off : Int} (t : Nat) (hd : decode y.2.1 pc = .ok (.if_icmp .lt off, 3)) (hn : pc + 3 = n) (ht : (pc : Int) + off = (t : Int)) (ha : -2147483648 ≤ a ∧ a < 2147483648) (hb : -2147483648 ≤ b ∧ b < 2147483648) (kt : a < b → J g y d K t ls st M) (kf : b ≤ a → J g y d K n ls st M) : J g y d K pc ls (.int (iI b) :: .int (iI a) :: st) M :=
  j_icmp_lt t hd hn ht (fun h => kt ((iI_lt ha hb).mp h)) (fun h => kf (Int.not_lt.mp fun q => h ((iI_lt ha hb).mpr q)))
theorem j_zicmp_ge {a b : Int} {off : Int} (t : Nat) (hd : decode y.2.1 pc = .ok (.if_icmp .ge off, 3)) (hn : pc + 3 = n) (ht : (pc : Int) + off = (t : Int)) (ha : -2147483648 ≤ a ∧ a < 2147483648) (hb : -2147483648 ≤ b ∧ b < 2147483648) (kt : b ≤ a → J g y d K t ls st M) (kf : a < b → J g y d K n ls st M) : J g y d K pc ls (.int (iI b) :: .int (iI a) :: st) M :=
  j_icmp_ge t hd hn ht (fun h => kt ((iI_le hb ha).mp h)) (fun h => kf (Int.not_le.mp fun q => h ((iI_le hb ha).mpr q)))
theorem j_zicmp_gt {a b : Int} {off : Int} (t : Nat) (hd : decode y.2.1 pc = .ok (.if_icmp .gt off, 3)) (hn : pc + 3 = n) (ht : (pc : Int) + off = (t : Int)) (ha : -2147483648 ≤ a ∧ a < 2147483648) (hb : -2147483648 ≤ b ∧ b < 2147483648) (kt : b < a → J g y d K t ls st M) (kf : a ≤ b → J g y d K n ls st M) : J g y d K pc ls (.int (iI b) :: .int (iI a) :: st) M :=
  j_icmp_gt t hd hn ht (fun h => kt ((iI_lt hb ha).mp h)) (fun h => kf (Int.not_lt.mp fun q => h ((iI_lt hb ha).mpr q)))
theorem j_zicmp_le {a b : Int} {off : Int} (t : Nat) (hd : decode y.2.1 pc = .ok (.if_icmp .le off, 3)) (hn : pc + 3 = n) (ht : (pc : Int) + off = (t : Int)) (ha : -2147483648 ≤ a ∧ a < 2147483648) (hb : -2147483648 ≤ b ∧ b < 2147483648) (kt : a ≤ b → J g y d K t ls st M) (kf : b < a → J g y d K n ls st M) : J g y d K pc ls (.int (iI b) :: .int (iI a) :: st) M :=
  j_icmp_le t hd hn ht (fun h => kt ((iI_le ha hb).mp h)) (fun h => kf (Int.not_le.mp fun q => h ((iI_le ha hb).mpr q)))
end JB
