/-- a way of the rows, told by their images in base 16 -/
def mkC : Nat → (Nat → Nat) → Nat
  | 0, _ => 0
  | r + 1, f => mkC r f + f r * 16 ^ r
def cAt (c r : Nat) : Nat := c / 16 ^ r % 16
/-- the row that an order of the inputs takes a row to -/
def frm (o : Nat → Nat) (r : Nat) : Nat → Nat
  | 0 => 0
  | i + 1 => frm o r i ||| (if r.testBit i then 2 ^ o i else 0)
def ordK (n k i : Nat) : Nat := k / n ^ i % n
def osM (n : Nat) : List Nat := (List.range (n ^ n)).flatMap fun k => if frm (ordK n k) (2 ^ n - 1) n = 2 ^ n - 1 then [mkC (2 ^ n) (fun r => frm (ordK n k) r n)] else []
def swp (i j r : Nat) : Nat := if r.testBit i = r.testBit j then r else r ^^^ 2 ^ i ^^^ 2 ^ j
def swC (n c i j : Nat) : Nat := mkC (2 ^ n) (fun r => cAt c (swp i j r))
def gray (s : Nat) : Nat := s ^^^ (s / 2)
def cplO (n : Nat) : Nat → Nat → Nat → List Nat
  | 0, _, c => [c]
  | k + 1, p, c => (List.range (k + 1)).flatMap (fun j => cplO n k (p + 1) (swC n c p (p + j)))
def idC (n : Nat) : Nat := mkC (2 ^ n) (fun r => r)
def osC (n : Nat) : List Nat := cplO n n 0 (idC n)
set_option maxRecDepth 100000 in
theorem os_perm : ∀ n, n < 5 → List.isPerm (osM n) (osC n) = true := by decide +kernel
set_option maxRecDepth 100000 in
theorem os_sw : ∀ n, n < 5 → ∀ i, i < n → ∀ j, j < n → List.isPerm ((osC n).map (fun c => swC n c i j)) (osC n) = true := by decide +kernel
set_option maxRecDepth 100000 in
theorem gray_perm : ∀ n, n < 5 → List.isPerm ((List.range (2 ^ n)).map gray) (List.range (2 ^ n)) = true := by decide +kernel
set_option maxRecDepth 100000 in
theorem swp_perm : ∀ n, n < 5 → ∀ i, i < n → ∀ j, j < n → List.isPerm ((List.range (2 ^ n)).map (swp i j)) (List.range (2 ^ n)) = true := by decide +kernel
theorem swp_lt : ∀ n, n < 5 → ∀ i, i < n → ∀ j, j < n → ∀ r, r < 2 ^ n → swp i j r < 2 ^ n := by decide +kernel
theorem swp_xor : ∀ i, i < 4 → ∀ j, j < 4 → ∀ r, r < 16 → ∀ m, m < 16 → swp i j (r ^^^ swp i j m) = swp i j r ^^^ m := by decide +kernel
theorem gray_lt : ∀ n, n < 5 → ∀ s, s < 2 ^ n → gray s < 2 ^ n := by decide +kernel
theorem frm_lt : ∀ n, n < 5 → ∀ k, k < n ^ n → ∀ r, r < 2 ^ n → frm (ordK n k) r n < 2 ^ n := by decide +kernel
theorem pw16 {n : Nat} (h : n ≤ 4) : 2 ^ n ≤ 16 := Nat.pow_le_pow_right (n := 2) (by omega) h
theorem mkC_lt {f : Nat → Nat} : ∀ R, (∀ r, r < R → f r < 16) → mkC R f < 16 ^ R
  | 0, _ => by simp [mkC]
  | R + 1, h => by
    have h1 := mkC_lt R (fun r hr => h r (by omega))
    have h2 := h R (by omega)
    unfold mkC
    rw [Nat.pow_succ]
    have : f R * 16 ^ R ≤ 15 * 16 ^ R := Nat.mul_le_mul_right _ (by omega)
    omega
theorem cAt_mkC {f : Nat → Nat} : ∀ {R r : Nat}, r < R → (∀ r, r < R → f r < 16) → cAt (mkC R f) r = f r
  | 0, r, h, _ => absurd h (Nat.not_lt_zero r)
  | R + 1, r, h, hf => by
    have h1 := mkC_lt R (fun r hr => hf r (by omega))
    have h2 := hf R (by omega)
    have hp : 0 < 16 ^ R := Nat.pow_pos (by omega)
    unfold cAt mkC
    rcases Nat.eq_or_lt_of_le (show r ≤ R by omega) with e | e
    · subst e
      rw [Nat.mul_comm, Nat.add_mul_div_left _ _ hp, Nat.div_eq_of_lt h1, Nat.zero_add, Nat.mod_eq_of_lt h2]
    · have h3 := cAt_mkC (R := R) e (fun r hr => hf r (by omega))
      unfold cAt at h3
      have e2 : f R * 16 ^ R = 16 ^ r * (16 * (f R * 16 ^ (R - r - 1))) := by
        have : 16 ^ R = 16 ^ r * (16 * 16 ^ (R - r - 1)) := by
          rw [← Nat.pow_succ', ← Nat.pow_add]
          congr 1
          omega
        rw [this]
        simp only [Nat.mul_comm, Nat.mul_left_comm]
      rw [e2, Nat.add_mul_div_left _ _ (Nat.pow_pos (by omega)), Nat.add_mul_mod_self_left]
      exact h3
theorem cAt_lt (c r : Nat) : cAt c r < 16 := Nat.mod_lt _ (by omega)
/-- the table under a way of the rows -/
def act (n t c : Nat) : Nat := mkT (2 ^ n) (fun r => t.testBit (cAt c r))
theorem act_lt (n t c : Nat) : act n t c < 2 ^ 2 ^ n := mkT_lt _ _
theorem act_mk {n t : Nat} {f : Nat → Nat} (hf : ∀ r, r < 2 ^ n → f r < 16) : act n t (mkC (2 ^ n) f) = mkT (2 ^ n) (fun r => t.testBit (f r)) := by
  apply mkT_ext
  intro r hr
  rw [cAt_mkC hr hf]
def swT (n t i j : Nat) : Nat := mkT (2 ^ n) (fun r => t.testBit (swp i j r))
theorem swT_lt (n t i j : Nat) : swT n t i j < 2 ^ 2 ^ n := mkT_lt _ _
theorem act_sw {n t c i j : Nat} (hn : n < 5) (hi : i < n) (hj : j < n) : swT n (act n t c) i j = act n t (swC n c i j) := by
  unfold swC
  rw [act_mk (fun r _ => cAt_lt _ _)]
  apply mkT_ext
  intro r hr
  unfold act
  rw [mkT_bit]
  simp [swp_lt n hn i hi j hj r hr]
theorem act_id {n t : Nat} (hn : n < 5) (ht : t < 2 ^ 2 ^ n) : act n t (idC n) = t := by
  unfold idC
  have := pw16 (n := n) (by omega)
  rw [act_mk (fun r hr => by omega)]
  exact mkT_self ht
def chg (n t : Nat) (o : Nat → Nat) : Nat := mkT (2 ^ n) (fun r => t.testBit (frm o r n))
theorem fm_congr {l : List Nat} {f f2 : Nat → List Nat} (h : ∀ a, a ∈ l → f a = f2 a) : l.flatMap f = l.flatMap f2 := by
  induction l with
  | nil => rfl
  | cons a l ih =>
    rw [List.flatMap_cons, List.flatMap_cons, h a List.mem_cons_self, ih (fun b hb => h b (List.mem_cons_of_mem _ hb))]
theorem fm_perm {l : List Nat} {f f2 : Nat → List Nat} (h : ∀ a, a ∈ l → (f a).Perm (f2 a)) : (l.flatMap f).Perm (l.flatMap f2) := by
  induction l with
  | nil => exact List.Perm.refl _
  | cons a l ih =>
    rw [List.flatMap_cons, List.flatMap_cons]
    exact (h a List.mem_cons_self).append (ih (fun b hb => h b (List.mem_cons_of_mem _ hb)))
/-- both a table and its opposite, with each choice of inputs turned -/
def tlM (n u : Nat) : List Nat := (List.range (2 ^ n)).flatMap fun m => [turnT n u m, (2 ^ 2 ^ n - 1) ^^^ turnT n u m]
def tlC (n u : Nat) : List Nat := (List.range (2 ^ n)).flatMap fun s => [turnT n u (gray s), (2 ^ 2 ^ n - 1) ^^^ turnT n u (gray s)]
def cplT (n : Nat) : Nat → Nat → Nat → List Nat
  | 0, _, t => tlC n t
  | k + 1, p, t => (List.range (k + 1)).flatMap (fun j => cplT n k (p + 1) (swT n t p (p + j)))
def LC (n t : Nat) : List Nat := cplT n n 0 t
def LMl (n t : Nat) : List Nat := (List.range (n ^ n)).flatMap fun k => if frm (ordK n k) (2 ^ n - 1) n = 2 ^ n - 1 then tlM n (chg n t (ordK n k)) else []
theorem cplT_O {n t : Nat} (hn : n < 5) : ∀ k p c, p + k = n → cplT n k p (act n t c) = (cplO n k p c).flatMap (fun c => tlC n (act n t c))
  | 0, p, c, _ => by simp [cplT, cplO]
  | k + 1, p, c, h => by
    unfold cplT cplO
    rw [List.flatMap_assoc]
    apply fm_congr
    intro j hj
    have hj2 := List.mem_range.mp hj
    rw [act_sw hn (by omega) (by omega)]
    exact cplT_O hn k (p + 1) _ (by omega)
theorem LC_os {n t : Nat} (hn : n < 5) (ht : t < 2 ^ 2 ^ n) : LC n t = (osC n).flatMap (fun c => tlC n (act n t c)) := by
  have h := cplT_O (t := t) hn n 0 (idC n) (by omega)
  rw [act_id hn ht] at h
  exact h
theorem LM_os {n t : Nat} (hn : n < 5) : LMl n t = (osM n).flatMap (fun c => tlM n (act n t c)) := by
  unfold LMl osM
  rw [List.flatMap_assoc]
  apply fm_congr
  intro k hk
  have hk2 := List.mem_range.mp hk
  split
  · simp only [List.flatMap_cons, List.flatMap_nil, List.append_nil]
    congr 1
    rw [act_mk (fun r hr => Nat.lt_of_lt_of_le (frm_lt n hn k hk2 r hr) (pw16 (by omega)))]
    rfl
  · rfl
theorem tl_perm {n u : Nat} (hn : n < 5) : (tlC n u).Perm (tlM n u) := by
  have h := List.isPerm_iff.mp (gray_perm n hn)
  have h2 := h.flatMap_right (fun m => [turnT n u m, (2 ^ 2 ^ n - 1) ^^^ turnT n u m])
  rw [List.flatMap_map] at h2
  exact h2
theorem LCM {n t : Nat} (hn : n < 5) (ht : t < 2 ^ 2 ^ n) : (LC n t).Perm (LMl n t) := by
  rw [LC_os hn ht, LM_os hn]
  refine (fm_perm (fun c _ => tl_perm hn)).trans ?_
  exact ((List.isPerm_iff.mp (os_perm n hn)).flatMap_right _).symm
theorem LC_M2 {n t : Nat} (hn : n < 5) (ht : t < 2 ^ 2 ^ n) : (LC n t).Perm ((osC n).flatMap (fun c => tlM n (act n t c))) := by
  rw [LC_os hn ht]
  exact fm_perm (fun c _ => tl_perm hn)
theorem W_bit {n r : Nat} (hr : r < 2 ^ n) : (2 ^ 2 ^ n - 1).testBit r = true := by
  rw [← mkT_true, mkT_bit]
  simp [hr]
theorem W_lt (n : Nat) : 2 ^ 2 ^ n - 1 < 2 ^ 2 ^ n := by
  have := Nat.two_pow_pos (2 ^ n)
  omega
theorem Wx_lt {n u : Nat} (h : u < 2 ^ 2 ^ n) : (2 ^ 2 ^ n - 1) ^^^ u < 2 ^ 2 ^ n := Nat.xor_lt_two_pow (W_lt n) h
theorem eqT {n a b : Nat} (ha : a < 2 ^ 2 ^ n) (hb : b < 2 ^ 2 ^ n) (h : ∀ r, r < 2 ^ n → a.testBit r = b.testBit r) : a = b := by
  rw [← mkT_self ha, ← mkT_self hb]
  exact mkT_ext h
theorem turnT_bit {n t m r : Nat} (hr : r < 2 ^ n) : (turnT n t m).testBit r = t.testBit (r ^^^ m) := by
  unfold turnT
  rw [mkT_bit]
  simp [hr]
theorem swT_bit {n t i j r : Nat} (hr : r < 2 ^ n) : (swT n t i j).testBit r = t.testBit (swp i j r) := by
  unfold swT
  rw [mkT_bit]
  simp [hr]
theorem turn_turn {n u m k : Nat} (hk : k < 2 ^ n) : turnT n (turnT n u m) k = turnT n u (m ^^^ k) := by
  refine eqT (turnT_lt _ _ _) (turnT_lt _ _ _) (fun r hr => ?_)
  rw [turnT_bit hr, turnT_bit (Nat.xor_lt_two_pow hr hk), turnT_bit hr, Nat.xor_assoc, Nat.xor_comm k]
theorem turn_W {n u m : Nat} (hm : m < 2 ^ n) : turnT n ((2 ^ 2 ^ n - 1) ^^^ u) m = (2 ^ 2 ^ n - 1) ^^^ turnT n u m := by
  refine eqT (turnT_lt _ _ _) (Wx_lt (turnT_lt _ _ _)) (fun r hr => ?_)
  rw [turnT_bit hr, Nat.testBit_xor, Nat.testBit_xor, turnT_bit hr, W_bit hr, W_bit (Nat.xor_lt_two_pow hr hm)]
theorem sw_W {n u i j : Nat} (hn : n < 5) (hi : i < n) (hj : j < n) : swT n ((2 ^ 2 ^ n - 1) ^^^ u) i j = (2 ^ 2 ^ n - 1) ^^^ swT n u i j := by
  refine eqT (swT_lt _ _ _ _) (Wx_lt (swT_lt _ _ _ _)) (fun r hr => ?_)
  rw [swT_bit hr, Nat.testBit_xor, Nat.testBit_xor, swT_bit hr, W_bit hr, W_bit (swp_lt n hn i hi j hj r hr)]
theorem sw_turn {n u i j m : Nat} (hn : n < 5) (hi : i < n) (hj : j < n) (hm : m < 2 ^ n) : swT n (turnT n u m) i j = turnT n (swT n u i j) (swp i j m) := by
  refine eqT (swT_lt _ _ _ _) (turnT_lt _ _ _) (fun r hr => ?_)
  have h16 := pw16 (n := n) (by omega)
  rw [swT_bit hr, turnT_bit (swp_lt n hn i hi j hj r hr), turnT_bit hr, swT_bit (Nat.xor_lt_two_pow hr (swp_lt n hn i hi j hj m hm)), swp_xor i (by omega) j (by omega) r (by omega) m (by omega)]
theorem W_W (n u : Nat) : (2 ^ 2 ^ n - 1) ^^^ ((2 ^ 2 ^ n - 1) ^^^ u) = u := by
  rw [← Nat.xor_assoc, Nat.xor_self, Nat.zero_xor]
/-- all images, in one order -/
def LI (n t : Nat) : List Nat := (osC n).flatMap (fun c => tlM n (act n t c))
theorem mem_tlM {n u v : Nat} : v ∈ tlM n u ↔ ∃ m, m < 2 ^ n ∧ (v = turnT n u m ∨ v = (2 ^ 2 ^ n - 1) ^^^ turnT n u m) := by
  unfold tlM
  simp
theorem tlM_lt {n u v : Nat} (h : v ∈ tlM n u) : v < 2 ^ 2 ^ n := by
  obtain ⟨m, hm, h | h⟩ := mem_tlM.mp h
  · rw [h]; exact turnT_lt _ _ _
  · rw [h]; exact Wx_lt (turnT_lt _ _ _)
theorem LI_lt {n t v : Nat} (h : v ∈ LI n t) : v < 2 ^ 2 ^ n := by
  obtain ⟨c, _, hc⟩ := List.mem_flatMap.mp h
  exact tlM_lt hc
theorem LI_W {n t : Nat} : ((LI n t).map (fun u => (2 ^ 2 ^ n - 1) ^^^ u)).Perm (LI n t) := by
  unfold LI tlM
  rw [List.map_flatMap]
  refine fm_perm (fun c _ => ?_)
  rw [List.map_flatMap]
  refine fm_perm (fun m _ => ?_)
  simp only [List.map_cons, List.map_nil, W_W]
  exact List.Perm.swap _ _ _
theorem LI_turn {n t k : Nat} (hn : n < 5) (hk : k < 2 ^ n) : ((LI n t).map (fun u => turnT n u k)).Perm (LI n t) := by
  unfold LI tlM
  rw [List.map_flatMap]
  refine fm_perm (fun c _ => ?_)
  rw [List.map_flatMap]
  have h := List.isPerm_iff.mp (perm_xb n (by omega) k hk)
  have h2 := h.flatMap_right (fun m => [turnT n (act n t c) m, (2 ^ 2 ^ n - 1) ^^^ turnT n (act n t c) m])
  rw [List.flatMap_map] at h2
  refine List.Perm.trans ?_ h2
  refine fm_perm (fun m _ => ?_)
  simp only [List.map_cons, List.map_nil, turn_W hk, turn_turn hk]
  exact List.Perm.refl _
theorem LI_sw {n t i j : Nat} (hn : n < 5) (hi : i < n) (hj : j < n) : ((LI n t).map (fun u => swT n u i j)).Perm (LI n t) := by
  unfold LI tlM
  rw [List.map_flatMap]
  have h0 := (List.isPerm_iff.mp (os_sw n hn i hi j hj)).flatMap_right (fun c => (List.range (2 ^ n)).flatMap fun m => [turnT n (act n t c) m, (2 ^ 2 ^ n - 1) ^^^ turnT n (act n t c) m])
  rw [List.flatMap_map] at h0
  refine List.Perm.trans ?_ h0
  refine fm_perm (fun c _ => ?_)
  rw [List.map_flatMap]
  have h := List.isPerm_iff.mp (swp_perm n hn i hi j hj)
  have h2 := h.flatMap_right (fun m => [turnT n (act n t (swC n c i j)) m, (2 ^ 2 ^ n - 1) ^^^ turnT n (act n t (swC n c i j)) m])
  rw [List.flatMap_map] at h2
  refine List.Perm.trans ?_ h2
  refine fm_perm (fun m hm => ?_)
  have hm2 := List.mem_range.mp hm
  simp only [List.map_cons, List.map_nil, sw_W hn hi hj, sw_turn hn hi hj hm2, act_sw hn hi hj]
  exact List.Perm.refl _
/-- a way that keeps the images keeps how often each is met -/
theorem count_keep {L : List Nat} {s : Nat → Nat} {N : Nat} (hp : (L.map s).Perm L) (hL : ∀ v, v ∈ L → v < N) (hs : ∀ a, a < N → ∀ b, b < N → s a = s b → a = b) {u : Nat} (hu : u < N) : L.count (s u) = L.count u := by
  rw [← hp.count_eq (s u)]
  have : ∀ K : List Nat, (∀ v, v ∈ K → v < N) → (K.map s).count (s u) = K.count u := by
    intro K
    induction K with
    | nil => intro _; rfl
    | cons a K ih =>
      intro h
      rw [List.map_cons, List.count_cons, List.count_cons, ih (fun v hv => h v (List.mem_cons_of_mem _ hv))]
      congr 1
      by_cases e : a = u
      · simp [e]
      · have : ¬ s a = s u := fun z => e (hs a (h a List.mem_cons_self) u hu z)
        simp [e, this]
  exact this L hL
theorem cnt_turn {n t k u : Nat} (hn : n < 5) (hk : k < 2 ^ n) (hu : u < 2 ^ 2 ^ n) : (LI n t).count (turnT n u k) = (LI n t).count u := by
  refine count_keep (LI_turn hn hk) (fun v hv => LI_lt hv) (fun a ha b hb e => ?_) hu
  have : ∀ x, x < 2 ^ 2 ^ n → turnT n (turnT n x k) k = x := fun x hx => by
    rw [turn_turn hk, Nat.xor_self]
    refine eqT (turnT_lt _ _ _) hx (fun r hr => ?_)
    rw [turnT_bit hr, Nat.xor_zero]
  rw [← this a ha, ← this b hb, e]
theorem swp_swp : ∀ n, n < 5 → ∀ i, i < n → ∀ j, j < n → ∀ r, r < 2 ^ n → swp i j (swp i j r) = r := by decide +kernel
theorem cnt_sw {n t i j u : Nat} (hn : n < 5) (hi : i < n) (hj : j < n) (hu : u < 2 ^ 2 ^ n) : (LI n t).count (swT n u i j) = (LI n t).count u := by
  refine count_keep (LI_sw hn hi hj) (fun v hv => LI_lt hv) (fun a ha b hb e => ?_) hu
  have : ∀ x, x < 2 ^ 2 ^ n → swT n (swT n x i j) i j = x := fun x hx => by
    refine eqT (swT_lt _ _ _ _) hx (fun r hr => ?_)
    rw [swT_bit hr, swT_bit (swp_lt n hn i hi j hj r hr), swp_swp n hn i hi j hj r hr]
  rw [← this a ha, ← this b hb, e]
theorem cnt_W {n t u : Nat} (hu : u < 2 ^ 2 ^ n) : (LI n t).count ((2 ^ 2 ^ n - 1) ^^^ u) = (LI n t).count u := by
  refine count_keep LI_W (fun v hv => LI_lt hv) (fun a ha b hb e => ?_) hu
  rw [← W_W n a, ← W_W n b, e]
theorem cnt_cpl {n t : Nat} (hn : n < 5) : ∀ k p c, p + k = n → ∀ c2, c2 ∈ cplO n k p c → (LI n t).count (act n t c2) = (LI n t).count (act n t c)
  | 0, p, c, _, c2, h => by
    rw [List.mem_singleton.mp h]
  | k + 1, p, c, e, c2, h => by
    obtain ⟨j, hj, h2⟩ := List.mem_flatMap.mp h
    have hj2 := List.mem_range.mp hj
    rw [cnt_cpl hn k (p + 1) _ (by omega) c2 h2, ← act_sw hn (by omega) (by omega), cnt_sw hn (by omega) (by omega) (act_lt _ _ _)]
/-- each image is met as often as the table itself -/
theorem cnt_same {n t u : Nat} (hn : n < 5) (ht : t < 2 ^ 2 ^ n) (hu : u ∈ LI n t) : (LI n t).count u = (LI n t).count t := by
  obtain ⟨c, hc, h2⟩ := List.mem_flatMap.mp hu
  have e1 := cnt_cpl (t := t) hn n 0 (idC n) (by omega) c hc
  rw [act_id hn ht] at e1
  obtain ⟨m, hm, h | h⟩ := mem_tlM.mp h2
  · rw [h, cnt_turn hn hm (act_lt _ _ _), e1]
  · rw [h, cnt_W (turnT_lt _ _ _), cnt_turn hn hm (act_lt _ _ _), e1]
/-- how many tables are in a list -/
def dis (N : Nat) (L : List Nat) : Nat := cnt N (fun u => decide (u ∈ L))
theorem sum_count {N : Nat} : ∀ L : List Nat, (∀ v, v ∈ L → v < N) → fb_sm (fun u => L.count u) N = L.length
  | [], _ => by
    have : ∀ N, fb_sm (fun u => ([] : List Nat).count u) N = 0 := by
      intro N
      induction N with
      | zero => rfl
      | succ N ih => rw [fb_sm_succ, ih]; rfl
    exact this N
  | a :: L, h => by
    have h1 := sum_count L (fun v hv => h v (List.mem_cons_of_mem _ hv))
    have h2 := fb_sm_upd (fun u => L.count u) (L.count a + 1) (h a List.mem_cons_self)
    have e : fb_sm (fun u => (a :: L).count u) N = fb_sm (fun k => if k = a then L.count a + 1 else L.count k) N := by
      apply fb_sm_cong
      intro k _
      rw [List.count_cons]
      by_cases z : k = a
      · simp [z]
      · have : ¬ a = k := fun q => z q.symm
        simp [z, this]
    rw [e, List.length_cons]
    omega
theorem dis_mul {N c : Nat} {L : List Nat} (hc : ∀ u, u ∈ L → L.count u = c) : fb_sm (fun u => L.count u) N = dis N L * c := by
  induction N with
  | zero => simp [fb_sm, dis, cnt]
  | succ N ih =>
    rw [fb_sm_succ, ih]
    show _ = (dis N L + (if decide (N ∈ L) then 1 else 0)) * c
    by_cases z : N ∈ L
    · rw [hc N z, Nat.add_mul]
      simp [z]
    · rw [List.count_eq_zero_of_not_mem z]
      simp [z]
