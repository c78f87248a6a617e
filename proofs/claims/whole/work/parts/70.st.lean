/-- the class's cells -/
def CI (g : jG) (M : jMem) (sn sT : Nat → Nat) (ni ng : Nat) (W : Nat → Nat → Int) (B P : Nat → Int) : Prop := M 0 = .inr (6, oX g) ∧ M 1 = (iA g 8 fun j => nI (sn j)) ∧ M 2 = (lA g 8 fun j => lN (sT j)) ∧ wsI g M ∧ lsI g M ∧ (∃ a b c d, M 11 = .inr (1, oKind a b c d)) ∧ pI g M ∧ cNet g M ni ng W B P
/-- the reference's cells -/
def RX (g : jG) (M : jMem) (sn sT : Nat → Nat) (ni ng : Nat) (W : Nat → Nat → Int) (B P : Nat → Int) (m : Nat) : Prop := ∃ q, RI g M (qN q ni ng) m ∧ M 35 = (iA g 8 fun j => nI (sn j)) ∧ M 36 = (lA g 8 fun j => lN (sT j)) ∧ (∃ tp, M 47 = iA g 12 tp ∧ ∀ k, k < 12 → tp k = iI (P k)) ∧ (∃ nw nb, M 48 = iA g 96 nw ∧ M 49 = iA g 8 nb ∧ nWB ng W B nw nb) ∧ (∃ wk, M 50 = iA g 8 wk) ∧ ∃ dp, M 51 = iA g 8 dp
section ST
variable {g : jG} {M M2 : jMem} {sn sT sn2 sT2 : Nat → Nat} {ni ng : Nat} {W : Nat → Nat → Int} {B P : Nat → Int} {m : Nat}
theorem wsI_fr (h : ∀ k, 3 ≤ k → k ≤ 4 → M2 k = M k) (hw : wsI g M) : wsI g M2 := by
  obtain ⟨a, f, b⟩ := hw
  exact ⟨(h 3 (by decide) (by decide)).trans a, f, (h 4 (by decide) (by decide)).trans b⟩
theorem cNet_fr (h : ∀ k, 19 ≤ k → k < 34 → M2 k = M k) (hc : cNet g M ni ng W B P) : cNet g M2 ni ng W B P := by
  obtain ⟨a1, a2, a3, a4, a5, a6, a7⟩ := hc
  refine ⟨(h 19 (by decide) (by decide)).trans a1, (h 22 (by decide) (by decide)).trans a2, ?_, ?_, ?_, ?_, fun o ho => ?_⟩
  · rw [h 20 (by decide) (by decide)]; exact a3
  · rw [h 21 (by decide) (by decide)]; exact a4
  · rw [h 32 (by decide) (by decide)]; exact a5
  · rw [h 33 (by decide) (by decide)]; exact a6
  · rw [h (23 + o) (by omega) (by omega)]; exact a7 o ho
theorem CI_fr (h : ∀ k, k < 34 → M2 k = M k) (hc : CI g M sn sT ni ng W B P) : CI g M2 sn sT ni ng W B P := by
  obtain ⟨a0, a1, a2, a3, a4, ⟨a, b, c, d, a5⟩, a6, a7⟩ := hc
  exact ⟨(h 0 (by decide)).trans a0, (h 1 (by decide)).trans a1, (h 2 (by decide)).trans a2, wsI_fr (fun k _ _ => h k (by omega)) a3, lsI_kept (fun k _ _ => h k (by omega)) a4, ⟨a, b, c, d, (h 11 (by decide)).trans a5⟩, pI_fr a6 (fun k _ _ => h k (by omega)), cNet_fr (fun k _ h2 => h k h2) a7⟩
theorem RI_fr {q : jMq} (h : ∀ k, k = 34 ∨ (37 ≤ k ∧ k ≤ 46) → M2 k = M k) (hr : RI g M q m) : RI g M2 q m := by
  obtain ⟨a1, ⟨th, hf, wt, sz, wv, b1, b2, b3, b4, b5⟩, a3, k1, k2, k3, k4, k5, k6⟩ := hr
  refine ⟨(h 34 (by decide)).trans a1, ⟨th, hf, wt, sz, wv, (h 37 (by decide)).trans b1, (h 38 (by decide)).trans b2, (h 39 (by decide)).trans b3, (h 40 (by decide)).trans b4, (h 41 (by decide)).trans b5⟩, ?_, k1, ?_, ?_, ?_, ?_, ?_⟩
  · intro n t c1 c2 c3 c4 c5
    have := a3 n t c1 c2 c3 c4 c5
    unfold slvOK at this ⊢
    rw [h 39 (by decide), h 40 (by decide), h 41 (by decide)]
    exact this
  · rw [h 42 (by decide)]; exact k2
  · rw [h 43 (by decide)]; exact k3
  · rw [h 44 (by decide)]; exact k4
  · rw [h 45 (by decide)]; exact k5
  · rw [h 46 (by decide)]; exact k6
theorem RX_fr (h : ∀ k, 34 ≤ k → M2 k = M k) (hr : RX g M sn sT ni ng W B P m) : RX g M2 sn sT ni ng W B P m := by
  obtain ⟨q, a1, a2, a3, ⟨tp, a4, a4b⟩, ⟨nw, nb, a5, a6, a7⟩, ⟨wk, a8⟩, dp, a9⟩ := hr
  exact ⟨q, RI_fr (fun k hk => h k (by omega)) a1, (h 35 (by decide)).trans a2, (h 36 (by decide)).trans a3, ⟨tp, (h 47 (by decide)).trans a4, a4b⟩, ⟨nw, nb, (h 48 (by decide)).trans a5, (h 49 (by decide)).trans a6, a7⟩, ⟨wk, (h 50 (by decide)).trans a8⟩, dp, (h 51 (by decide)).trans a9⟩
/-- class: the slots are set -/
theorem CI_set (hc : CI g M sn sT ni ng W B P) : CI g (setM g 1 M sn2 sT2) sn2 sT2 ni ng W B P ∧ ∀ k, 34 ≤ k → setM g 1 M sn2 sT2 k = M k := by
  have h : ∀ k, k ≠ 1 → k ≠ 2 → setM g 1 M sn2 sT2 k = M k := fun k h1 h2 => by
    unfold setM
    rw [va_at_ne h2, va_at_ne h1]
  obtain ⟨a0, a1, a2, a3, a4, ⟨a, b, c, d, a5⟩, a6, a7⟩ := hc
  exact ⟨⟨(h 0 (by decide) (by decide)).trans a0, rfl, rfl, wsI_fr (fun k _ _ => h k (by omega) (by omega)) a3, lsI_kept (fun k _ _ => h k (by omega) (by omega)) a4, ⟨a, b, c, d, (h 11 (by decide) (by decide)).trans a5⟩, pI_fr a6 (fun k _ _ => h k (by omega) (by omega)), cNet_fr (fun k _ h2 => h k (by omega) (by omega)) a7⟩, fun k hk => h k (by omega) (by omega)⟩
theorem CI_gt (hc : CI g M sn sT ni ng W B P) (hg : gtI g M M2) : CI g M2 sn sT ni ng W B P ∧ ∀ k, 34 ≤ k → M2 k = M k := by
  obtain ⟨a0, a1, a2, a3, a4, ⟨a, b, c, d, a5⟩, a6, a7⟩ := hc
  obtain ⟨b1, b2, h⟩ := hg
  exact ⟨⟨(h 0 (by decide)).trans a0, (h 1 (by decide)).trans a1, (h 2 (by decide)).trans a2, b1, b2, ⟨a, b, c, d, (h 11 (by decide)).trans a5⟩, pI_fr a6 (fun k _ _ => h k (by omega)), cNet_fr (fun k _ h2 => h k (by omega)) a7⟩, fun k hk => h k (by omega)⟩
theorem CI_k (hc : CI g M sn sT ni ng W B P) (hk : kP M M2) : CI g M2 sn sT ni ng W B P ∧ ∀ k, 34 ≤ k → M2 k = M k := by
  obtain ⟨a0, a1, a2, a3, a4, _, a6, a7⟩ := hc
  obtain ⟨a, b, c, d, rfl⟩ := hk
  have h : ∀ k, k ≠ 11 → va_up M 11 (.inr (1, oKind a b c d)) k = M k := fun k hk => va_at_ne hk
  exact ⟨⟨a0, a1, a2, wsI_fr (fun k _ _ => h k (by omega)) a3, lsI_kept (fun k _ _ => h k (by omega)) a4, ⟨a, b, c, d, rfl⟩, pI_fr a6 (fun k _ _ => h k (by omega)), cNet_fr (fun k _ h2 => h k (by omega)) a7⟩, fun k hk => h k (by omega)⟩
theorem CI_f (hc : CI g M sn sT ni ng W B P) (hw : wsI g M2) (hp : pI g M2) (h : fFr M M2) : CI g M2 sn sT ni ng W B P ∧ ∀ k, 34 ≤ k → M2 k = M k := by
  obtain ⟨a0, a1, a2, a3, a4, ⟨a, b, c, d, a5⟩, a6, a7⟩ := hc
  exact ⟨⟨(h 0 (by decide) (by decide)).trans a0, (h 1 (by decide) (by decide)).trans a1, (h 2 (by decide) (by decide)).trans a2, hw, lsI_kept (fun k _ _ => h k (by omega) (by omega)) a4, ⟨a, b, c, d, (h 11 (by decide) (by decide)).trans a5⟩, hp, cNet_fr (fun k _ h2 => h k (by omega) (by omega)) a7⟩, fun k hk => h k (by omega) (by omega)⟩
theorem CI_n {ni2 ng2 : Nat} {W2 : Nat → Nat → Int} {B2 P2 : Nat → Int} (hc : CI g M sn sT ni ng W B P) (hn : cNet g M2 ni2 ng2 W2 B2 P2) (h : cFr M M2) : CI g M2 sn sT ni2 ng2 W2 B2 P2 ∧ ∀ k, 34 ≤ k → M2 k = M k := by
  obtain ⟨a0, a1, a2, a3, a4, ⟨a, b, c, d, a5⟩, a6, a7⟩ := hc
  exact ⟨⟨(h 0 (by decide)).trans a0, (h 1 (by decide)).trans a1, (h 2 (by decide)).trans a2, wsI_fr (fun k _ _ => h k (by omega)) a3, lsI_kept (fun k _ _ => h k (by omega)) a4, ⟨a, b, c, d, (h 11 (by decide)).trans a5⟩, pI_fr a6 (fun k _ _ => h k (by omega)), hn⟩, fun k hk => h k (by omega)⟩
theorem qN_of {q : jMq} (h : q.2.2.2.2.2.2.2 = (nI ni, nI ng)) : qN q ni ng = q := by
  unfold qN
  rw [← show q.2.2.2.2.2.2.2.1 = nI ni from congrArg Prod.fst h, ← show q.2.2.2.2.2.2.2.2 = nI ng from congrArg Prod.snd h]
/-- what a call of the reference leaves -/
def rO (g : jG) (M M2 : jMem) (sn sT : Nat → Nat) (ni ng : Nat) (W : Nat → Nat → Int) (B P : Nat → Int) (m : Nat) : Prop := (∃ m2, m2 ≤ m + 256 ∧ RX g M2 sn sT ni ng W B P m2) ∧ ∀ k, k < 34 → M2 k = M k
theorem RX_rP {q : jMq} (hr : rP g M M2 (qN q ni ng) m) (a2 : M 35 = (iA g 8 fun j => nI (sn j))) (a3 : M 36 = (lA g 8 fun j => lN (sT j))) (a4 : ∃ tp, M 47 = iA g 12 tp ∧ ∀ k, k < 12 → tp k = iI (P k)) (a5 : ∃ nw nb, M 48 = iA g 96 nw ∧ M 49 = iA g 8 nb ∧ nWB ng W B nw nb) (a6 : ∃ wk, M 50 = iA g 8 wk) (a7 : ∃ dp, M 51 = iA g 8 dp) : rO g M M2 sn sT ni ng W B P m := by
  obtain ⟨q2, m2, hm, ri, hq, h⟩ := hr
  have e := qN_of (ni := ni) (ng := ng) (q := q2) hq
  refine ⟨⟨m2, hm, q2, by rw [e]; exact ri, (h 35 (by decide)).trans a2, (h 36 (by decide)).trans a3, ?_, ?_, ?_, ?_⟩, fun k hk => h k (by omega)⟩
  · rw [h 47 (by decide)]; exact a4
  · rw [h 48 (by decide), h 49 (by decide)]; exact a5
  · rw [h 50 (by decide)]; exact a6
  · rw [h 51 (by decide)]; exact a7
theorem RX_rf (hr : RX g M sn sT ni ng W B P m) : rO g M M sn sT ni ng W B P m := ⟨⟨m, by omega, hr⟩, fun _ _ => rfl⟩
theorem RX_set (hr : RX g M sn sT ni ng W B P m) : rO g M (setM g 35 M sn2 sT2) sn2 sT2 ni ng W B P m := by
  have h : ∀ k, k ≠ 35 → k ≠ 36 → setM g 35 M sn2 sT2 k = M k := fun k h1 h2 => by
    unfold setM
    rw [va_at_ne h2, va_at_ne h1]
  obtain ⟨q, a1, a2, a3, a4, a5, a6, a7⟩ := hr
  exact ⟨⟨m, by omega, q, RI_fr (fun k hk => h k (by omega) (by omega)) a1, rfl, rfl, a4, a5, a6, a7⟩, fun k hk => h k (by omega) (by omega)⟩
theorem RX_50 {wk2 : Nat → Int32} (hr : RX g M sn sT ni ng W B P m) : rO g M (va_up M 50 (iA g 8 wk2)) sn sT ni ng W B P m := by
  obtain ⟨q, a1, a2, a3, a4, a5, a6, a7⟩ := hr
  exact ⟨⟨m, by omega, q, RI_fr (fun k hk => va_at_ne (by omega)) a1, a2, a3, a4, a5, ⟨wk2, rfl⟩, a7⟩, fun k hk => va_at_ne (by omega)⟩
theorem RX_51 {dp2 : Nat → Int32} (hr : RX g M sn sT ni ng W B P m) : rO g M (va_up M 51 (iA g 8 dp2)) sn sT ni ng W B P m := by
  obtain ⟨q, a1, a2, a3, a4, a5, a6, a7⟩ := hr
  exact ⟨⟨m, by omega, q, RI_fr (fun k hk => va_at_ne (by omega)) a1, a2, a3, a4, a5, a6, dp2, rfl⟩, fun k hk => va_at_ne (by omega)⟩
end ST
def SO (sn sT : Nat → Nat) (ni ng : Nat) (W : Nat → Nat → Int) (B P : Nat → Int) : Prop := slOK sn sT ∧ nOK ni ng W B P
section SOS
variable {sn sT : Nat → Nat} {ni ng : Nat} {W : Nat → Nat → Int} {B P : Nat → Int}
theorem sl_table (ok : slOK sn sT) (s n : Int32) (b : Int64) : slOK (sp_table sn sT s n b).2.1 (sp_table sn sT s n b).2.2 := by
  unfold sp_table
  split
  · exact ok
  split
  · exact ok
  split
  · exact ok
  rename_i h1 h2 h3
  have h2b : isTo 5 n = true := by simpa using h2
  obtain ⟨k, k1, k5, rfl⟩ := isTo_of (by decide) h2b
  have c1 := nI_clamp (show k < 2 ^ 31 by omega)
  rw [c1] at h3 ⊢
  have h4 : 0 ≤ b ∧ b ≤ lN (2 ^ 2 ^ k - 1) := by simpa using h3
  have h32 := pw32 k5
  have hpos : 0 < 2 ^ 2 ^ k := Nat.two_pow_pos _
  obtain ⟨t, ht, rfl⟩ := pk_lOf (x := b) (fun z => absurd h4.1 (Int64.not_le.mpr z))
  have h5 := (pk_lLE ht (by omega)).mp h4.2
  refine ok.up k1 k5 ?_
  have e : (lN t).toInt.toNat = t := by
    rw [lN_ti (by omega), if_pos ht]
    simp
  rw [e]
  omega
theorem sl_weigh (ok : slOK sn sT) (s n : Int32) (w : Int64) (b : Int32) : slOK (sp_weigh sn sT s n w b).2.1 (sp_weigh sn sT s n w b).2.2 := by
  unfold sp_weigh
  split
  · exact ok
  split
  · exact ok
  split
  · exact ok
  split
  · exact ok
  rename_i h1 h2 h3 h4
  have h2b : isTo 5 n = true := by simpa using h2
  obtain ⟨k, k1, k5, rfl⟩ := isTo_of (by decide) h2b
  have c1 := nI_clamp (show k < 2 ^ 31 by omega)
  rw [c1]
  exact ok.up k1 k5 (wT_lt _ _ _)
theorem sl_most (ok : slOK sn sT) (s a b c : Int32) : slOK (sp_most sn sT s a b c).2.1 (sp_most sn sT s a b c).2.2 := by
  unfold sp_most
  split
  · exact ok
  split
  · exact ok
  split
  · exact ok
  split
  · exact ok
  split
  · exact ok
  split
  · exact ok
  rename_i h1 h2 h3 h4 h5 h6
  obtain ⟨j, hj, rfl⟩ := isSl_of (s := a) (by simpa using h2)
  obtain ⟨j2, hj2, rfl⟩ := isSl_of (s := b) (by simpa using h3)
  obtain ⟨j3, hj3, rfl⟩ := isSl_of (s := c) (by simpa using h4)
  have c1 := nI_clamp (show j < 2 ^ 31 by omega)
  have c2 := nI_clamp (show j2 < 2 ^ 31 by omega)
  have c3 := nI_clamp (show j3 < 2 ^ 31 by omega)
  rw [c1, c2] at h5
  rw [c1, c3] at h6
  rw [c1, c2, c3]
  have b1 := ok j hj
  have b2 := ok j2 hj2
  have b3 := ok j3 hj3
  have e2 : sn j = sn j2 := by simpa using h5
  have e3 : sn j = sn j3 := by simpa using h6
  rw [← e2] at b2
  rw [← e3] at b3
  refine ok.up b1.1 b1.2.1 ?_
  unfold majT
  exact Nat.or_lt_two_pow (Nat.or_lt_two_pow (Nat.lt_of_le_of_lt Nat.and_le_left b1.2.2) (Nat.lt_of_le_of_lt Nat.and_le_left b2.2.2)) (Nat.lt_of_le_of_lt Nat.and_le_left b1.2.2)
theorem sl_turn (ok : slOK sn sT) (s a i : Int32) : slOK (sp_turn sn sT s a i).2.1 (sp_turn sn sT s a i).2.2 := by
  unfold sp_turn
  split
  · exact ok
  split
  · exact ok
  split
  · exact ok
  rename_i h1 h2 h3
  obtain ⟨j, hj, rfl⟩ := isSl_of (s := a) (by simpa using h2)
  have c1 := nI_clamp (show j < 2 ^ 31 by omega)
  rw [c1]
  have b1 := ok j hj
  exact ok.up b1.1 b1.2.1 (sp_turnT_lt b1.2.2 _)
theorem sl_hold (ok : slOK sn sT) (s a i : Int32) (is : Bool) : slOK (sp_hold sn sT s a i is).2.1 (sp_hold sn sT s a i is).2.2 := by
  unfold sp_hold
  split
  · exact ok
  split
  · exact ok
  split
  · exact ok
  split
  · exact ok
  rename_i h1 h2 h3 h4
  obtain ⟨j, hj, rfl⟩ := isSl_of (s := a) (by simpa using h2)
  have c1 := nI_clamp (show j < 2 ^ 31 by omega)
  rw [c1] at h4 ⊢
  have b1 := ok j hj
  exact ok.up (by omega) (by omega) (holdT_lt _ _ _ _)
theorem sl_tell (ok : slOK sn sT) (hn : nOK ni ng W B P) (s o : Int32) : slOK (sp_tell sn sT ni ng W B s o).2.1 (sp_tell sn sT ni ng W B s o).2.2 := by
  unfold sp_tell
  split
  · exact ok
  split
  · exact ok
  exact ok.up hn.1.1 (by have := hn.1.2.1; omega) (nTab_lt _ _)
end SOS
