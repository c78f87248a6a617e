section GL
variable {g : jG} {own : String} {cc : ByteArray} {nL : Nat} {p : Program} {e : Env} {R : Room} {s : State} {m : MethodId} {args : Array Value} {below : List Frame} {meth : Method} {c : Code} {A : Nat → Prop} {Q : State → Prop} {pc pn : Nat} {ls : List (Option Value)} {st : List Value} {ws : va_W} {k n : Nat}
theorem g_topi {a : Int32} (b : Int32) (h : a = b) (kk : GJ g nL p e R s m args below meth c A Q pc ls (.int b :: st) ws k n) : GJ g nL p e R s m args below meth c A Q pc ls (.int a :: st) ws k n := by
  rw [h]; exact kk
theorem g_iadd (E : gE g own cc nL p s m args c A) {a b : Int32} (hd : decode cc pc = .ok (.iadd, 1)) (hn : pc + 1 = pn) (kk : GJ g nL p e R s m args below meth c A Q pn ls (.int (a + b) :: st) ws k n) : GJ g nL p e R s m args below meth c A Q pc ls (.int b :: .int a :: st) ws k n := by
  intro H locs lr hP hD hS hL
  subst hn
  exact lv_iadd E.1 E.2.1 hd (kk H locs lr hP hD hS hL)
theorem g_isub (E : gE g own cc nL p s m args c A) {a b : Int32} (hd : decode cc pc = .ok (.isub, 1)) (hn : pc + 1 = pn) (kk : GJ g nL p e R s m args below meth c A Q pn ls (.int (a - b) :: st) ws k n) : GJ g nL p e R s m args below meth c A Q pc ls (.int b :: .int a :: st) ws k n := by
  intro H locs lr hP hD hS hL
  subst hn
  exact lv_isub E.1 E.2.1 hd (kk H locs lr hP hD hS hL)
theorem g_iand (E : gE g own cc nL p s m args c A) {a b : Int32} (hd : decode cc pc = .ok (.iand, 1)) (hn : pc + 1 = pn) (kk : GJ g nL p e R s m args below meth c A Q pn ls (.int (a &&& b) :: st) ws k n) : GJ g nL p e R s m args below meth c A Q pc ls (.int b :: .int a :: st) ws k n := by
  intro H locs lr hP hD hS hL
  subst hn
  exact lv_iand E.1 E.2.1 hd (kk H locs lr hP hD hS hL)
theorem g_i2l (E : gE g own cc nL p s m args c A) {a : Int32} (hd : decode cc pc = .ok (.i2l, 1)) (hn : pc + 1 = pn) (kk : GJ g nL p e R s m args below meth c A Q pn ls (.long a.toInt64 :: st) ws k n) : GJ g nL p e R s m args below meth c A Q pc ls (.int a :: st) ws k n := by
  intro H locs lr hP hD hS hL
  subst hn
  exact lv_i2l E.1 E.2.1 hd rfl (kk H locs lr hP hD hS hL)
theorem g_lshl (E : gE g own cc nL p s m args c A) {a : Int64} {b : Int32} (hd : decode cc pc = .ok (.lshl, 1)) (hn : pc + 1 = pn) (kk : GJ g nL p e R s m args below meth c A Q pn ls (.long (a <<< (b.toInt64 &&& 63)) :: st) ws k n) : GJ g nL p e R s m args below meth c A Q pc ls (.int b :: .long a :: st) ws k n := by
  intro H locs lr hP hD hS hL
  subst hn
  exact lv_lshl E.1 E.2.1 hd rfl (kk H locs lr hP hD hS hL)
theorem g_land (E : gE g own cc nL p s m args c A) {a b : Int64} (hd : decode cc pc = .ok (.land, 1)) (hn : pc + 1 = pn) (kk : GJ g nL p e R s m args below meth c A Q pn ls (.long (a &&& b) :: st) ws k n) : GJ g nL p e R s m args below meth c A Q pc ls (.long b :: .long a :: st) ws k n := by
  intro H locs lr hP hD hS hL
  subst hn
  exact lv_land E.1 E.2.1 hd (kk H locs lr hP hD hS hL)
theorem g_lor (E : gE g own cc nL p s m args c A) {a b : Int64} (hd : decode cc pc = .ok (.lor, 1)) (hn : pc + 1 = pn) (kk : GJ g nL p e R s m args below meth c A Q pn ls (.long (a ||| b) :: st) ws k n) : GJ g nL p e R s m args below meth c A Q pc ls (.long b :: .long a :: st) ws k n := by
  intro H locs lr hP hD hS hL
  subst hn
  exact lv_lor E.1 E.2.1 hd (kk H locs lr hP hD hS hL)
theorem g_icmp_gt (E : gE g own cc nL p s m args c A) {a b : Int32} {off : Int} (t : Nat) (hd : decode cc pc = .ok (.if_icmp .gt off, 3)) (hn : pc + 3 = pn) (ht : (pc : Int) + off = (t : Int)) (kt : b < a → GJ g nL p e R s m args below meth c A Q t ls st ws k n) (kf : ¬ b < a → GJ g nL p e R s m args below meth c A Q pn ls st ws k n) : GJ g nL p e R s m args below meth c A Q pc ls (.int b :: .int a :: st) ws k n := by
  intro H locs lr hP hD hS hL
  subst hn
  exact lv_icmp_gt E.1 E.2.1 hd ht (fun h => kt h H locs lr hP hD hS hL) (fun h => kf h H locs lr hP hD hS hL)
/-- two ints that are one -/
theorem g_same (E : gE g own cc nL p s m args c A) {a : Int32} {off : Int} (t : Nat) (hd : decode cc pc = .ok (.if_icmp .eq off, 3)) (ht : (pc : Int) + off = (t : Int)) (kt : GJ g nL p e R s m args below meth c A Q t ls st ws k n) : GJ g nL p e R s m args below meth c A Q pc ls (.int a :: .int a :: st) ws k n := by
  intro H locs lr hP hD hS hL
  exact lv_icmp_eq E.1 E.2.1 hd ht (fun _ => kt H locs lr hP hD hS hL) (fun h => absurd rfl h)
theorem g_sameL (E : gE g own cc nL p s m args c A) {a : Int64} {off : Int} (t : Nat) (hd1 : decode cc pc = .ok (.lcmp, 1)) (hn : pc + 1 = pn) (hd : decode cc pn = .ok (.ifCond .eq off, 3)) (ht : (pn : Int) + off = (t : Int)) (kt : GJ g nL p e R s m args below meth c A Q t ls st ws k n) : GJ g nL p e R s m args below meth c A Q pc ls (.long a :: .long a :: st) ws k n := by
  intro H locs lr hP hD hS hL
  subst hn
  refine W.lcmp E.1 E.2.1 hd1 ?_
  have e1 : lg_cmp a a = 0 := by
    unfold lg_cmp
    rw [if_neg (by simp), if_pos rfl]
  rw [e1]
  exact lv_if_eq E.1 E.2.1 hd ht (fun _ => kt H locs lr hP hD hS hL) (fun h => absurd rfl h)
/-- x != 0 -/
theorem g_bool (E : gE g own cc nL p s m args c A) {x : Int32} {o1 o2 : Int} {p1 p2 p3 p4 : Nat} (hd : decode cc pc = .ok (.ifCond .eq o1, 3)) (h1 : pc + 3 = p1) (ht : (pc : Int) + o1 = (p3 : Int)) (hd1 : decode cc p1 = .ok (.iconst 1, 1)) (h2 : p1 + 1 = p2) (hd2 : decode cc p2 = .ok (.goto o2, 3)) (ht2 : (p2 : Int) + o2 = (p4 : Int)) (hd3 : decode cc p3 = .ok (.iconst 0, 1)) (h4 : p3 + 1 = p4) (kk : GJ g nL p e R s m args below meth c A Q p4 ls (.int (jB (!decide (x = 0))) :: st) ws k n) : GJ g nL p e R s m args below meth c A Q pc ls (.int x :: st) ws k n := by
  intro H locs lr hP hD hS hL
  subst h1
  subst h2
  subst h4
  refine lv_if_eq E.1 E.2.1 hd ht (fun h => ?_) (fun h => ?_)
  · rw [decide_eq_true h] at kk
    exact lv_iconst (v := 0) E.1 E.2.1 hd3 (by decide) (kk H locs lr hP hD hS hL)
  · rw [decide_eq_false h] at kk
    exact lv_iconst (v := 1) E.1 E.2.1 hd1 (by decide) (lv_goto E.1 E.2.1 hd2 ht2 (kk H locs lr hP hD hS hL))
theorem g_sld (E : gE g own cc nL p s m args c A) {b L j : Nat} {xs : Nat → Int32} (hX : va_X b L xs s s.heap) (hbl : b < s.heap.size) (hbA : ¬ A b) (hL2 : L < 2 ^ 31) (hj : j < L) (hd : decode cc pc = .ok (.iaload, 1)) (hn : pc + 1 = pn) (kk : GJ g nL p e R s m args below meth c A Q pn ls (.int (xs j) :: st) ws k n) : GJ g nL p e R s m args below meth c A Q pc ls (.int (nI j) :: .ref b :: st) ws k n := by
  intro H locs lr hP hD hS hL
  subst hn
  have h := kk H locs lr hP hD hS hL
  refine va_sld E.1 E.2.1 hX hbl hbA hS (vp_in_n hL2 hj) hd ?_
  rw [nI_clamp (show j < 2 ^ 31 by omega)]
  exact h
theorem g_slen (E : gE g own cc nL p s m args c A) {b L : Nat} {xs : Nat → Int32} (hX : va_X b L xs s s.heap) (hbl : b < s.heap.size) (hbA : ¬ A b) (hd : decode cc pc = .ok (.arraylength, 1)) (hn : pc + 1 = pn) (kk : GJ g nL p e R s m args below meth c A Q pn ls (.int (nI L) :: st) ws k n) : GJ g nL p e R s m args below meth c A Q pc ls (.ref b :: st) ws k n := by
  intro H locs lr hP hD hS hL
  subst hn
  exact va_slen E.1 E.2.1 hX hbl hbA hS hd (kk H locs lr hP hD hS hL)
theorem g_conV {y2 : jY} {d2 idx nA : Nat} (As : List Value) {M : jMem} {K2 : Option Value → jMem → Prop} {kc ci : Nat} {q : vw_C} {fs : List Value} (E : gE g own cc nL p s m args c A) (hJ : jS g A s) (hC : Con g y2 d2 (.ref (jA g kc) :: As) M K2) (hd : decode cc pc = .ok (.invokevirtual idx, 3)) (hn : pc + 3 = pn) (hcal : jCalV y2 nA) (hl : Cond.methodLink own idx y2.1 ∈ jTB) (hrm : d2 + 1 ≤ R.frames ∧ 8 + (y2.2.2.1 + 11) + 40 * d2 ≤ R.locals) (hnA : As.length = nA) (hkc : kc < 52) (hM : M kc = .inr (ci, fs)) (hci : vwCl[ci]? = some q) (hq : q.1 = y2.1.cls) {st0 : List Value} (hst : st0 = As.reverse ++ .ref (jA g kc) :: st) (hW : (st.map fun v => v.category).sum ≤ 8) (hf : k ≤ R.cells ∧ n ≤ R.slots)
    (kk : ∀ (v : Option Value) (M2 : jMem), K2 v M2 → GJ g nL p e R s m args below meth c A Q pn ls (v.toList ++ st) (jW g M2) k n) : GJ g nL p e R s m args below meth c A Q pc ls st0 (jW g M) k n := by
  intro H locs lr hP hD hS hL
  subst hn
  obtain ⟨hx, hb, hml, hown, hts, hK, hN, hA⟩ := id E
  have hF := j_free hD hS hA
  have hrc := va_recv hK hP hci (q0 := kc) (a := jA g kc) (fs := fs) (by rw [jW_get hkc, hM])
  rw [hq] at hrc
  refine j_goon (va_runV (C := y2.1.cls) (As := As) (rest := st) (n := nA) (g := F0 m pc lr st0) ⟨hx, hb, hml, hown, hts⟩ (hC H.size) ⟨callB_of nA hts (n_good y2 hcal.1) rfl rfl rfl (hts _ hcal.2.2.1) (hts _ hl) hcal.2.2.2.1 hrm, hts _ hcal.2.1.1, hts _ hcal.2.1.2⟩ ⟨j_blind, hrc, fun U hU hW => ⟨rfl, by rw [hU], by rw [hU]; exact hP, va_K.moved hW.alike hK, hD.weaken (fun _ _ _ _ => trivial), jS_moved hJ hS hF hU hW.alike⟩⟩ rfl hnA hL.1 hst (lv_room hW) hd hf) hS hF ?_
  intro v M2 H1 locs1 hk hP1 hD1 hS1
  exact kk v M2 hk H1 locs1 lr hP1 hD1 hS1 hL
end GL
section RN
variable {g : jG} {M M2 : jMem} {sn sT sn2 sT2 : Nat → Nat} {ni ng : Nat} {W : Nat → Nat → Int} {B P : Nat → Int} {m : Nat}
theorem RX_tell {wk2 : Nat → Int32} (hr : RX g M sn sT ni ng W B P m) : rO g M (setM g 35 (va_up M 50 (iA g 8 wk2)) sn2 sT2) sn2 sT2 ni ng W B P m := by
  have h : ∀ k, k ≠ 35 → k ≠ 36 → k ≠ 50 → setM g 35 (va_up M 50 (iA g 8 wk2)) sn2 sT2 k = M k := fun k h1 h2 h3 => by
    unfold setM
    rw [va_at_ne h2, va_at_ne h1, va_at_ne h3]
  obtain ⟨q, a1, a2, a3, a4, a5, a6, a7⟩ := hr
  exact ⟨⟨m, by omega, q, RI_fr (fun k hk => h k (by omega) (by omega) (by omega)) a1, rfl, rfl, a4, a5, ⟨wk2, rfl⟩, a7⟩, fun k hk => h k (by omega) (by omega) (by omega)⟩
theorem RI_q {q : jMq} {ni2 ng2 : Nat} (ri : RI g M (qN q ni ng) m) (h34 : M2 34 = .inr (7, oMod g (qN q ni2 ng2))) (h : ∀ k, 37 ≤ k → k ≤ 46 → M2 k = M k) : RI g M2 (qN q ni2 ng2) m := by
  obtain ⟨a1, ⟨th, hf, wt, sz, wv, b1, b2, b3, b4, b5⟩, a3, k1, k2, k3, k4, k5, k6⟩ := ri
  refine ⟨h34, ⟨th, hf, wt, sz, wv, (h 37 (by decide) (by decide)).trans b1, (h 38 (by decide) (by decide)).trans b2, (h 39 (by decide) (by decide)).trans b3, (h 40 (by decide) (by decide)).trans b4, (h 41 (by decide) (by decide)).trans b5⟩, ?_, k1, ?_, ?_, ?_, ?_, ?_⟩
  · intro n t c1 c2 c3 c4 c5
    have := a3 n t c1 c2 c3 c4 c5
    unfold slvOK at this ⊢
    rw [h 39 (by decide) (by decide), h 40 (by decide) (by decide), h 41 (by decide) (by decide)]
    exact this
  · rw [h 42 (by decide) (by decide)]; exact k2
  · rw [h 43 (by decide) (by decide)]; exact k3
  · rw [h 44 (by decide) (by decide)]; exact k4
  · rw [h 45 (by decide) (by decide)]; exact k5
  · rw [h 46 (by decide) (by decide)]; exact k6
theorem RX_net {q : jMq} {n2 : Nat} {tp2 : Nat → Int32} (ri : RI g M (qN q ni ng) m) (a2 : M 35 = (iA g 8 fun j => nI (sn j))) (a3 : M 36 = (lA g 8 fun j => lN (sT j))) (a5 : ∃ nw nb, M 48 = iA g 96 nw ∧ M 49 = iA g 8 nb ∧ nWB ng W B nw nb) (a6 : ∃ wk, M 50 = iA g 8 wk) (a7 : ∃ dp, M 51 = iA g 8 dp) (ht : ∀ k, k < 12 → tp2 k = nI 0) : rO g M (va_up (va_up M 34 (.inr (7, oMod g (qN q n2 0)))) 47 (iA g 12 tp2)) sn sT n2 0 W B (fun _ => 0) m := by
  obtain ⟨nw, nb, c1, c2, c3⟩ := a5
  refine ⟨⟨m, by omega, q, RI_q ri rfl (fun k h1 h2 => ?_), a2, a3, ⟨tp2, rfl, fun k hk => (ht k hk).trans rfl⟩, ⟨nw, nb, c1, c2, fun o ho => absurd ho (Nat.not_lt_zero o), fun o ho => absurd ho (Nat.not_lt_zero o)⟩, a6, a7⟩, fun k hk => ?_⟩
  · rw [va_at_ne (by omega), va_at_ne (by omega)]
  · rw [va_at_ne (by omega), va_at_ne (by omega)]
theorem RX_put {q : jMq} {o : Nat} {w : Int32} {tp : Nat → Int32} (ri : RI g M (qN q ni ng) m) (a2 : M 35 = (iA g 8 fun j => nI (sn j))) (a3 : M 36 = (lA g 8 fun j => lN (sT j))) (ht : ∀ k, k < 12 → tp k = iI (P k)) (a5 : ∃ nw nb, M 48 = iA g 96 nw ∧ M 49 = iA g 8 nb ∧ nWB ng W B nw nb) (a6 : ∃ wk, M 50 = iA g 8 wk) (a7 : ∃ dp, M 51 = iA g 8 dp) : rO g M (va_up M 47 (iA g 12 (upd tp o w))) sn sT ni ng W B (fun j => if j = o then w.toInt else P j) m := by
  refine ⟨⟨m, by omega, q, RI_fr (fun k h1 => va_at_ne (by omega)) ri, a2, a3, ⟨upd tp o w, rfl, fun k hk => ?_⟩, a5, a6, a7⟩, fun k hk => va_at_ne (by omega)⟩
  unfold upd
  dsimp only
  by_cases z : k = o
  · rw [if_pos z, if_pos z]
    exact (fb_asI w).symm
  · rw [if_neg z, if_neg z]
    exact ht k hk
theorem RX_add {q : jMq} {b : Int32} {tp tp2 nw nw2 nb : Nat → Int32} (ri : RI g M (qN q ni ng) m) (a2 : M 35 = (iA g 8 fun j => nI (sn j))) (a3 : M 36 = (lA g 8 fun j => lN (sT j))) (ht : ∀ k, k < 12 → tp k = iI (P k)) (hP : ∀ k, k < 12 → -9 ≤ P k ∧ P k ≤ 9) (hb : -99 ≤ b.toInt ∧ b.toInt ≤ 99) (hwb : nWB ng W B nw nb) (a6 : ∃ wk, M 50 = iA g 8 wk) (a7 : ∃ dp, M 51 = iA g 8 dp) (t2 : ∀ k, k < 12 → tp2 k = nI 0) (n1 : ∀ k, k < 12 → nw2 (12 * ng + k) = tp k) (n2 : ∀ k, (k < 12 * ng ∨ 12 * ng + 12 ≤ k) → nw2 k = nw k) : rO g M (va_up (va_up (va_up (va_up M 47 (iA g 12 tp2)) 48 (iA g 96 nw2)) 49 (iA g 8 (upd nb ng b))) 34 (.inr (7, oMod g (qN q ni (ng + 1))))) sn sT ni (ng + 1) (fun o => if o = ng then P else W o) (fun o => if o = ng then b.toInt else B o) (fun _ => 0) m := by
  refine ⟨⟨m, by omega, q, RI_q ri rfl (fun k h1 h2 => ?_), a2, a3, ⟨tp2, rfl, fun k hk => (t2 k hk).trans rfl⟩, ⟨nw2, upd nb ng b, rfl, rfl, fun o ho k hk => ?_, fun o ho => ?_⟩, a6, a7⟩, fun k hk => ?_⟩
  · rw [va_at_ne (by omega), va_at_ne (by omega), va_at_ne (by omega), va_at_ne (by omega)]
  · dsimp only
    by_cases z : o = ng
    · rw [if_pos z, z]
      exact ⟨(n1 k hk).trans (ht k hk), hP k hk⟩
    · rw [if_neg z, n2 _ (Or.inl (by omega))]
      exact hwb.1 o (by omega) k hk
  · unfold upd
    dsimp only
    by_cases z : o = ng
    · rw [if_pos z, if_pos z]
      exact ⟨(fb_asI b).symm, hb⟩
    · rw [if_neg z, if_neg z]
      exact hwb.2 o (by omega)
  · rw [va_at_ne (by omega), va_at_ne (by omega), va_at_ne (by omega), va_at_ne (by omega)]
end RN
