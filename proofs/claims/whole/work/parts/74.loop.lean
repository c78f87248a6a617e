theorem nI_ex (x : Int32) : ∃ t : Nat, x = nI t := ⟨x.toBitVec.toNat, by
  apply Int32.toBitVec_inj.mp
  show x.toBitVec = BitVec.ofNat 32 x.toBitVec.toNat
  simp⟩
theorem g_end {g : jG} {p : Program} {e : Env} {s : State} {m : MethodId} {below : List Frame} {meth : Method} {c : Code} {b k n : Nat} {ls : List (Option Value)} {ws : va_W} (E : gE g RL code 4 p s m #[.ref b] c (fun q => s.heap.size ≤ q)) (hr : meth.sig.returnType = ret) (hlk : meth.locks = false) (hk : k ≤ 600000) (hn : n ≤ 7302250) : GJ g 4 p e room_1 s m #[.ref b] below meth c (fun q => s.heap.size ≤ q) (lw_Z below #[Value.ref b] s) 1158 ls [] ws k n := by
  intro H locs lr hP hD hS hL
  refine lv_iconst (v := 1) E.1 E.2.1 dL_law_1158 (by decide) ?_
  refine va_forget (fun q hq => hS.2.2 q hq) ?_
  refine W.widen (k := 600000) (n := 7302250) hk hn ?_
  exact lw_ret E.1 E.2.1 hr hlk dL_law_1159
theorem g_tabIn {g : jG} {p : Program} {e : Env} {R : Room} {s : State} {m : MethodId} {args : Array Value} {below : List Frame} {meth : Method} {c : Code} {A : Nat → Prop} {Q : State → Prop} {own : String} {cc : ByteArray} {nL pc k n len : Nat} {ls : List (Option Value)} {st : List Value} {ws : va_W} {dflt lo hi : Int} {offs : Array Int} {x : Int32} {off : Int} (t : Nat) (E : gE g own cc nL p s m args c A) (hd : decode cc pc = .ok (.tableswitch dflt lo hi offs, len)) (h1 : ¬ x.toInt < lo) (h2 : ¬ hi < x.toInt) (h3 : offs[(x.toInt - lo).toNat]? = some off) (h4 : (pc : Int) + off = (t : Int)) (kk : GJ g nL p e R s m args below meth c A Q t ls st ws k n) : GJ g nL p e R s m args below meth c A Q pc ls (.int x :: st) ws k n := by
  intro H locs lr hP hD hS hL
  exact lv_tableIn E.1 E.2.1 hd h1 h2 h3 h4 (kk H locs lr hP hD hS hL)
theorem g_tabOut {g : jG} {p : Program} {e : Env} {R : Room} {s : State} {m : MethodId} {args : Array Value} {below : List Frame} {meth : Method} {c : Code} {A : Nat → Prop} {Q : State → Prop} {own : String} {cc : ByteArray} {nL pc k n len : Nat} {ls : List (Option Value)} {st : List Value} {ws : va_W} {dflt lo hi : Int} {offs : Array Int} {x : Int32} (t : Nat) (E : gE g own cc nL p s m args c A) (hd : decode cc pc = .ok (.tableswitch dflt lo hi offs, len)) (h1 : x.toInt < lo ∨ hi < x.toInt) (h4 : (pc : Int) + dflt = (t : Int)) (kk : GJ g nL p e R s m args below meth c A Q t ls st ws k n) : GJ g nL p e R s m args below meth c A Q pc ls (.int x :: st) ws k n := by
  intro H locs lr hP hD hS hL
  exact lv_tableOut E.1 E.2.1 hd h1 h4 (kk H locs lr hP hD hS hL)
set_option maxRecDepth 100000 in
theorem law_loop {g : jG} {p : Program} {e : Env} {s : State} {m : MethodId} {below : List Frame} {meth : Method} {c : Code} {b L k n : Nat} {xs : Nat → Int32} (E : gE g RL code 4 p s m #[.ref b] c (fun q => s.heap.size ≤ q)) (hJ : jS g (fun q => s.heap.size ≤ q) s) (hX : va_X b L xs s s.heap) (hbl : b < s.heap.size) (hr : meth.sig.returnType = ret) (hlk : meth.locks = false) (hL : L ≤ 3072) (hk : k ≤ 600000) (hn : n ≤ 7302250) : ∀ cc, cc ≤ L / 6 + 1 → ∀ (M : jMem) (sn sT : Nat → Nat) (ni ng : Nat) (W : Nat → Nat → Int) (B P : Nat → Int) (mm : Nat), CI g M sn sT ni ng W B P → RX g M sn sT ni ng W B P mm → SO sn sT ni ng W B P → mm ≤ 256 * cc → GJ g 4 p e room_1 s m #[.ref b] below meth c (fun q => s.heap.size ≤ q) (lw_Z below #[Value.ref b] s) 18 [some (.ref b), some (.ref (jA g 0)), some (.ref (jA g 34)), some (.int (nI (6 * cc)))] [] (jW g M) k n := by
  have hbA : ¬ (fun q : Nat => s.heap.size ≤ q) b := Nat.not_le.mpr hbl
  have hf : k ≤ room_1.cells ∧ n ≤ room_1.slots := ⟨hk, hn⟩
  have head : ∀ (cc : Nat) (M : jMem), 6 * cc < 2 ^ 31 → (6 * cc + 6 ≤ L → GJ g 4 p e room_1 s m #[.ref b] below meth c (fun q => s.heap.size ≤ q) (lw_Z below #[Value.ref b] s) 27 [some (.ref b), some (.ref (jA g 0)), some (.ref (jA g 34)), some (.int (nI (6 * cc)))] [] (jW g M) k n) → GJ g 4 p e room_1 s m #[.ref b] below meth c (fun q => s.heap.size ≤ q) (lw_Z below #[Value.ref b] s) 18 [some (.ref b), some (.ref (jA g 0)), some (.ref (jA g 34)), some (.int (nI (6 * cc)))] [] (jW g M) k n := by
    intro cc M h31 hgo
    refine g_iload_n E (pn := 19) dL_law_18 rfl rfl ?_
    refine g_aload_n E (pn := 20) dL_law_19 rfl rfl ?_
    refine g_slen E hX hbl hbA (pn := 21) dL_law_20 rfl ?_
    refine g_bipush E (pn := 23) (nI 6) dL_law_21 rfl (by decide) ?_
    refine g_isub E (pn := 24) dL_law_23 rfl ?_
    have e1 : nI L - nI 6 = iI ((L : Int) - 6) := by
      rw [← iI_nat, ← iI_nat, iI_sub]
      rfl
    have e2 : nI (6 * cc) = iI ((6 * cc : Nat) : Int) := (iI_nat _).symm
    refine g_icmp_gt E (pn := 27) 1158 dL_law_24 rfl (by decide) (fun h => ?_) (fun h => ?_)
    · exact g_end E hr hlk hk hn
    · rw [e1, e2, iI_lt (by omega) (by omega)] at h
      exact hgo (by omega)
  refine j_for ?_ ?_
  · intro M sn sT ni ng W B P mm hc hr1 ho hm
    exact head _ M (by omega) (fun h => by omega)
  · intro cc hcc ih M sn sT ni ng W B P mm hc hr1 ho hm
    refine head cc M (by omega) (fun h6 => ?_)
    have kc : lCont g p e s m below meth c (fun q => s.heap.size ≤ q) (lw_Z below #[Value.ref b] s) b cc k n := by
      intro M2 sn2 sT2 ni2 ng2 W2 B2 P2 m2 hc2 hr2 ho2 hm2
      refine g_iinc E (pn := 1155) (i := 3) (v := nI (6 * (cc + 1))) dL_law_1152 rfl (Nat.le_of_ble_eq_true rfl) rfl rfl (show nI (6 * cc) + nI 6 = _ by rw [nI_add]; rfl) ?_
      refine g_goto E 18 dL_law_1155 (by decide) ?_
      exact ih M2 sn2 sT2 ni2 ng2 W2 B2 P2 m2 hc2 hr2 ho2 hm2
    refine g_aload_n E (pn := 28) dL_law_27 rfl rfl ?_
    refine g_iload_n E (pn := 29) dL_law_28 rfl rfl ?_
    refine g_sld E hX hbl hbA (by omega) (show 6 * cc < L by omega) (pn := 30) dL_law_29 rfl ?_
    refine g_bipush E (pn := 32) (nI 31) dL_law_30 rfl (by decide) ?_
    refine g_iand E (pn := 33) dL_law_32 rfl ?_
    obtain ⟨t, et⟩ := nI_ex (xs (6 * cc))
    refine g_topi (nI (t &&& 31)) (by rw [et, fa_and]) ?_
    have hu : t &&& 31 < 32 := Nat.lt_of_le_of_lt Nat.and_le_right (by decide)
    generalize t &&& 31 = u at hu
    rcases Nat.lt_or_ge u 29 with h29 | h29
    · rcases (show u = 0 ∨ u = 1 ∨ u = 2 ∨ u = 3 ∨ u = 4 ∨ u = 5 ∨ u = 6 ∨ u = 7 ∨ u = 8 ∨ u = 9 ∨ u = 10 ∨ u = 11 ∨ u = 12 ∨ u = 13 ∨ u = 14 ∨ u = 15 ∨ u = 16 ∨ u = 17 ∨ u = 18 ∨ u = 19 ∨ u = 20 ∨ u = 21 ∨ u = 22 ∨ u = 23 ∨ u = 24 ∨ u = 25 ∨ u = 26 ∨ u = 27 ∨ u = 28 by omega) with z | z | z | z | z | z | z | z | z | z | z | z | z | z | z | z | z | z | z | z | z | z | z | z | z | z | z | z | z <;> subst z
      · exact g_tabIn 164 E dL_law_33 (by decide) (by decide) (by rfl) (by decide) (law_0 E hJ hX hbl hbA hL h6 hf kc hc hr1 ho hm)
      · exact g_tabIn 237 E dL_law_33 (by decide) (by decide) (by rfl) (by decide) (law_1 E hJ hX hbl hbA hL h6 hf kc hc hr1 ho hm)
      · exact g_tabIn 321 E dL_law_33 (by decide) (by decide) (by rfl) (by decide) (law_2 E hJ hX hbl hbA hL h6 hf kc hc hr1 ho hm)
      · exact g_tabIn 345 E dL_law_33 (by decide) (by decide) (by rfl) (by decide) (law_3 E hJ hX hbl hbA hL h6 hf kc hc hr1 ho hm)
      · exact g_tabIn 368 E dL_law_33 (by decide) (by decide) (by rfl) (by decide) (law_4 E hJ hX hbl hbA hL h6 hf kc hc hr1 ho hm)
      · exact g_tabIn 421 E dL_law_33 (by decide) (by decide) (by rfl) (by decide) (law_5 E hJ hX hbl hbA hL h6 hf kc hc hr1 ho hm)
      · exact g_tabIn 464 E dL_law_33 (by decide) (by decide) (by rfl) (by decide) (law_6 E hJ hX hbl hbA hL h6 hf kc hc hr1 ho hm)
      · exact g_tabIn 533 E dL_law_33 (by decide) (by decide) (by rfl) (by decide) (law_7 E hJ hX hbl hbA hL h6 hf kc hc hr1 ho hm)
      · exact g_tabIn 566 E dL_law_33 (by decide) (by decide) (by rfl) (by decide) (law_8 E hJ hX hbl hbA hL h6 hf kc hc hr1 ho hm)
      · exact g_tabIn 599 E dL_law_33 (by decide) (by decide) (by rfl) (by decide) (law_9 E hJ hX hbl hbA hL h6 hf kc hc hr1 ho hm)
      · exact g_tabIn 622 E dL_law_33 (by decide) (by decide) (by rfl) (by decide) (law_10 E hJ hX hbl hbA hL h6 hf kc hc hr1 ho hm)
      · exact g_tabIn 655 E dL_law_33 (by decide) (by decide) (by rfl) (by decide) (law_11 E hJ hX hbl hbA hL h6 hf kc hc hr1 ho hm)
      · exact g_tabIn 678 E dL_law_33 (by decide) (by decide) (by rfl) (by decide) (law_12 E hJ hX hbl hbA hL h6 hf kc hc hr1 ho hm)
      · exact g_tabIn 701 E dL_law_33 (by decide) (by decide) (by rfl) (by decide) (law_13 E hJ hX hbl hbA hL h6 hf kc hc hr1 ho hm)
      · exact g_tabIn 734 E dL_law_33 (by decide) (by decide) (by rfl) (by decide) (law_14 E hJ hX hbl hbA hL h6 hf kc hc hr1 ho hm)
      · exact g_tabIn 757 E dL_law_33 (by decide) (by decide) (by rfl) (by decide) (law_15 E hJ hX hbl hbA hL h6 hf kc hc hr1 ho hm)
      · exact g_tabIn 781 E dL_law_33 (by decide) (by decide) (by rfl) (by decide) (law_16 E hJ hX hbl hbA hL h6 hf kc hc hr1 ho hm)
      · exact g_tabIn 804 E dL_law_33 (by decide) (by decide) (by rfl) (by decide) (law_17 E hJ hX hbl hbA hL h6 hf kc hc hr1 ho hm)
      · exact g_tabIn 827 E dL_law_33 (by decide) (by decide) (by rfl) (by decide) (law_18 E hJ hX hbl hbA hL h6 hf kc hc hr1 ho hm)
      · exact g_tabIn 876 E dL_law_33 (by decide) (by decide) (by rfl) (by decide) (law_19 E hJ hX hbl hbA hL h6 hf kc hc hr1 ho hm)
      · exact g_tabIn 899 E dL_law_33 (by decide) (by decide) (by rfl) (by decide) (law_20 E hJ hX hbl hbA hL h6 hf kc hc hr1 ho hm)
      · exact g_tabIn 922 E dL_law_33 (by decide) (by decide) (by rfl) (by decide) (law_21 E hJ hX hbl hbA hL h6 hf kc hc hr1 ho hm)
      · exact g_tabIn 945 E dL_law_33 (by decide) (by decide) (by rfl) (by decide) (law_22 E hJ hX hbl hbA hL h6 hf kc hc hr1 ho hm)
      · exact g_tabIn 978 E dL_law_33 (by decide) (by decide) (by rfl) (by decide) (law_23 E hJ hX hbl hbA hL h6 hf kc hc hr1 ho hm)
      · exact g_tabIn 1001 E dL_law_33 (by decide) (by decide) (by rfl) (by decide) (law_24 E hJ hX hbl hbA hL h6 hf kc hc hr1 ho hm)
      · exact g_tabIn 1034 E dL_law_33 (by decide) (by decide) (by rfl) (by decide) (law_25 E hJ hX hbl hbA hL h6 hf kc hc hr1 ho hm)
      · exact g_tabIn 1057 E dL_law_33 (by decide) (by decide) (by rfl) (by decide) (law_26 E hJ hX hbl hbA hL h6 hf kc hc hr1 ho hm)
      · exact g_tabIn 1080 E dL_law_33 (by decide) (by decide) (by rfl) (by decide) (law_27 E hJ hX hbl hbA hL h6 hf kc hc hr1 ho hm)
      · exact g_tabIn 1129 E dL_law_33 (by decide) (by decide) (by rfl) (by decide) (law_28 E hJ hX hbl hbA hL h6 hf kc hc hr1 ho hm)
    · refine g_tabOut 1152 E dL_law_33 (Or.inr ?_) (by decide) (kc M sn sT ni ng W B P mm hc hr1 ho (by omega))
      rw [nI_toInt (by omega)]
      omega
