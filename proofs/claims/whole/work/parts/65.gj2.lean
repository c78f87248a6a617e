section GJ2
variable {g : jG} {own : String} {cc : ByteArray} {nL : Nat} {p : Program} {e : Env} {R : Room} {s : State} {m : MethodId} {args : Array Value} {below : List Frame} {meth : Method} {c : Code} {A : Nat → Prop} {Q : State → Prop} {pc pn : Nat} {ls : List (Option Value)} {st : List Value} {ws : va_W} {k n : Nat}
theorem g_new {idx ci N : Nat} {C : String} {T : u_T} {ty0 : Nat → FieldType} {fs : List Value} (E : gE g own cc nL p s m args c A) (hd : decode cc pc = .ok (.new idx, 3)) (hn : pc + 3 = pn) (hcl : jCls ci (C, T, N)) (hty : ∀ k, k < N → parseFieldDescriptor (T k).2.2.1 = some (ty0 k)) (h1 : Cond.classLink own idx C ∈ jTB) (h2 : Cond.instantiable C N ∈ jTB) (h3 : Cond.initialized C ∈ jTB) (hfs : ∀ j, j < N → defaultValue (ty0 j) = vp_V fs j) (hR : k + 1 ≤ R.cells ∧ n + N ≤ R.slots) (kk : ∀ q, GJ g nL p e R s m args below meth c A Q pn ls (.ref q :: st) (ws ++ [(q, .inr (ci, fs))]) (k + 1) (n + N)) : GJ g nL p e R s m args below meth c A Q pc ls st ws k n := by
  intro H locs lr hP hD hS hL
  subst hn
  obtain ⟨hx, hb, hml, hown, hts, hK, hN, hA⟩ := id E
  exact va_new hx hb hts hcl.2 ty0 hty hown (hts _ h1) (hts _ h2) (hts _ h3) hK hP hD hS hA hcl.1 hfs hR.1 hR.2 hd (fun q H1 hP1 hD1 hS1 => kk q H1 locs lr hP1 hD1 hS1 hL)
theorem g_newa {at_ : ArrayType} {ty : FieldType} {t0 : Nat} {N : Nat} {v : Int32} {z : (Nat → Int32) ⊕ (Nat → Int64) ⊕ (Nat → UInt32) ⊕ (Nat → UInt64) ⊕ (Nat → Option Nat)} (E : gE g own cc nL p s m args c A) (hd : decode cc pc = .ok (.newarray at_, 2)) (hn : pc + 2 = pn) (hty : newarray.typeOf at_ = ty) (hts0 : (jTys g)[t0]? = some (jc g t0, ty)) (htt : ty = .int ∨ ty = .long ∨ ty = .boolean ∨ ty = .array .int) (ha : Cond.arrayClass ty ∈ jTB) (hz : ∀ cA : ClassId, vp_cell cA (N, z) = arrV cA N (fun _ => defaultValue ty)) (h0 : ¬ v < 0) (hv : v.toNatClampNeg = N) (hb : N * componentBytes ty ≤ 536870912) (hR : k + 1 ≤ R.cells ∧ n + N ≤ R.slots) (kk : ∀ q, GJ g nL p e R s m args below meth c A Q pn ls (.ref q :: st) (ws ++ [(q, .inl (jc g t0, N, z))]) (k + 1) (n + N)) : GJ g nL p e R s m args below meth c A Q pc ls (.int v :: st) ws k n := by
  intro H locs lr hP hD hS hL
  subst hn
  obtain ⟨hx, hb2, hml, hown, hts, hK, hN, hA⟩ := id E
  refine va_newa hx hb2 (by rw [hty]; exact hts _ ha) hty hK hP hD hS hA hz h0 hv hb hR.1 hR.2 hd (fun q cA H1 hK1 hP1 hD1 hS1 => ?_)
  have e1 : cA = jc g t0 := g_cls (hK1.2 (jTys g).length (cA, ty) (by simp)).2 (hK.2 t0 _ hts0).2 htt
  rw [e1] at hP1 hD1
  exact kk q H1 locs lr hP1 hD1 hS1 hL
/-- what a maker of objects leaves -/
def nQ (g : jG) (K : va_W → Prop) (A : Nat → Prop) : Array Value → State → Outcome → State → Prop := fun _ st oc t => (∃ ws, oc = .returned none ∧ K ws ∧ va_P g.2.1 vwCl ws t.heap ∧ va_D A ws) ∧ va_F A st t
def nR (d mc ms : Nat) : Room := { frames := d, cells := mc, slots := ms, locals := 40 * d }
def nPc (g : jG) (As : List Value) (ws : va_W) (sz : Nat) : Array Value → State → Prop := va_Pc As (fun U => U.heap.size = sz ∧ va_P g.2.1 vwCl ws U.heap ∧ va_K g.2.1 vwCl (jTys g) U ∧ va_D (fun _ => True) ws ∧ nNw U)
def ConN (g : jG) (y : jY) (d mc ms : Nat) (As : List Value) (ws : va_W) (K : va_W → Prop) : Prop :=
  ∀ sz : Nat, Met g.1 y.1 (jWs y) (nR d mc ms) (nPc g As ws sz) (nQ g K (va_A ws sz)) mc ms (va_A ws sz)
theorem conN_of {y : jY} {d mc ms : Nat} {As : List Value} {K : va_W → Prop} {l : List (Option Value)} (hy : plainName y.1.cls = true) (hn : (lg_sl As).length ≤ y.2.2.1) (hl : l = jEnt As ++ List.replicate (y.2.2.1 - (jEnt As).length) none) (hJ : ∀ (p : Program) (e : Env) (s : State) (m : MethodId) (args : Array Value) (below : List Frame) (meth : Method) (c : Code) (A : Nat → Prop), gE g y.1.cls y.2.1 y.2.2.1 p s m args c A → meth.name = y.1.name → meth.sig.returnType = y.2.2.2 → meth.locks = false → GJ g y.2.2.1 p e (nR d mc ms) s m args below meth c A (MQ below (nQ g K A) args s mc ms A) 0 l [] ws 0 0) : ConN g y d mc ms As ws K := by
  intro sz
  refine Met.ofW (cc := y.2.1) (maxL := y.2.2.1) (ret := y.2.2.2) hy rfl ?_
  intro p e s m args below meth c s₁ B hml hv
  obtain ⟨rfl, hsz, hP, hK, hD0, hN0⟩ := hv
  subst hsz
  rw [lg_entry_eq]
  have hts := atoms_spec (ws := jWs y) B.pre
  exact hJ p e s m _ below meth c _ ⟨B.exec, B.bytes, hml, findClass_of_methodNamed B.named, fun w hw => hts w (List.mem_cons_of_mem _ hw), hK, hN0, fun q h => Or.inr h⟩ (name_of_methodNamed B.named B.method).1 B.returns B.notSynchronized s.heap [] _ hP hD0.self va_S.rf (jL_entry As hn hl)
theorem g_vret {K : va_W → Prop} (E : gE g own cc nL p s m args c A) (hr : meth.sig.returnType = none) (hlk : meth.locks = false) (hd : decode cc pc = .ok (.return_, 1)) (hk : K ws) : GJ g nL p e R s m args below meth c A (MQ below (nQ g K A) args s k n A) pc ls [] ws k n := by
  intro H locs lr hP hD hS hL
  exact W.vret E.1 E.2.1 hr (fun t ht hW => ⟨⟨ws, rfl, hk, by rw [ht]; exact hP, hD⟩, hS.F ht⟩) hS.2.2 hd (hlocks := hlk)
theorem n_blind {As : List Value} {sz : Nat} : FrameBlind (nPc g As ws sz) := by
  intro a U gf mk q
  obtain ⟨q0, q1, qP, qK, qD, qN⟩ := q
  exact ⟨q0, q1, qP, va_K.moved (u := U) (U := U.calling gf mk a) (Vm.Alike.refl U.vm) qK, qD, nNw.same (s := U) (U := U.calling gf mk a) rfl qN⟩
theorem n_good (y2 : jY) (hc : Cond.code y2.1 y2.2.1 y2.2.2.1 y2.2.2.2 ∈ jTB) : GoodIn jTB (jWs y2) := by
  intro w hw
  have h1 : w ∈ jTB := by
    rcases List.mem_cons.mp hw with h | h
    · rw [h]; exact hc
    · exact h
  exact ⟨h1, good_of_word (List.mem_filter.mp h1).2⟩
/-- behind a call that makes objects -/
theorem n_goon {K2 : va_W → Prop} {A1 : Nat → Prop} {a : Array Value} {st0 : List Value} {H : Heap} {locs : List Loc} {lr : Array Slot} {mc ms : Nat} (hr : va_Run p g.1 e R s m args below meth c H locs k n mc ms (F0 m pc lr st0) st (nQ g K2 A1 a) A1) (hS : va_S A s.heap H locs) (hF : ∀ q, A1 q → A q)
    (kk : ∀ (w1 : va_W) (H1 : Heap) (locs1 : List Loc), K2 w1 → va_P g.2.1 vwCl w1 H1 → va_D A1 w1 → (∀ q : Nat, q < H.size → ¬ A1 q → H1[q]? = H[q]?) → va_S A s.heap H1 locs1 → W p g.1 e R s m args below meth c H1 locs1 (k + mc) (n + ms) Q (F0 m (pc + 3) lr st)) : W p g.1 e R s m args below meth c H locs k n Q (F0 m pc lr st0) := by
  intro T hT X
  obtain ⟨v, st₀, t, T', L, h0, X', hL, e1, e2, ⟨⟨w1, hv, hp, hb, hd⟩, hz, hk⟩, sts⟩ := hr T hT X
  cases hv
  rw [h0] at hz hk
  obtain ⟨t2, a1, b1⟩ := kk w1 T'.heap (locs ++ L) hp (by rw [e1]; exact hb) hd (fun q h1 h2 => by rw [e1]; exact hk q h1 h2)
    ⟨Nat.le_trans hS.1 (by rw [e1]; exact hz), fun q h1 h2 => by rw [e1, hk q (Nat.lt_of_lt_of_le h1 hS.1) (fun z => h2 (hF q z))]; exact hS.2.1 q h1 h2, fun q hq => by
      rcases List.mem_append.mp hq with h | h
      · exact hS.2.2 q h
      · exact hF _ (hL q h)⟩ T' rfl X'
  exact ⟨t2, sts t2 a1, b1⟩
/-- what holds of a maker -/
def nCal (y : jY) : Prop := Cond.code y.1 y.2.1 y.2.2.1 y.2.2.2 ∈ jTB ∧ Cond.instanceMethod y.1 ∈ jTB ∧ Cond.initialized y.1.cls ∈ jTB ∧ (y.1.cls ≠ "java/lang/invoke/MethodHandle" ∧ y.1.cls ≠ "java/lang/invoke/VarHandle" ∧ (parseMethodDescriptor y.1.desc).map (fun d => d.parameters.length) = some 0) ∧ y.1.name = "<init>" ∧ y.2.2.2 = none
theorem g_ctorN {y2 : jY} {d2 mc2 ms2 idx q0 q : Nat} {host : String} {o : va_E} {wr : va_W} {isR : List Nat} {K2 : va_W → Prop} (E : gE g own cc nL p s m args c A) (hC : ConN g y2 d2 mc2 ms2 [.ref q] [(q, o)] K2) (hd : decode cc pc = .ok (.invokespecial idx, 3)) (hn : pc + 3 = pn) (hcal : nCal y2) (hl : va_Nw (.methodLinkNest own idx y2.1 host) s) (hq : ws[q0]? = some (q, o)) (hR : isR.map (fun i => ws[i]?) = wr.map some) (hnd : va_nd isR = true) (hdis : ∀ i ∈ isR, i ∉ [q0]) (hrm : d2 + 1 ≤ R.frames ∧ 8 + (y2.2.2.1 + 11) + 40 * d2 ≤ R.locals) (hW : (st.map fun v => v.category).sum ≤ 8) (hf : k + mc2 ≤ R.cells ∧ n + ms2 ≤ R.slots) (kk : ∀ w1, K2 w1 → GJ g nL p e R s m args below meth c A Q pn ls st (wr ++ w1) (k + mc2) (n + ms2)) : GJ g nL p e R s m args below meth c A Q pc ls (.ref q :: st) ws k n := by
  intro H locs lr hP hD hS hL
  subst hn
  obtain ⟨hx, hb, hml, hown, hts, hK, hN, hA⟩ := id E
  have hPc := hP.sub (ws' := [(q, o)]) [q0] (by simp [hq])
  have hDc := hD.sub (ws' := [(q, o)]) [q0] (by simp [va_nd]) (by simp [hq])
  have hFc := va_free (wc := [(q, o)]) hD hS hA [q0] (by simp [hq])
  obtain ⟨h1, h2, h3, h4, h5, h6⟩ := hcal
  refine n_goon (va_runIN (As := []) (rest := st) (n := 0) (g := F0 m pc lr (.ref q :: st)) (host := host) (bytes := y2.2.1) (maxL := y2.2.2.1) ⟨hx, hb, hml, hown, hts⟩ (hC H.size) ⟨va_cnB (ret := none) 0 hts (n_good y2 h1) (by unfold jWs; rw [h6]) rfl rfl hl (hts _ h3) h4 hrm, h5, hts _ h2⟩ ⟨n_blind, fun U hU hW => ⟨rfl, by rw [hU], by rw [hU]; exact hPc, va_K.moved hW.alike hK, hDc.weaken (fun _ _ _ _ => trivial), nNw.warm hW hN⟩⟩ rfl rfl hL.1 rfl (lv_room hW) hd hf) hS hFc (fun w1 H1 locs1 hk1 hP1 hD1 hkp hS1 => ?_)
  obtain ⟨hP2, hD2⟩ := va_join (wr := wr) (w1 := w1) (wc := [(q, o)]) hP hD [q0] isR (by simp [hq]) hR hnd hdis hkp hFc hP1 hD1
  exact kk w1 hk1 H1 locs1 lr hP2 hD2 hS1 hL
theorem g_ctorL {y2 : jY} {d2 mc2 ms2 idx q0 q : Nat} {o : va_E} {wr : va_W} {isR : List Nat} {K2 : va_W → Prop} (E : gE g own cc nL p s m args c A) (hC : ConN g y2 d2 mc2 ms2 [.ref q] [(q, o)] K2) (hd : decode cc pc = .ok (.invokespecial idx, 3)) (hn : pc + 3 = pn) (hcal : nCal y2) (hl : Cond.methodLink own idx y2.1 ∈ jTB) (hq : ws[q0]? = some (q, o)) (hR : isR.map (fun i => ws[i]?) = wr.map some) (hnd : va_nd isR = true) (hdis : ∀ i ∈ isR, i ∉ [q0]) (hrm : d2 + 1 ≤ R.frames ∧ 8 + (y2.2.2.1 + 11) + 40 * d2 ≤ R.locals) (hW : (st.map fun v => v.category).sum ≤ 8) (hf : k + mc2 ≤ R.cells ∧ n + ms2 ≤ R.slots) (kk : ∀ w1, K2 w1 → GJ g nL p e R s m args below meth c A Q pn ls st (wr ++ w1) (k + mc2) (n + ms2)) : GJ g nL p e R s m args below meth c A Q pc ls (.ref q :: st) ws k n := by
  intro H locs lr hP hD hS hL
  subst hn
  obtain ⟨hx, hb, hml, hown, hts, hK, hN, hA⟩ := id E
  have hPc := hP.sub (ws' := [(q, o)]) [q0] (by simp [hq])
  have hDc := hD.sub (ws' := [(q, o)]) [q0] (by simp [va_nd]) (by simp [hq])
  have hFc := va_free (wc := [(q, o)]) hD hS hA [q0] (by simp [hq])
  obtain ⟨h1, h2, h3, h4, h5, h6⟩ := hcal
  refine n_goon (va_runI (As := []) (rest := st) (n := 0) (g := F0 m pc lr (.ref q :: st)) (bytes := y2.2.1) (maxL := y2.2.2.1) ⟨hx, hb, hml, hown, hts⟩ (hC H.size) (cwI 0 hts (n_good y2 h1) (by unfold jWs; rw [h6]) rfl rfl (hts _ h3) (hts _ hl) (hts _ h2) h5 h4 hrm) ⟨n_blind, fun U hU hW => ⟨rfl, by rw [hU], by rw [hU]; exact hPc, va_K.moved hW.alike hK, hDc.weaken (fun _ _ _ _ => trivial), nNw.warm hW hN⟩⟩ rfl rfl hL.1 rfl (lv_room hW) hd hf) hS hFc (fun w1 H1 locs1 hk1 hP1 hD1 hkp hS1 => ?_)
  obtain ⟨hP2, hD2⟩ := va_join (wr := wr) (w1 := w1) (wc := [(q, o)]) hP hD [q0] isR (by simp [hq]) hR hnd hdis hkp hFc hP1 hD1
  exact kk w1 hk1 H1 locs1 lr hP2 hD2 hS1 hL
/-- a static call on one cell -/
theorem g_callS1 {y2 : jY} {d2 mc2 ms2 idx q0 q : Nat} {v : Value} {o : va_E} {wr : va_W} {isR : List Nat} {K2 : va_W → Prop} (E : gE g own cc nL p s m args c A) (hC : ConN g y2 d2 mc2 ms2 [.ref q, v] [(q, o)] K2) (hd : decode cc pc = .ok (.invokestatic idx, 3)) (hn : pc + 3 = pn) (hcal : jCalS y2 2) (hl : Cond.methodLink own idx y2.1 ∈ jTB) (hq : ws[q0]? = some (q, o)) (hR : isR.map (fun i => ws[i]?) = wr.map some) (hnd : va_nd isR = true) (hdis : ∀ i ∈ isR, i ∉ [q0]) (hrm : d2 + 1 ≤ R.frames ∧ 8 + (y2.2.2.1 + 11) + 40 * d2 ≤ R.locals) (hW : (st.map fun v => v.category).sum ≤ 8) (hf : k + mc2 ≤ R.cells ∧ n + ms2 ≤ R.slots) (kk : ∀ w1, K2 w1 → GJ g nL p e R s m args below meth c A Q pn ls st (wr ++ w1) (k + mc2) (n + ms2)) : GJ g nL p e R s m args below meth c A Q pc ls (v :: .ref q :: st) ws k n := by
  intro H locs lr hP hD hS hL
  subst hn
  obtain ⟨hx, hb, hml, hown, hts, hK, hN, hA⟩ := id E
  have hPc := hP.sub (ws' := [(q, o)]) [q0] (by simp [hq])
  have hDc := hD.sub (ws' := [(q, o)]) [q0] (by simp [va_nd]) (by simp [hq])
  have hFc := va_free (wc := [(q, o)]) hD hS hA [q0] (by simp [hq])
  obtain ⟨h1, h2, h3, h4, h5⟩ := hcal
  refine n_goon (va_runS (As := [.ref q, v]) (rest := st) (n := 2) (g := F0 m pc lr (v :: .ref q :: st)) ⟨hx, hb, hml, hown, hts⟩ (hC H.size) ⟨callB_of 2 hts (n_good y2 h1) rfl rfl rfl (hts _ h3) (hts _ hl) h4 hrm, hts _ h2⟩ ⟨n_blind, fun U hU hW => ⟨rfl, by rw [hU], by rw [hU]; exact hPc, va_K.moved hW.alike hK, hDc.weaken (fun _ _ _ _ => trivial), nNw.warm hW hN⟩⟩ rfl rfl hL.1 rfl (lv_room hW) hd hf) hS hFc (fun w1 H1 locs1 hk1 hP1 hD1 hkp hS1 => ?_)
  obtain ⟨hP2, hD2⟩ := va_join (wr := wr) (w1 := w1) (wc := [(q, o)]) hP hD [q0] isR (by simp [hq]) hR hnd hdis hkp hFc hP1 hD1
  exact kk w1 hk1 H1 locs1 lr hP2 hD2 hS1 hL
end GJ2
