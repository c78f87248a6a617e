theorem n_ao {s U : State} (hW : s.vm.Alike U.vm) (hZ : va_Nw (.arrayOver (.array .int)) s) : va_Nw (.arrayOver (.array .int)) U := by
  have h := Cond.arrayOver_setVmC (args := #[]) hW (.array .int)
  show (Cond.arrayOver (.array .int)).before #[] U = true
  have h2 : (Cond.arrayOver (.array .int)).before #[] U = (Cond.arrayOver (.array .int)).before #[] (s.setVm U.vm) := rfl
  rw [h2, h]
  exact hZ
/-- the links between the nested classes, and the rows of rows -/
def nNw (s : State) : Prop := va_Nw (.methodLinkNest RX7 19 yX6_init RX7) s ∧ va_Nw (.methodLinkNest RX7 26 yX2_init RX7) s ∧ va_Nw (.methodLinkNest RX7 33 yX1_init RX7) s ∧ va_Nw (.methodLinkNest RX7 40 yX0_init RX7) s ∧ va_Nw (.methodLinkNest RX7 47 yX3_init RX7) s ∧ va_Nw (.methodLinkNest RX0 11 yX6_init RX7) s ∧ va_Nw (.methodLinkNest RX0 20 yX4_init RX7) s ∧ va_Nw (.methodLinkNest RX2 23 yX4_init RX7) s ∧ va_Nw (.arrayOver (.array .int)) s
theorem nNw.warm {s U : State} (hW : s.WarmedH U.vm) (h : nNw s) : nNw U := ⟨va_Nw.warmM hW h.1, va_Nw.warmM hW h.2.1, va_Nw.warmM hW h.2.2.1, va_Nw.warmM hW h.2.2.2.1, va_Nw.warmM hW h.2.2.2.2.1, va_Nw.warmM hW h.2.2.2.2.2.1, va_Nw.warmM hW h.2.2.2.2.2.2.1, va_Nw.warmM hW h.2.2.2.2.2.2.2.1, n_ao hW.alike h.2.2.2.2.2.2.2.2⟩
theorem nNw.same {s U : State} (hv : s.vm = U.vm) (h : nNw s) : nNw U := ⟨va_Nw.same rfl hv h.1, va_Nw.same rfl hv h.2.1, va_Nw.same rfl hv h.2.2.1, va_Nw.same rfl hv h.2.2.2.1, va_Nw.same rfl hv h.2.2.2.2.1, va_Nw.same rfl hv h.2.2.2.2.2.1, va_Nw.same rfl hv h.2.2.2.2.2.2.1, va_Nw.same rfl hv h.2.2.2.2.2.2.2.1, n_ao (by rw [hv]; exact Vm.Alike.refl _) h.2.2.2.2.2.2.2.2⟩
/-- what stands while one method is walked -/
def gE (g : jG) (own : String) (cc : ByteArray) (nL : Nat) (p : Program) (s : State) (m : MethodId) (args : Array Value) (c : Code) (A : Nat → Prop) : Prop :=
  p.tables.exec = Jvm.exec ∧ c.code = cc ∧ c.maxLocals = nL ∧ s.vm.findClass own = some m.cls ∧ (∀ w ∈ jTB, w.before args s = true) ∧ va_K g.2.1 vwCl (jTys g) s ∧ nNw s ∧ ∀ q, s.heap.size ≤ q → A q
/-- from this frame, with the cells ws, the machine comes to Q -/
def GJ (g : jG) (nL : Nat) (p : Program) (e : Env) (R : Room) (s : State) (m : MethodId) (args : Array Value) (below : List Frame) (meth : Method) (c : Code) (A : Nat → Prop) (Q : State → Prop) (pc : Nat) (ls : List (Option Value)) (st : List Value) (ws : va_W) (k n : Nat) : Prop :=
  ∀ (H : Heap) (locs : List Loc) (lr : Array Slot), va_P g.2.1 vwCl ws H → va_D A ws → va_S A s.heap H locs → jL lr nL ls → W p g.1 e R s m args below meth c H locs k n Q (F0 m pc lr st)
section GJS
variable {g : jG} {own : String} {cc : ByteArray} {nL : Nat} {p : Program} {e : Env} {R : Room} {s : State} {m : MethodId} {args : Array Value} {below : List Frame} {meth : Method} {c : Code} {A : Nat → Prop} {Q : State → Prop} {pc pn : Nat} {ls : List (Option Value)} {st : List Value} {ws : va_W} {k n : Nat}
theorem g_eq {ws2 : va_W} (h : ws = ws2) (kk : GJ g nL p e R s m args below meth c A Q pc ls st ws2 k n) : GJ g nL p e R s m args below meth c A Q pc ls st ws k n := by
  rw [h]; exact kk
theorem g_iconst (E : gE g own cc nL p s m args c A) {z : Int} (v : Int32) (hd : decode cc pc = .ok (.iconst z, 1)) (hn : pc + 1 = pn) (hv : Int32.ofInt z = v) (kk : GJ g nL p e R s m args below meth c A Q pn ls (.int v :: st) ws k n) : GJ g nL p e R s m args below meth c A Q pc ls st ws k n := by
  intro H locs lr hP hD hS hL
  subst hn
  exact lv_iconst E.1 E.2.1 hd hv (kk H locs lr hP hD hS hL)
theorem g_bipush (E : gE g own cc nL p s m args c A) {z : Int} (v : Int32) (hd : decode cc pc = .ok (.bipush z, 2)) (hn : pc + 2 = pn) (hv : (Int8.ofInt z).toInt32 = v) (kk : GJ g nL p e R s m args below meth c A Q pn ls (.int v :: st) ws k n) : GJ g nL p e R s m args below meth c A Q pc ls st ws k n := by
  intro H locs lr hP hD hS hL
  subst hn
  exact lv_bipush E.1 E.2.1 hd hv (kk H locs lr hP hD hS hL)
theorem g_sipush (E : gE g own cc nL p s m args c A) {z : Int} (v : Int32) (hd : decode cc pc = .ok (.sipush z, 3)) (hn : pc + 3 = pn) (hv : (Int16.ofInt z).toInt32 = v) (kk : GJ g nL p e R s m args below meth c A Q pn ls (.int v :: st) ws k n) : GJ g nL p e R s m args below meth c A Q pc ls st ws k n := by
  intro H locs lr hP hD hS hL
  subst hn
  exact lv_sipush E.1 E.2.1 hd hv (kk H locs lr hP hD hS hL)
theorem g_ldc (E : gE g own cc nL p s m args c A) {i : Nat} {v : Int32} (hd : decode cc pc = .ok (.ldc i, 2)) (hn : pc + 2 = pn) (hw : Cond.constant own i v ∈ jTB) (kk : GJ g nL p e R s m args below meth c A Q pn ls (.int v :: st) ws k n) : GJ g nL p e R s m args below meth c A Q pc ls st ws k n := by
  intro H locs lr hP hD hS hL
  subst hn
  exact lv_ldc E.1 E.2.1 E.2.2.2.1 (E.2.2.2.2.1 _ hw) hd (kk H locs lr hP hD hS hL)
theorem g_ldc2_w (E : gE g own cc nL p s m args c A) {i : Nat} {v : Int64} (hd : decode cc pc = .ok (.ldc2_w i, 3)) (hn : pc + 3 = pn) (hw : Cond.constantLong own i v ∈ jTB) (kk : GJ g nL p e R s m args below meth c A Q pn ls (.long v :: st) ws k n) : GJ g nL p e R s m args below meth c A Q pc ls st ws k n := by
  intro H locs lr hP hD hS hL
  subst hn
  exact lv_ldc2 E.1 E.2.1 E.2.2.2.1 (E.2.2.2.2.1 _ hw) hd (kk H locs lr hP hD hS hL)
theorem g_dup (E : gE g own cc nL p s m args c A) {v : Value} (hd : decode cc pc = .ok (.dup, 1)) (hn : pc + 1 = pn) (hv : v.category = 1) (kk : GJ g nL p e R s m args below meth c A Q pn ls (v :: v :: st) ws k n) : GJ g nL p e R s m args below meth c A Q pc ls (v :: st) ws k n := by
  intro H locs lr hP hD hS hL
  subst hn
  exact lv_dup E.1 E.2.1 hd hv (kk H locs lr hP hD hS hL)
theorem g_goto (E : gE g own cc nL p s m args c A) {off : Int} (t : Nat) (hd : decode cc pc = .ok (.goto off, 3)) (ht : (pc : Int) + off = (t : Int)) (kk : GJ g nL p e R s m args below meth c A Q t ls st ws k n) : GJ g nL p e R s m args below meth c A Q pc ls st ws k n := by
  intro H locs lr hP hD hS hL
  exact lv_goto E.1 E.2.1 hd ht (kk H locs lr hP hD hS hL)
theorem g_icmp_ge (E : gE g own cc nL p s m args c A) {a b : Int32} {off : Int} (t : Nat) (hd : decode cc pc = .ok (.if_icmp .ge off, 3)) (hn : pc + 3 = pn) (ht : (pc : Int) + off = (t : Int)) (kt : b ≤ a → GJ g nL p e R s m args below meth c A Q t ls st ws k n) (kf : ¬ b ≤ a → GJ g nL p e R s m args below meth c A Q pn ls st ws k n) : GJ g nL p e R s m args below meth c A Q pc ls (.int b :: .int a :: st) ws k n := by
  intro H locs lr hP hD hS hL
  subst hn
  exact lv_icmp_ge E.1 E.2.1 hd ht (fun h => kt h H locs lr hP hD hS hL) (fun h => kf h H locs lr hP hD hS hL)
theorem g_aload_n (E : gE g own cc nL p s m args c A) {k4 : Fin 4} {x : Nat} (hd : decode cc pc = .ok (.aload_n k4, 1)) (hn : pc + 1 = pn) (hl : ls[(k4 : Nat)]? = some (some (.ref x))) (kk : GJ g nL p e R s m args below meth c A Q pn ls (.ref x :: st) ws k n) : GJ g nL p e R s m args below meth c A Q pc ls st ws k n := by
  intro H locs lr hP hD hS hL
  subst hn
  exact lv_aload_n E.1 E.2.1 hd rfl (hL.2.2 _ _ hl) (kk H locs lr hP hD hS hL)
theorem g_iload_n (E : gE g own cc nL p s m args c A) {k4 : Fin 4} {x : Int32} (hd : decode cc pc = .ok (.iload_n k4, 1)) (hn : pc + 1 = pn) (hl : ls[(k4 : Nat)]? = some (some (.int x))) (kk : GJ g nL p e R s m args below meth c A Q pn ls (.int x :: st) ws k n) : GJ g nL p e R s m args below meth c A Q pc ls st ws k n := by
  intro H locs lr hP hD hS hL
  subst hn
  exact lv_iload_n E.1 E.2.1 hd rfl (hL.2.2 _ _ hl) (kk H locs lr hP hD hS hL)
theorem g_istore_n (E : gE g own cc nL p s m args c A) {k4 : Fin 4} {i : Nat} {x : Int32} (hd : decode cc pc = .ok (.istore_n k4, 1)) (hn : pc + 1 = pn) (h4 : (k4 : Nat) = i) (hi : i < nL) (hf : jFree ls i = true) (kk : GJ g nL p e R s m args below meth c A Q pn (ls.set i (some (.int x))) st ws k n) : GJ g nL p e R s m args below meth c A Q pc ls (.int x :: st) ws k n := by
  intro H locs lr hP hD hS hL
  subst hn
  exact lv_istore_n E.1 E.2.1 hd h4 (jL_has hL) hi rfl (fun ls2 h2 => kk H locs ls2 hP hD hS (jL_st1 hf h2))
theorem g_astore_n (E : gE g own cc nL p s m args c A) {k4 : Fin 4} {i : Nat} {x : Nat} (hd : decode cc pc = .ok (.astore_n k4, 1)) (hn : pc + 1 = pn) (h4 : (k4 : Nat) = i) (hi : i < nL) (hf : jFree ls i = true) (kk : GJ g nL p e R s m args below meth c A Q pn (ls.set i (some (.ref x))) st ws k n) : GJ g nL p e R s m args below meth c A Q pc ls (.ref x :: st) ws k n := by
  intro H locs lr hP hD hS hL
  subst hn
  exact lv_astore_n E.1 E.2.1 hd h4 (jL_has hL) hi rfl (fun ls2 h2 => kk H locs ls2 hP hD hS (jL_st1 hf h2))
theorem g_iinc (E : gE g own cc nL p s m args c A) {i : Nat} {z : Int} {x v : Int32} (hd : decode cc pc = .ok (.iinc i z, 3)) (hn : pc + 3 = pn) (hi : i < nL) (hf : jFree ls i = true) (hl : ls[i]? = some (some (.int x))) (hv : x + Int32.ofInt z = v) (kk : GJ g nL p e R s m args below meth c A Q pn (ls.set i (some (.int v))) st ws k n) : GJ g nL p e R s m args below meth c A Q pc ls st ws k n := by
  intro H locs lr hP hD hS hL
  subst hn
  obtain ⟨kq, hkk⟩ := List.getElem?_of_mem (jAs_in.mpr hl)
  exact lv_iinc E.1 E.2.1 hd (jL_has hL) hkk hv hi rfl (fun ls2 h2 => kk H locs ls2 hP hD hS (jL_st1 hf h2))
theorem g_objInit (E : gE g own cc nL p s m args c A) {idx a : Nat} (hd : decode cc pc = .ok (.invokespecial idx, 3)) (hn : pc + 3 = pn) (hl : Cond.methodLink own idx objectInit ∈ jTB) (hi : Cond.instanceMethod objectInit ∈ jTB) (hc : Cond.code objectInit ⟨#[0xb1]⟩ 1 none ∈ jTB) (hR : 1 ≤ R.frames ∧ 12 ≤ R.locals) (kk : GJ g nL p e R s m args below meth c A Q pn ls [] ws k n) : GJ g nL p e R s m args below meth c A Q pc ls [.ref a] ws k n := by
  intro H locs lr hP hD hS hL
  subst hn
  refine W.objInit E.1 E.2.1 E.2.2.2.1 (E.2.2.2.2.1 _ hl) (E.2.2.2.2.1 _ hi) (E.2.2.2.2.1 _ hc) rfl (by rw [E.2.2.1]; exact hL.1) rfl hd hR.1 hR.2 ?_
  exact W.eq (g2 := F0 m (pc + 3) lr []) rfl (kk H locs lr hP hD hS hL)
theorem g_get (E : gE g own cc nL p s m args c A) {idx ci j q0 a : Nat} {q : vw_C} {fs : List Value} {v : Value} (hd : decode cc pc = .ok (.getfield idx, 3)) (hn : pc + 3 = pn) (hcl : jCls ci q) (hk : j < q.2.2) (hl : Cond.fieldLink own idx (q.2.1 j).1 (q.2.1 j).2.1 (q.2.1 j).2.2.1 ∈ jTB) (hq : ws[q0]? = some (a, .inr (ci, fs))) (hv : fs[j]? = some v) (kk : GJ g nL p e R s m args below meth c A Q pn ls (v :: st) ws k n) : GJ g nL p e R s m args below meth c A Q pc ls (.ref a :: st) ws k n := by
  intro H locs lr hP hD hS hL
  subst hn
  obtain ⟨hx, hb, hml, hown, hts, hK, hN, hA⟩ := id E
  exact va_get hx hb hts hcl.2 hown hK hP q0 hq hcl.1 j hk (hts _ hl) (fun _ h => h) hv hd (kk H locs lr hP hD hS hL)
theorem g_put (E : gE g own cc nL p s m args c A) {idx ci j q0 a : Nat} {q : vw_C} {fs fs2 : List Value} {v : Value} {ty0 : Nat → FieldType} {ty : FieldType} (hd : decode cc pc = .ok (.putfield idx, 3)) (hn : pc + 3 = pn) (hcl : jCls ci q) (hty : ∀ k, k < q.2.2 → parseFieldDescriptor (q.2.1 k).2.2.1 = some (ty0 k)) (hnm : ∀ a, a < q.2.2 → ∀ b, b < q.2.2 → a ≠ b → (q.2.1 a).2.1 ≠ (q.2.1 b).2.1) (hk : j < q.2.2) (hfin : (q.2.1 j).2.2.2 = false) (hdt : parseFieldDescriptor (q.2.1 j).2.2.1 = some ty) (hl : Cond.fieldLink own idx (q.2.1 j).1 (q.2.1 j).2.1 (q.2.1 j).2.2.1 ∈ jTB) (hnw : narrow ty v = v) (hft : fits ty v = true) (hq : ws[q0]? = some (a, .inr (ci, fs))) (hlen : j < fs.length) (hfs : fs.set j v = fs2) {ws2 : va_W} (hws : ws.set q0 (a, .inr (ci, fs2)) = ws2) (kk : GJ g nL p e R s m args below meth c A Q pn ls st ws2 k n) : GJ g nL p e R s m args below meth c A Q pc ls (v :: .ref a :: st) ws k n := by
  intro H locs lr hP hD hS hL
  subst hn
  subst hfs
  subst hws
  obtain ⟨hx, hb, hml, hown, hts, hK, hN, hA⟩ := id E
  exact va_put hx hb hts hcl.2 ty0 hty hnm hown hK hP hD hS q0 hq hcl.1 j hk (hts _ hl) (fun _ h => h) hfin hdt hnw hft hlen hd (fun H1 locs1 hP1 hD1 hS1 => kk H1 locs1 lr hP1 hD1 hS1 hL)
theorem g_putF (E : gE g own cc nL p s m args c A) (hin : meth.name = "<init>") {idx ci j q0 a : Nat} {q : vw_C} {fs fs2 : List Value} {v : Value} {ty0 : Nat → FieldType} {ty : FieldType} (hd : decode cc pc = .ok (.putfield idx, 3)) (hn : pc + 3 = pn) (hcl : jCls ci q) (hty : ∀ k, k < q.2.2 → parseFieldDescriptor (q.2.1 k).2.2.1 = some (ty0 k)) (hnm : ∀ a, a < q.2.2 → ∀ b, b < q.2.2 → a ≠ b → (q.2.1 a).2.1 ≠ (q.2.1 b).2.1) (hk : j < q.2.2) (hfin : (q.2.1 j).2.2.2 = true) (hdecl : (q.2.1 j).1 = own) (hdt : parseFieldDescriptor (q.2.1 j).2.2.1 = some ty) (hl : Cond.fieldLink own idx (q.2.1 j).1 (q.2.1 j).2.1 (q.2.1 j).2.2.1 ∈ jTB) (hnw : narrow ty v = v) (hft : fits ty v = true) (hq : ws[q0]? = some (a, .inr (ci, fs))) (hlen : j < fs.length) (hfs : fs.set j v = fs2) {ws2 : va_W} (hws : ws.set q0 (a, .inr (ci, fs2)) = ws2) (kk : GJ g nL p e R s m args below meth c A Q pn ls st ws2 k n) : GJ g nL p e R s m args below meth c A Q pc ls (v :: .ref a :: st) ws k n := by
  intro H locs lr hP hD hS hL
  subst hn
  subst hfs
  subst hws
  obtain ⟨hx, hb, hml, hown, hts, hK, hN, hA⟩ := id E
  exact va_putF hx hb hts hcl.2 ty0 hty hnm hown hK hP hD hS q0 hq hcl.1 j hk (hts _ hl) (fun _ h => h) hfin hin hdecl hdt hnw hft hlen hd (fun H1 locs1 hP1 hD1 hS1 => kk H1 locs1 lr hP1 hD1 hS1 hL)
theorem g_iast (E : gE g own cc nL p s m args c A) {q0 N a : Nat} {f : Nat → Int32} {i x : Int32} (hd : decode cc pc = .ok (.iastore, 1)) (hn : pc + 1 = pn) (hq : ws[q0]? = some (a, iA g N f)) (hi : vp_in i N) {ws2 : va_W} (hws : ws.set q0 (a, iA g N (upd f i.toNatClampNeg x)) = ws2) (kk : GJ g nL p e R s m args below meth c A Q pn ls st ws2 k n) : GJ g nL p e R s m args below meth c A Q pc ls (.int x :: .int i :: .ref a :: st) ws k n := by
  intro H locs lr hP hD hS hL
  subst hn
  subst hws
  exact va_iast E.1 E.2.1 E.2.2.2.2.2.1 hP hD hS q0 0 hq rfl hi hd (fun H1 locs1 hP1 hD1 hS1 => kk H1 locs1 lr hP1 hD1 hS1 hL)
/-- an array class has one number -/
theorem g_cls {c1 c2 : ClassId} {ty : FieldType} {U : State} (h1 : va_RA U c1 ty) (h2 : va_RA U c2 ty) (ht : ty = .int ∨ ty = .long ∨ ty = .boolean ∨ ty = .array .int) : c1 = c2 := by
  rcases ht with e | e | e | e <;> subst e
  · exact Option.some.inj ((show U.vm.findClass _ = some c1 from h1).symm.trans h2)
  · exact Option.some.inj ((show U.vm.findClass _ = some c1 from h1).symm.trans h2)
  · exact Option.some.inj ((show U.vm.findClass _ = some c1 from h1).symm.trans h2)
  · exact Option.some.inj ((show U.vm.findClass _ = some c1 from h1).symm.trans h2)
end GJS
