
abbrev jG : Type := Launch × va_G × (Nat → Nat) × (Nat → ClassId) × (Nat → Nat)
/-- the address of cell k of the world -/
def jA (g : jG) (k : Nat) : Nat := g.2.2.1 k
/-- the array classes: 0 int, 1 long, 2 boolean, 3 int[] -/
def jc (g : jG) (k : Nat) : ClassId := g.2.2.2.1 k
/-- the addresses of the static arrays -/
def jsa (g : jG) (k : Nat) : Nat := g.2.2.2.2 k
abbrev jMem : Type := Nat → va_E
def jW (g : jG) (M : jMem) : va_W := (List.range 52).map fun k => (jA g k, M k)
abbrev jTys (g : jG) : List (ClassId × FieldType) := [(jc g 0, .int), (jc g 1, .long), (jc g 2, .boolean), (jc g 3, .array .int)]
def jTB : List Cond := lw_tbl.filter goodWord
theorem jTB_in {w : Cond} (h : w ∈ lw_tbl) (hg : goodWord w = true) : w ∈ jTB := List.mem_filter.mpr ⟨h, hg⟩
abbrev jY : Type := MethodName × ByteArray × Nat × Option FieldType
def jWs (y : jY) : List Cond := Cond.code y.1 y.2.1 y.2.2.1 y.2.2.2 :: jTB
def jR (d : Nat) : Room := { frames := d, cells := 0, slots := 0, locals := 40 * d }
/-- the static arrays: class, name, descriptor, element type, length, contents -/
def jSt : Nat → String × String × String × FieldType × Nat × (Nat → Value)
  | 0 => ("WeighGates", "GATES_OF", "[I", .int, 5, fun j => .int ([0, 4, 14, 104, 1882].getD j 0))
  | 1 => ("WeighGates", "KINDS_OF", "[I", .int, 4, fun j => .int ([0, 2, 4, 14].getD j 0))
  | 2 => ("WeighGates", "KINDS_OF_GATES_OF", "[I", .int, 4, fun j => .int ([0, 2, 3, 6].getD j 0))
  | 3 => ("WeighGates$Rows", "WITH_INPUT", "[J", .long, 5, fun j => .long ([2863311530, 3435973836, 4042322160, 4278255360, 4294901760].getD j 0))
  | _ => ("WeighGates$GatePair", "SIZES", "[I", .int, 36, fun j => .int ([1, 2, 4, 1, 4, 2, 2, 1, 4, 2, 4, 1, 4, 1, 2, 4, 2, 1, 2, 3, 4, 2, 4, 3, 3, 2, 4, 3, 4, 2, 4, 2, 3, 4, 3, 2].getD j 0))
def jS (g : jG) (A : Nat → Prop) (U : State) : Prop := ∀ k, k < 5 → va_Z (jSt k).1 (jSt k).2.1 (jSt k).2.2.1 (.ref (jsa g k)) A U U.heap ∧ va_T (jSt k).2.2.2.1 (jsa g k) (jSt k).2.2.2.2.1 (jSt k).2.2.2.2.2 A U U.heap
def jC (g : jG) (y : jY) (p : Program) (s : State) (m : MethodId) (args : Array Value) (meth : Method) (c : Code) (A : Nat → Prop) : Prop :=
  p.tables.exec = Jvm.exec ∧ c.code = y.2.1 ∧ c.maxLocals = y.2.2.1 ∧ s.vm.findClass y.1.cls = some m.cls ∧ (∀ w ∈ jWs y, w.before args s = true) ∧ meth.sig.returnType = y.2.2.2 ∧ meth.locks = false ∧ va_K g.2.1 vwCl (jTys g) s ∧ jS g A s ∧ ∀ q, s.heap.size ≤ q → A q
def jL (ls : Array Slot) (n : Nat) (l : List (Option Value)) : Prop := ls.size = n ∧ lv_wf ls ∧ ∀ (i : Nat) (v : Value), l[i]? = some (some v) → ls[i]? = some (.val v)
def jQ (g : jG) (K : Option Value → jMem → Prop) (A : Nat → Prop) : Array Value → State → Outcome → State → Prop := fun _ st oc t => (∃ (v : Option Value) (M : jMem), oc = .returned v ∧ K v M ∧ va_P g.2.1 vwCl (jW g M) t.heap ∧ va_D A (jW g M)) ∧ va_F A st t
/-- THE JUDGEMENT: from this frame, with the world's cells M, the method comes to its end, with an answer and cells of which K holds -/
def J (g : jG) (y : jY) (d : Nat) (K : Option Value → jMem → Prop) (pc : Nat) (ls : List (Option Value)) (st : List Value) (M : jMem) : Prop :=
  ∀ (p : Program) (e : Env) (s : State) (m : MethodId) (args : Array Value) (below : List Frame) (meth : Method) (c : Code) (A : Nat → Prop) (H : Heap) (locs : List Loc) (lr : Array Slot),
    jC g y p s m args meth c A → va_P g.2.1 vwCl (jW g M) H → va_D A (jW g M) → va_S A s.heap H locs → jL lr y.2.2.1 ls →
    W p g.1 e (jR d) s m args below meth c H locs 0 0 (MQ below (jQ g K A) args s 0 0 A) (F0 m pc lr st)
/-- A CONTRACT: called with As over the cells M, y returns with K -/
def Con (g : jG) (y : jY) (d : Nat) (As : List Value) (M : jMem) (K : Option Value → jMem → Prop) : Prop :=
  ∀ sz : Nat, Met g.1 y.1 (jWs y) (jR d) (va_Pc As (fun U => U.heap.size = sz ∧ va_P g.2.1 vwCl (jW g M) U.heap ∧ va_K g.2.1 vwCl (jTys g) U ∧ va_D (fun _ => True) (jW g M) ∧ jS g (va_A (jW g M) sz) U)) (jQ g K (va_A (jW g M) sz)) 0 0 (va_A (jW g M) sz)
theorem jW_get {g : jG} {M : jMem} {k : Nat} (h : k < 52) : (jW g M)[k]? = some (jA g k, M k) := by
  simp [jW, h]
theorem jW_set {g : jG} {M : jMem} {k : Nat} (hk : k < 52) (e : va_E) : (jW g M).set k (jA g k, e) = jW g (va_up M k e) := by
  apply List.ext_getElem?
  intro i
  by_cases hi : i = k
  · subst hi
    simp [jW, va_up, List.getElem?_set, hk]
  · simp [jW, va_up, hi, Ne.symm hi, List.getElem?_set]
    rcases Nat.lt_or_ge i 52 with h | h
    · simp [h, hi]
    · simp [h, Nat.not_lt.mpr h]
theorem jW_lt {g : jG} {M : jMem} {k : Nat} {q : Nat × va_E} (h : (jW g M)[k]? = some q) : k < 52 ∧ q = (jA g k, M k) := by
  have h1 := (List.getElem?_eq_some_iff.mp h).1
  have h2 : k < 52 := by simpa [jW] using h1
  refine ⟨h2, ?_⟩
  rw [jW_get h2] at h
  exact (Option.some.inj h).symm
/-- the locals with which a method begins -/
def jEnt : List Value → List (Option Value)
  | [] => []
  | v :: vs => if v.category = 2 then some v :: none :: jEnt vs else some v :: jEnt vs
theorem jEnt_in : ∀ (vs : List Value) (b i : Nat) (v : Value), (jEnt vs)[i]? = some (some v) → (b + i, v) ∈ lv_args b vs
  | [], b, i, v, h => by simp [jEnt] at h
  | w :: ws, b, i, v, h => by
    unfold lv_args
    unfold jEnt at h
    by_cases hc : w.category = 2
    · rw [if_pos hc] at h ⊢
      match i, h with
      | 0, h => simp at h; subst h; exact List.mem_cons_self
      | 1, h => simp at h
      | i + 2, h =>
        have h1 := jEnt_in ws (b + 2) i v (by simpa using h)
        have e : b + 2 + i = b + (i + 2) := by omega
        rw [e] at h1
        exact List.mem_cons_of_mem _ h1
    · rw [if_neg hc] at h ⊢
      match i, h with
      | 0, h => simp at h; subst h; exact List.mem_cons_self
      | i + 1, h =>
        have h1 := jEnt_in ws (b + 1) i v (by simpa using h)
        have e : b + 1 + i = b + (i + 1) := by omega
        rw [e] at h1
        exact List.mem_cons_of_mem _ h1
theorem jL_entry (vs : List Value) {n : Nat} (h : (lg_sl vs).length ≤ n) {l : List (Option Value)} (hl : l = jEnt vs ++ List.replicate (n - (jEnt vs).length) none) : jL ((lg_sl vs ++ List.replicate (n - (lg_sl vs).length) Slot.unset).toArray) n l := by
  obtain ⟨h1, h2, h3⟩ := lv_entry vs h
  refine ⟨h1, h2, fun i v hv => ?_⟩
  subst hl
  by_cases hi : i < (jEnt vs).length
  · rw [List.getElem?_append_left hi] at hv
    have := jEnt_in vs 0 i v hv
    rw [Nat.zero_add] at this
    exact h3 _ this
  · rw [List.getElem?_append_right (by omega)] at hv
    have := List.eq_of_mem_replicate (List.mem_of_getElem? hv)
    cases this
theorem con_of {g : jG} {y : jY} {d : Nat} {As : List Value} {M : jMem} {K : Option Value → jMem → Prop} {l : List (Option Value)} (hy : plainName y.1.cls = true) (hn : (lg_sl As).length ≤ y.2.2.1) (hl : l = jEnt As ++ List.replicate (y.2.2.1 - (jEnt As).length) none) (hJ : J g y d K 0 l [] M) : Con g y d As M K := by
  intro sz
  refine Met.ofW (cc := y.2.1) (maxL := y.2.2.1) (ret := y.2.2.2) hy rfl ?_
  intro p e s m args below meth c s₁ B hml hv
  obtain ⟨rfl, hsz, hP, hK, hD0, hS0⟩ := hv
  subst hsz
  rw [lg_entry_eq]
  exact hJ p e s m _ below meth c _ s.heap [] _ ⟨B.exec, B.bytes, hml, findClass_of_methodNamed B.named, atoms_spec (ws := jWs y) B.pre, B.returns, B.notSynchronized, hK, hS0, fun q h => Or.inr h⟩ hP hD0.self va_S.rf (jL_entry As hn hl)
theorem jS_moved {g : jG} {A B : Nat → Prop} {s U : State} {H : Heap} {locs : List Loc} (h : jS g A s) (hS : va_S A s.heap H locs) (hAB : ∀ q, B q → A q) (hU : U.heap = H) (hvm : s.vm.Alike U.vm) : jS g B U := by
  intro k hk
  obtain ⟨h1, h2⟩ := h k hk
  have kp : ∀ a : Nat, a < s.heap.size → ¬ A a → H[a]? = s.heap[a]? := fun a h1 h2 => hS.2.1 a h1 h2
  rw [hU]
  exact ⟨((h1.kept kp).narrow hAB).moved hvm, ((h2.kept kp).narrow hAB).moved hvm⟩
/-- the callee's words are among the caller's -/
theorem jGood (y y2 : jY) (hc : Cond.code y2.1 y2.2.1 y2.2.2.1 y2.2.2.2 ∈ jTB) : GoodIn (jWs y) (jWs y2) := by
  intro w hw
  have h1 : w ∈ jTB := by
    rcases List.mem_cons.mp hw with h | h
    · rw [h]; exact hc
    · exact h
  exact ⟨List.mem_cons_of_mem _ h1, good_of_word (List.mem_filter.mp h1).2⟩
/-- what holds of a static callee, and of one called on an object -/
def jCalS (y : jY) (n : Nat) : Prop := Cond.code y.1 y.2.1 y.2.2.1 y.2.2.2 ∈ jTB ∧ Cond.static y.1 ∈ jTB ∧ Cond.initialized y.1.cls ∈ jTB ∧ (y.1.cls ≠ "java/lang/invoke/MethodHandle" ∧ y.1.cls ≠ "java/lang/invoke/VarHandle" ∧ (parseMethodDescriptor y.1.desc).map (fun d => d.parameters.length) = some n) ∧ y.2.2.1 ≤ 21
def jCalV (y : jY) (n : Nat) : Prop := Cond.code y.1 y.2.1 y.2.2.1 y.2.2.2 ∈ jTB ∧ (Cond.instanceMethod y.1 ∈ jTB ∧ Cond.selects y.1.cls y.1 y.1 ∈ jTB) ∧ Cond.initialized y.1.cls ∈ jTB ∧ (y.1.cls ≠ "java/lang/invoke/MethodHandle" ∧ y.1.cls ≠ "java/lang/invoke/VarHandle" ∧ (parseMethodDescriptor y.1.desc).map (fun d => d.parameters.length) = some n) ∧ y.2.2.1 ≤ 21
section JC
variable {p : Program} {l : Launch} {e : Env} {R : Room} {s : State} {m : MethodId} {args : Array Value} {below : List Frame} {meth : Method} {c : Code} {H : Heap} {locs : List Loc} {Q : State → Prop}
theorem j_goon {g : jG} {K2 : Option Value → jMem → Prop} {A0 A1 : Nat → Prop} {a : Array Value} {pc : Nat} {ls : Array Slot} {st0 rest : List Value} {cells slots : Nat} (hr : va_Run p l e R s m args below meth c H locs cells slots 0 0 (F0 m pc ls st0) rest (jQ g K2 A1 a) A1) (hS : va_S A0 s.heap H locs) (hF : ∀ q, A1 q → A0 q)
    (kk : ∀ (v : Option Value) (M2 : jMem) (H1 : Heap) (locs1 : List Loc), K2 v M2 → va_P g.2.1 vwCl (jW g M2) H1 → va_D A0 (jW g M2) → va_S A0 s.heap H1 locs1 → W p l e R s m args below meth c H1 locs1 cells slots Q (F0 m (pc + 3) ls (v.toList ++ rest))) : W p l e R s m args below meth c H locs cells slots Q (F0 m pc ls st0) := by
  intro T hT X
  obtain ⟨v, st₀, t, T', L, h0, X', hL, e1, e2, ⟨⟨w, M2, hv, hp, hb, hd⟩, hz, hk⟩, st⟩ := hr T hT X
  cases hv
  rw [h0] at hz hk
  obtain ⟨t2, a1, b1⟩ := kk v M2 T'.heap (locs ++ L) hp (by rw [e1]; exact hb) (hd.weaken (fun _ q _ h => hF q.1 h))
    ⟨Nat.le_trans hS.1 (by rw [e1]; exact hz), fun q h1 h2 => by rw [e1, hk q (Nat.lt_of_lt_of_le h1 hS.1) (fun z => h2 (hF q z))]; exact hS.2.1 q h1 h2, fun q hq => by
      rcases List.mem_append.mp hq with h | h
      · exact hS.2.2 q h
      · exact hF _ (hL q h)⟩ T' rfl X'
  exact ⟨t2, st t2 a1, b1⟩
end JC
theorem j_blind {g : jG} {B : Nat → Prop} {M : jMem} {As : List Value} {sz : Nat} : FrameBlind (va_Pc As (fun U => U.heap.size = sz ∧ va_P g.2.1 vwCl (jW g M) U.heap ∧ va_K g.2.1 vwCl (jTys g) U ∧ va_D (fun _ => True) (jW g M) ∧ jS g B U)) := by
  intro a U gf mk q
  obtain ⟨q0, q1, qP, qK, qD, qS⟩ := q
  exact ⟨q0, q1, qP, va_K.moved (u := U) (U := U.calling gf mk a) (Vm.Alike.refl U.vm) qK, qD, fun k hk => ⟨va_Z.moved (u := U) (U := U.calling gf mk a) (Vm.Alike.refl U.vm) (qS k hk).1, va_T.moved (u := U) (U := U.calling gf mk a) (Vm.Alike.refl U.vm) (qS k hk).2⟩⟩
theorem j_free {g : jG} {A : Nat → Prop} {M : jMem} {s : State} {H : Heap} {locs : List Loc} (hD : va_D A (jW g M)) (hS : va_S A s.heap H locs) (hA : ∀ q, s.heap.size ≤ q → A q) : ∀ q, va_A (jW g M) H.size q → A q := by
  intro q h
  rcases h with ⟨k, e, h⟩ | h
  · exact hD.2 k (q, e) h
  · exact hA q (Nat.le_trans hS.1 h)
section JR
variable {g : jG} {y : jY} {d : Nat} {K : Option Value → jMem → Prop} {pc n : Nat} {ls : List (Option Value)} {st : List Value} {M : jMem}
theorem j_callS {y2 : jY} {d2 idx : Nat} {nA : Nat} (As : List Value) {K2 : Option Value → jMem → Prop} (hC : Con g y2 d2 As M K2) (hd : decode y.2.1 pc = .ok (.invokestatic idx, 3)) (hn : pc + 3 = n) (hcal : jCalS y2 nA) (hl : Cond.methodLink y.1.cls idx y2.1 ∈ jTB) (hd2 : d2 < d) (hnA : As.length = nA) {st0 : List Value} (hst : st0 = As.reverse ++ st) (hW : (st.map fun v => v.category).sum ≤ 8)
    (kk : ∀ (v : Option Value) (M2 : jMem), K2 v M2 → J g y d K n ls (v.toList ++ st) M2) : J g y d K pc ls st0 M := by
  intro p e s m args below meth c A H locs lr C hP hD hS hL
  subst hn
  obtain ⟨hx, hb, hml, hown, hts, hr, hlk, hK, hS0, hA⟩ := id C
  have hF := j_free hD hS hA
  refine j_goon (va_runS (As := As) (rest := st) (n := nA) (g := F0 m pc lr st0) ⟨hx, hb, hml, hown, hts⟩ (hC H.size) ⟨callB_of nA hts (jGood y y2 hcal.1) rfl rfl rfl (hts _ (List.mem_cons_of_mem _ hcal.2.2.1)) (hts _ (List.mem_cons_of_mem _ hl)) hcal.2.2.2.1 ⟨hd2, ?_⟩, hts _ (List.mem_cons_of_mem _ hcal.2.1)⟩ ⟨j_blind, fun U hU hW => ⟨rfl, by rw [hU], by rw [hU]; exact hP, va_K.moved hW.alike hK, hD.weaken (fun _ _ _ _ => trivial), jS_moved hS0 hS hF hU hW.alike⟩⟩ rfl hnA hL.1 hst (lv_room hW) hd ⟨Nat.le_refl _, Nat.le_refl _⟩) hS hF ?_
  · have := hcal.2.2.2.2
    show 8 + (y2.2.2.1 + 11) + 40 * d2 ≤ 40 * d
    omega
  · intro v M2 H1 locs1 hk hP1 hD1 hS1
    exact kk v M2 hk p e s m args below meth c A H1 locs1 lr C hP1 hD1 hS1 hL
theorem j_callV {y2 : jY} {d2 idx : Nat} {nA : Nat} (As : List Value) {K2 : Option Value → jMem → Prop} {kc ci : Nat} {q : vw_C} {fs : List Value} (hC : Con g y2 d2 (.ref (jA g kc) :: As) M K2) (hd : decode y.2.1 pc = .ok (.invokevirtual idx, 3)) (hn : pc + 3 = n) (hcal : jCalV y2 nA) (hl : Cond.methodLink y.1.cls idx y2.1 ∈ jTB) (hd2 : d2 < d) (hnA : As.length = nA) (hkc : kc < 52) (hM : M kc = .inr (ci, fs)) (hci : vwCl[ci]? = some q) (hq : q.1 = y2.1.cls) {st0 : List Value} (hst : st0 = As.reverse ++ .ref (jA g kc) :: st) (hW : (st.map fun v => v.category).sum ≤ 8)
    (kk : ∀ (v : Option Value) (M2 : jMem), K2 v M2 → J g y d K n ls (v.toList ++ st) M2) : J g y d K pc ls st0 M := by
  intro p e s m args below meth c A H locs lr C hP hD hS hL
  subst hn
  obtain ⟨hx, hb, hml, hown, hts, hr, hlk, hK, hS0, hA⟩ := id C
  have hF := j_free hD hS hA
  have hrc := va_recv hK hP hci (q0 := kc) (a := jA g kc) (fs := fs) (by rw [jW_get hkc, hM])
  rw [hq] at hrc
  refine j_goon (va_runV (C := y2.1.cls) (As := As) (rest := st) (n := nA) (g := F0 m pc lr st0) ⟨hx, hb, hml, hown, hts⟩ (hC H.size) ⟨callB_of nA hts (jGood y y2 hcal.1) rfl rfl rfl (hts _ (List.mem_cons_of_mem _ hcal.2.2.1)) (hts _ (List.mem_cons_of_mem _ hl)) hcal.2.2.2.1 ⟨hd2, ?_⟩, hts _ (List.mem_cons_of_mem _ hcal.2.1.1), hts _ (List.mem_cons_of_mem _ hcal.2.1.2)⟩ ⟨j_blind, hrc, fun U hU hW => ⟨rfl, by rw [hU], by rw [hU]; exact hP, va_K.moved hW.alike hK, hD.weaken (fun _ _ _ _ => trivial), jS_moved hS0 hS hF hU hW.alike⟩⟩ rfl hnA hL.1 hst (lv_room hW) hd ⟨Nat.le_refl _, Nat.le_refl _⟩) hS hF ?_
  · have := hcal.2.2.2.2
    show 8 + (y2.2.2.1 + 11) + 40 * d2 ≤ 40 * d
    omega
  · intro v M2 H1 locs1 hk hP1 hD1 hS1
    exact kk v M2 hk p e s m args below meth c A H1 locs1 lr C hP1 hD1 hS1 hL

theorem j_iadd {a b : Int32} (hd : decode y.2.1 pc = .ok (.iadd, 1)) (hn : pc + 1 = n)  (k : J g y d K n ls (.int (a + b) :: st) M) : J g y d K pc ls (.int b :: .int a :: st) M := by
  intro p e s m args below meth c A H locs lr C hP hD hS hL
  subst hn
  exact lv_iadd C.1 C.2.1 hd (k p e s m args below meth c A H locs lr C hP hD hS hL)
theorem j_isub {a b : Int32} (hd : decode y.2.1 pc = .ok (.isub, 1)) (hn : pc + 1 = n)  (k : J g y d K n ls (.int (a - b) :: st) M) : J g y d K pc ls (.int b :: .int a :: st) M := by
  intro p e s m args below meth c A H locs lr C hP hD hS hL
  subst hn
  exact lv_isub C.1 C.2.1 hd (k p e s m args below meth c A H locs lr C hP hD hS hL)
theorem j_imul {a b : Int32} (hd : decode y.2.1 pc = .ok (.imul, 1)) (hn : pc + 1 = n)  (k : J g y d K n ls (.int (a * b) :: st) M) : J g y d K pc ls (.int b :: .int a :: st) M := by
  intro p e s m args below meth c A H locs lr C hP hD hS hL
  subst hn
  exact lv_imul C.1 C.2.1 hd (k p e s m args below meth c A H locs lr C hP hD hS hL)
theorem j_iand {a b : Int32} (hd : decode y.2.1 pc = .ok (.iand, 1)) (hn : pc + 1 = n)  (k : J g y d K n ls (.int (a &&& b) :: st) M) : J g y d K pc ls (.int b :: .int a :: st) M := by
  intro p e s m args below meth c A H locs lr C hP hD hS hL
  subst hn
  exact lv_iand C.1 C.2.1 hd (k p e s m args below meth c A H locs lr C hP hD hS hL)
theorem j_ior {a b : Int32} (hd : decode y.2.1 pc = .ok (.ior, 1)) (hn : pc + 1 = n)  (k : J g y d K n ls (.int (a ||| b) :: st) M) : J g y d K pc ls (.int b :: .int a :: st) M := by
  intro p e s m args below meth c A H locs lr C hP hD hS hL
  subst hn
  exact lv_ior C.1 C.2.1 hd (k p e s m args below meth c A H locs lr C hP hD hS hL)
theorem j_ixor {a b : Int32} (hd : decode y.2.1 pc = .ok (.ixor, 1)) (hn : pc + 1 = n)  (k : J g y d K n ls (.int (a ^^^ b) :: st) M) : J g y d K pc ls (.int b :: .int a :: st) M := by
  intro p e s m args below meth c A H locs lr C hP hD hS hL
  subst hn
  exact lv_ixor C.1 C.2.1 hd (k p e s m args below meth c A H locs lr C hP hD hS hL)
theorem j_ishl {a b : Int32} (hd : decode y.2.1 pc = .ok (.ishl, 1)) (hn : pc + 1 = n)  (k : J g y d K n ls (.int (a <<< (b &&& 31)) :: st) M) : J g y d K pc ls (.int b :: .int a :: st) M := by
  intro p e s m args below meth c A H locs lr C hP hD hS hL
  subst hn
  exact lv_ishl C.1 C.2.1 hd (k p e s m args below meth c A H locs lr C hP hD hS hL)
theorem j_ishr {a b : Int32} (hd : decode y.2.1 pc = .ok (.ishr, 1)) (hn : pc + 1 = n)  (k : J g y d K n ls (.int (a >>> (b &&& 31)) :: st) M) : J g y d K pc ls (.int b :: .int a :: st) M := by
  intro p e s m args below meth c A H locs lr C hP hD hS hL
  subst hn
  exact lv_ishr C.1 C.2.1 hd (k p e s m args below meth c A H locs lr C hP hD hS hL)
theorem j_iushr {a b : Int32} (hd : decode y.2.1 pc = .ok (.iushr, 1)) (hn : pc + 1 = n)  (k : J g y d K n ls (.int (a.toUInt32 >>> (b.toUInt32 &&& Int32.toUInt32 31)).toInt32 :: st) M) : J g y d K pc ls (.int b :: .int a :: st) M := by
  intro p e s m args below meth c A H locs lr C hP hD hS hL
  subst hn
  exact lv_iushr C.1 C.2.1 hd rfl (k p e s m args below meth c A H locs lr C hP hD hS hL)
theorem j_idiv {a b : Int32} (hd : decode y.2.1 pc = .ok (.idiv, 1)) (hn : pc + 1 = n) (h0 : ¬ b = 0) (k : J g y d K n ls (.int (a / b) :: st) M) : J g y d K pc ls (.int b :: .int a :: st) M := by
  intro p e s m args below meth c A H locs lr C hP hD hS hL
  subst hn
  exact lv_idiv C.1 C.2.1 hd h0 (k p e s m args below meth c A H locs lr C hP hD hS hL)
theorem j_irem {a b : Int32} (hd : decode y.2.1 pc = .ok (.irem, 1)) (hn : pc + 1 = n) (h0 : ¬ b = 0) (k : J g y d K n ls (.int (a - a / b * b) :: st) M) : J g y d K pc ls (.int b :: .int a :: st) M := by
  intro p e s m args below meth c A H locs lr C hP hD hS hL
  subst hn
  exact lv_irem C.1 C.2.1 hd h0 (k p e s m args below meth c A H locs lr C hP hD hS hL)
theorem j_ineg {a : Int32} (hd : decode y.2.1 pc = .ok (.ineg, 1)) (hn : pc + 1 = n)  (k : J g y d K n ls (.int (-a) :: st) M) : J g y d K pc ls (.int a :: st) M := by
  intro p e s m args below meth c A H locs lr C hP hD hS hL
  subst hn
  exact lv_ineg C.1 C.2.1 hd (k p e s m args below meth c A H locs lr C hP hD hS hL)
theorem j_ladd {a b : Int64} (hd : decode y.2.1 pc = .ok (.ladd, 1)) (hn : pc + 1 = n)  (k : J g y d K n ls (.long (a + b) :: st) M) : J g y d K pc ls (.long b :: .long a :: st) M := by
  intro p e s m args below meth c A H locs lr C hP hD hS hL
  subst hn
  exact lv_ladd C.1 C.2.1 hd (k p e s m args below meth c A H locs lr C hP hD hS hL)
theorem j_lsub {a b : Int64} (hd : decode y.2.1 pc = .ok (.lsub, 1)) (hn : pc + 1 = n)  (k : J g y d K n ls (.long (a - b) :: st) M) : J g y d K pc ls (.long b :: .long a :: st) M := by
  intro p e s m args below meth c A H locs lr C hP hD hS hL
  subst hn
  exact lv_lsub C.1 C.2.1 hd (k p e s m args below meth c A H locs lr C hP hD hS hL)
theorem j_land {a b : Int64} (hd : decode y.2.1 pc = .ok (.land, 1)) (hn : pc + 1 = n)  (k : J g y d K n ls (.long (a &&& b) :: st) M) : J g y d K pc ls (.long b :: .long a :: st) M := by
  intro p e s m args below meth c A H locs lr C hP hD hS hL
  subst hn
  exact lv_land C.1 C.2.1 hd (k p e s m args below meth c A H locs lr C hP hD hS hL)
theorem j_lor {a b : Int64} (hd : decode y.2.1 pc = .ok (.lor, 1)) (hn : pc + 1 = n)  (k : J g y d K n ls (.long (a ||| b) :: st) M) : J g y d K pc ls (.long b :: .long a :: st) M := by
  intro p e s m args below meth c A H locs lr C hP hD hS hL
  subst hn
  exact lv_lor C.1 C.2.1 hd (k p e s m args below meth c A H locs lr C hP hD hS hL)
theorem j_lxor {a b : Int64} (hd : decode y.2.1 pc = .ok (.lxor, 1)) (hn : pc + 1 = n)  (k : J g y d K n ls (.long (a ^^^ b) :: st) M) : J g y d K pc ls (.long b :: .long a :: st) M := by
  intro p e s m args below meth c A H locs lr C hP hD hS hL
  subst hn
  exact lv_lxor C.1 C.2.1 hd (k p e s m args below meth c A H locs lr C hP hD hS hL)
theorem j_ldiv {a b : Int64} (hd : decode y.2.1 pc = .ok (.ldiv, 1)) (hn : pc + 1 = n) (h0 : ¬ b = 0) (k : J g y d K n ls (.long (a / b) :: st) M) : J g y d K pc ls (.long b :: .long a :: st) M := by
  intro p e s m args below meth c A H locs lr C hP hD hS hL
  subst hn
  exact lv_ldiv C.1 C.2.1 hd h0 (k p e s m args below meth c A H locs lr C hP hD hS hL)
theorem j_lrem {a b : Int64} (hd : decode y.2.1 pc = .ok (.lrem, 1)) (hn : pc + 1 = n) (h0 : ¬ b = 0) (k : J g y d K n ls (.long (a - a / b * b) :: st) M) : J g y d K pc ls (.long b :: .long a :: st) M := by
  intro p e s m args below meth c A H locs lr C hP hD hS hL
  subst hn
  exact lv_lrem C.1 C.2.1 hd h0 (k p e s m args below meth c A H locs lr C hP hD hS hL)
theorem j_lshl {a : Int64} {b : Int32} (hd : decode y.2.1 pc = .ok (.lshl, 1)) (hn : pc + 1 = n)  (k : J g y d K n ls (.long (a <<< (b.toInt64 &&& 63)) :: st) M) : J g y d K pc ls (.int b :: .long a :: st) M := by
  intro p e s m args below meth c A H locs lr C hP hD hS hL
  subst hn
  exact lv_lshl C.1 C.2.1 hd rfl (k p e s m args below meth c A H locs lr C hP hD hS hL)
theorem j_lshr {a : Int64} {b : Int32} (hd : decode y.2.1 pc = .ok (.lshr, 1)) (hn : pc + 1 = n)  (k : J g y d K n ls (.long (a >>> (b.toInt64 &&& 63)) :: st) M) : J g y d K pc ls (.int b :: .long a :: st) M := by
  intro p e s m args below meth c A H locs lr C hP hD hS hL
  subst hn
  exact lv_lshr C.1 C.2.1 hd rfl (k p e s m args below meth c A H locs lr C hP hD hS hL)
theorem j_lushr {a : Int64} {b : Int32} (hd : decode y.2.1 pc = .ok (.lushr, 1)) (hn : pc + 1 = n)  (k : J g y d K n ls (.long (a.toUInt64 >>> (b.toInt64.toUInt64 &&& Int64.toUInt64 63)).toInt64 :: st) M) : J g y d K pc ls (.int b :: .long a :: st) M := by
  intro p e s m args below meth c A H locs lr C hP hD hS hL
  subst hn
  exact lv_lushr C.1 C.2.1 hd rfl (k p e s m args below meth c A H locs lr C hP hD hS hL)
theorem j_lcmp {a b : Int64} (hd : decode y.2.1 pc = .ok (.lcmp, 1)) (hn : pc + 1 = n)  (k : J g y d K n ls (.int (lg_cmp a b) :: st) M) : J g y d K pc ls (.long b :: .long a :: st) M := by
  intro p e s m args below meth c A H locs lr C hP hD hS hL
  subst hn
  exact W.lcmp C.1 C.2.1 hd (k p e s m args below meth c A H locs lr C hP hD hS hL)
theorem j_i2l {a : Int32} (hd : decode y.2.1 pc = .ok (.i2l, 1)) (hn : pc + 1 = n)  (k : J g y d K n ls (.long a.toInt64 :: st) M) : J g y d K pc ls (.int a :: st) M := by
  intro p e s m args below meth c A H locs lr C hP hD hS hL
  subst hn
  exact lv_i2l C.1 C.2.1 hd rfl (k p e s m args below meth c A H locs lr C hP hD hS hL)
theorem j_l2i {a : Int64} (hd : decode y.2.1 pc = .ok (.l2i, 1)) (hn : pc + 1 = n)  (k : J g y d K n ls (.int a.toInt32 :: st) M) : J g y d K pc ls (.long a :: st) M := by
  intro p e s m args below meth c A H locs lr C hP hD hS hL
  subst hn
  exact lv_l2i C.1 C.2.1 hd rfl (k p e s m args below meth c A H locs lr C hP hD hS hL)
theorem j_iconst {z : Int} (v : Int32) (hd : decode y.2.1 pc = .ok (.iconst z, 1)) (hn : pc + 1 = n) (hv : Int32.ofInt z = v) (k : J g y d K n ls (.int v :: st) M) : J g y d K pc ls st M := by
  intro p e s m args below meth c A H locs lr C hP hD hS hL
  subst hn
  exact lv_iconst C.1 C.2.1 hd hv (k p e s m args below meth c A H locs lr C hP hD hS hL)
theorem j_bipush {z : Int} (v : Int32) (hd : decode y.2.1 pc = .ok (.bipush z, 2)) (hn : pc + 2 = n) (hv : (Int8.ofInt z).toInt32 = v) (k : J g y d K n ls (.int v :: st) M) : J g y d K pc ls st M := by
  intro p e s m args below meth c A H locs lr C hP hD hS hL
  subst hn
  exact lv_bipush C.1 C.2.1 hd hv (k p e s m args below meth c A H locs lr C hP hD hS hL)
theorem j_sipush {z : Int} (v : Int32) (hd : decode y.2.1 pc = .ok (.sipush z, 3)) (hn : pc + 3 = n) (hv : (Int16.ofInt z).toInt32 = v) (k : J g y d K n ls (.int v :: st) M) : J g y d K pc ls st M := by
  intro p e s m args below meth c A H locs lr C hP hD hS hL
  subst hn
  exact lv_sipush C.1 C.2.1 hd hv (k p e s m args below meth c A H locs lr C hP hD hS hL)
theorem j_lconst {z : Fin 2} (v : Int64) (hd : decode y.2.1 pc = .ok (.lconst z, 1)) (hn : pc + 1 = n) (hv : Int64.ofNat (z : Nat) = v) (k : J g y d K n ls (.long v :: st) M) : J g y d K pc ls st M := by
  intro p e s m args below meth c A H locs lr C hP hD hS hL
  subst hn
  exact lv_lconst C.1 C.2.1 hd hv (k p e s m args below meth c A H locs lr C hP hD hS hL)
theorem j_ldc {i : Nat} {v : Int32} (hd : decode y.2.1 pc = .ok (.ldc i, 2)) (hn : pc + 2 = n) (hw : Cond.constant y.1.cls i v ∈ jTB) (k : J g y d K n ls (.int v :: st) M) : J g y d K pc ls st M := by
  intro p e s m args below meth c A H locs lr C hP hD hS hL
  subst hn
  exact lv_ldc C.1 C.2.1 C.2.2.2.1 (C.2.2.2.2.1 _ (List.mem_cons_of_mem _ hw)) hd (k p e s m args below meth c A H locs lr C hP hD hS hL)
theorem j_ldcw {i : Nat} {v : Int32} (hd : decode y.2.1 pc = .ok (.ldc_w i, 3)) (hn : pc + 3 = n) (hw : Cond.constant y.1.cls i v ∈ jTB) (k : J g y d K n ls (.int v :: st) M) : J g y d K pc ls st M := by
  intro p e s m args below meth c A H locs lr C hP hD hS hL
  subst hn
  exact lv_ldcw C.1 C.2.1 C.2.2.2.1 (C.2.2.2.2.1 _ (List.mem_cons_of_mem _ hw)) hd (k p e s m args below meth c A H locs lr C hP hD hS hL)
theorem j_ldc2 {i : Nat} {v : Int64} (hd : decode y.2.1 pc = .ok (.ldc2_w i, 3)) (hn : pc + 3 = n) (hw : Cond.constantLong y.1.cls i v ∈ jTB) (k : J g y d K n ls (.long v :: st) M) : J g y d K pc ls st M := by
  intro p e s m args below meth c A H locs lr C hP hD hS hL
  subst hn
  exact lv_ldc2 C.1 C.2.1 C.2.2.2.1 (C.2.2.2.2.1 _ (List.mem_cons_of_mem _ hw)) hd (k p e s m args below meth c A H locs lr C hP hD hS hL)
theorem j_dup {v : Value} (hd : decode y.2.1 pc = .ok (.dup, 1)) (hn : pc + 1 = n) (hv : v.category = 1) (k : J g y d K n ls (v :: v :: st) M) : J g y d K pc ls (v :: st) M := by
  intro p e s m args below meth c A H locs lr C hP hD hS hL
  subst hn
  exact lv_dup C.1 C.2.1 hd hv (k p e s m args below meth c A H locs lr C hP hD hS hL)
theorem j_dup2_11 {v u : Value} (hd : decode y.2.1 pc = .ok (.dup2, 1)) (hn : pc + 1 = n) (hv : v.category = 1) (hu : u.category = 1) (k : J g y d K n ls (v :: u :: v :: u :: st) M) : J g y d K pc ls (v :: u :: st) M := by
  intro p e s m args below meth c A H locs lr C hP hD hS hL
  subst hn
  exact lv_dup2_11 C.1 C.2.1 hd hv hu (k p e s m args below meth c A H locs lr C hP hD hS hL)
theorem j_pop {v : Value} (hd : decode y.2.1 pc = .ok (.pop, 1)) (hn : pc + 1 = n) (hv : v.category = 1) (k : J g y d K n ls st M) : J g y d K pc ls (v :: st) M := by
  intro p e s m args below meth c A H locs lr C hP hD hS hL
  subst hn
  exact lv_pop C.1 C.2.1 hd hv (k p e s m args below meth c A H locs lr C hP hD hS hL)
theorem j_if_eq {a : Int32} {off : Int} (t : Nat) (hd : decode y.2.1 pc = .ok (.ifCond .eq off, 3)) (hn : pc + 3 = n) (ht : (pc : Int) + off = (t : Int)) (kt : a = 0 → J g y d K t ls st M) (kf : ¬ a = 0 → J g y d K n ls st M) : J g y d K pc ls (.int a :: st) M := by
  intro p e s m args below meth c A H locs lr C hP hD hS hL
  subst hn
  exact lv_if_eq C.1 C.2.1 hd ht (fun h => kt h p e s m args below meth c A H locs lr C hP hD hS hL) (fun h => kf h p e s m args below meth c A H locs lr C hP hD hS hL)
theorem j_if_ne {a : Int32} {off : Int} (t : Nat) (hd : decode y.2.1 pc = .ok (.ifCond .ne off, 3)) (hn : pc + 3 = n) (ht : (pc : Int) + off = (t : Int)) (kt : a ≠ 0 → J g y d K t ls st M) (kf : a = 0 → J g y d K n ls st M) : J g y d K pc ls (.int a :: st) M := by
  intro p e s m args below meth c A H locs lr C hP hD hS hL
  subst hn
  exact lv_if_ne C.1 C.2.1 hd ht (fun h => kt h p e s m args below meth c A H locs lr C hP hD hS hL) (fun h => kf h p e s m args below meth c A H locs lr C hP hD hS hL)
theorem j_if_lt {a : Int32} {off : Int} (t : Nat) (hd : decode y.2.1 pc = .ok (.ifCond .lt off, 3)) (hn : pc + 3 = n) (ht : (pc : Int) + off = (t : Int)) (kt : a < 0 → J g y d K t ls st M) (kf : ¬ a < 0 → J g y d K n ls st M) : J g y d K pc ls (.int a :: st) M := by
  intro p e s m args below meth c A H locs lr C hP hD hS hL
  subst hn
  exact lv_if_lt C.1 C.2.1 hd ht (fun h => kt h p e s m args below meth c A H locs lr C hP hD hS hL) (fun h => kf h p e s m args below meth c A H locs lr C hP hD hS hL)
theorem j_if_ge {a : Int32} {off : Int} (t : Nat) (hd : decode y.2.1 pc = .ok (.ifCond .ge off, 3)) (hn : pc + 3 = n) (ht : (pc : Int) + off = (t : Int)) (kt : 0 ≤ a → J g y d K t ls st M) (kf : ¬ 0 ≤ a → J g y d K n ls st M) : J g y d K pc ls (.int a :: st) M := by
  intro p e s m args below meth c A H locs lr C hP hD hS hL
  subst hn
  exact lv_if_ge C.1 C.2.1 hd ht (fun h => kt h p e s m args below meth c A H locs lr C hP hD hS hL) (fun h => kf h p e s m args below meth c A H locs lr C hP hD hS hL)
theorem j_if_gt {a : Int32} {off : Int} (t : Nat) (hd : decode y.2.1 pc = .ok (.ifCond .gt off, 3)) (hn : pc + 3 = n) (ht : (pc : Int) + off = (t : Int)) (kt : 0 < a → J g y d K t ls st M) (kf : ¬ 0 < a → J g y d K n ls st M) : J g y d K pc ls (.int a :: st) M := by
  intro p e s m args below meth c A H locs lr C hP hD hS hL
  subst hn
  exact lv_if_gt C.1 C.2.1 hd ht (fun h => kt h p e s m args below meth c A H locs lr C hP hD hS hL) (fun h => kf h p e s m args below meth c A H locs lr C hP hD hS hL)
theorem j_if_le {a : Int32} {off : Int} (t : Nat) (hd : decode y.2.1 pc = .ok (.ifCond .le off, 3)) (hn : pc + 3 = n) (ht : (pc : Int) + off = (t : Int)) (kt : a ≤ 0 → J g y d K t ls st M) (kf : ¬ a ≤ 0 → J g y d K n ls st M) : J g y d K pc ls (.int a :: st) M := by
  intro p e s m args below meth c A H locs lr C hP hD hS hL
  subst hn
  exact lv_if_le C.1 C.2.1 hd ht (fun h => kt h p e s m args below meth c A H locs lr C hP hD hS hL) (fun h => kf h p e s m args below meth c A H locs lr C hP hD hS hL)
theorem j_icmp_eq {a b : Int32} {off : Int} (t : Nat) (hd : decode y.2.1 pc = .ok (.if_icmp .eq off, 3)) (hn : pc + 3 = n) (ht : (pc : Int) + off = (t : Int)) (kt : a = b → J g y d K t ls st M) (kf : ¬ a = b → J g y d K n ls st M) : J g y d K pc ls (.int b :: .int a :: st) M := by
  intro p e s m args below meth c A H locs lr C hP hD hS hL
  subst hn
  exact lv_icmp_eq C.1 C.2.1 hd ht (fun h => kt h p e s m args below meth c A H locs lr C hP hD hS hL) (fun h => kf h p e s m args below meth c A H locs lr C hP hD hS hL)
theorem j_icmp_ne {a b : Int32} {off : Int} (t : Nat) (hd : decode y.2.1 pc = .ok (.if_icmp .ne off, 3)) (hn : pc + 3 = n) (ht : (pc : Int) + off = (t : Int)) (kt : a ≠ b → J g y d K t ls st M) (kf : a = b → J g y d K n ls st M) : J g y d K pc ls (.int b :: .int a :: st) M := by
  intro p e s m args below meth c A H locs lr C hP hD hS hL
  subst hn
  exact lv_icmp_ne C.1 C.2.1 hd ht (fun h => kt h p e s m args below meth c A H locs lr C hP hD hS hL) (fun h => kf h p e s m args below meth c A H locs lr C hP hD hS hL)
theorem j_icmp_lt {a b : Int32} {off : Int} (t : Nat) (hd : decode y.2.1 pc = .ok (.if_icmp .lt off, 3)) (hn : pc + 3 = n) (ht : (pc : Int) + off = (t : Int)) (kt : a < b → J g y d K t ls st M) (kf : ¬ a < b → J g y d K n ls st M) : J g y d K pc ls (.int b :: .int a :: st) M := by
  intro p e s m args below meth c A H locs lr C hP hD hS hL
  subst hn
  exact lv_icmp_lt C.1 C.2.1 hd ht (fun h => kt h p e s m args below meth c A H locs lr C hP hD hS hL) (fun h => kf h p e s m args below meth c A H locs lr C hP hD hS hL)
theorem j_icmp_ge {a b : Int32} {off : Int} (t : Nat) (hd : decode y.2.1 pc = .ok (.if_icmp .ge off, 3)) (hn : pc + 3 = n) (ht : (pc : Int) + off = (t : Int)) (kt : b ≤ a → J g y d K t ls st M) (kf : ¬ b ≤ a → J g y d K n ls st M) : J g y d K pc ls (.int b :: .int a :: st) M := by
  intro p e s m args below meth c A H locs lr C hP hD hS hL
  subst hn
  exact lv_icmp_ge C.1 C.2.1 hd ht (fun h => kt h p e s m args below meth c A H locs lr C hP hD hS hL) (fun h => kf h p e s m args below meth c A H locs lr C hP hD hS hL)
theorem j_icmp_gt {a b : Int32} {off : Int} (t : Nat) (hd : decode y.2.1 pc = .ok (.if_icmp .gt off, 3)) (hn : pc + 3 = n) (ht : (pc : Int) + off = (t : Int)) (kt : b < a → J g y d K t ls st M) (kf : ¬ b < a → J g y d K n ls st M) : J g y d K pc ls (.int b :: .int a :: st) M := by
  intro p e s m args below meth c A H locs lr C hP hD hS hL
  subst hn
  exact lv_icmp_gt C.1 C.2.1 hd ht (fun h => kt h p e s m args below meth c A H locs lr C hP hD hS hL) (fun h => kf h p e s m args below meth c A H locs lr C hP hD hS hL)
theorem j_icmp_le {a b : Int32} {off : Int} (t : Nat) (hd : decode y.2.1 pc = .ok (.if_icmp .le off, 3)) (hn : pc + 3 = n) (ht : (pc : Int) + off = (t : Int)) (kt : a ≤ b → J g y d K t ls st M) (kf : ¬ a ≤ b → J g y d K n ls st M) : J g y d K pc ls (.int b :: .int a :: st) M := by
  intro p e s m args below meth c A H locs lr C hP hD hS hL
  subst hn
  exact lv_icmp_le C.1 C.2.1 hd ht (fun h => kt h p e s m args below meth c A H locs lr C hP hD hS hL) (fun h => kf h p e s m args below meth c A H locs lr C hP hD hS hL)
theorem j_goto {off : Int} (t : Nat) (hd : decode y.2.1 pc = .ok (.goto off, 3)) (ht : (pc : Int) + off = (t : Int)) (k : J g y d K t ls st M) : J g y d K pc ls st M := by
  intro p e s m args below meth c A H locs lr C hP hD hS hL
  exact lv_goto C.1 C.2.1 hd ht (k p e s m args below meth c A H locs lr C hP hD hS hL)
theorem j_iret {a : Int32} (hd : decode y.2.1 pc = .ok (.ireturn, 1)) (hr : y.2.2.2 = some .int) (hk : K (some (.int a)) M) : J g y d K pc ls [.int a] M := by
  intro p e s m args below meth c A H locs lr C hP hD hS hL
  exact W.iret C.1 C.2.1 (C.2.2.2.2.2.1.trans hr) (fun t ht hW => ⟨⟨_, M, rfl, hk, by rw [ht]; exact hP, hD⟩, hS.F ht⟩) hS.2.2 hd (hlocks := C.2.2.2.2.2.2.1)
theorem j_zret {a : Int32} (hd : decode y.2.1 pc = .ok (.ireturn, 1)) (hr : y.2.2.2 = some .boolean) (ha : narrow .boolean (.int a) = .int a) (hk : K (some (.int a)) M) : J g y d K pc ls [.int a] M := by
  intro p e s m args below meth c A H locs lr C hP hD hS hL
  exact W.zret C.1 C.2.1 (C.2.2.2.2.2.1.trans hr) ha (fun t ht hW => ⟨⟨_, M, rfl, hk, by rw [ht]; exact hP, hD⟩, hS.F ht⟩) hS.2.2 hd (hlocks := C.2.2.2.2.2.2.1)
theorem j_lret {a : Int64} (hd : decode y.2.1 pc = .ok (.lreturn, 1)) (hr : y.2.2.2 = some .long) (hk : K (some (.long a)) M) : J g y d K pc ls [.long a] M := by
  intro p e s m args below meth c A H locs lr C hP hD hS hL
  exact W.lret C.1 C.2.1 (C.2.2.2.2.2.1.trans hr) (fun t ht hW => ⟨⟨_, M, rfl, hk, by rw [ht]; exact hP, hD⟩, hS.F ht⟩) hS.2.2 hd (hlocks := C.2.2.2.2.2.2.1)
theorem j_vret (hd : decode y.2.1 pc = .ok (.return_, 1)) (hr : y.2.2.2 = none) (hk : K none M) : J g y d K pc ls [] M := by
  intro p e s m args below meth c A H locs lr C hP hD hS hL
  exact W.vret C.1 C.2.1 (C.2.2.2.2.2.1.trans hr) (fun t ht hW => ⟨⟨_, M, rfl, hk, by rw [ht]; exact hP, hD⟩, hS.F ht⟩) hS.2.2 hd (hlocks := C.2.2.2.2.2.2.1)

/-- the list of what is known, as the kit has it -/
def jAs (l : List (Option Value)) : List (Nat × Value) := (List.range l.length).filterMap fun i => match l[i]? with
  | some (some v) => some (i, v)
  | _ => none
theorem jAs_in {l : List (Option Value)} {i : Nat} {v : Value} : (i, v) ∈ jAs l ↔ l[i]? = some (some v) := by
  unfold jAs
  rw [List.mem_filterMap]
  constructor
  · rintro ⟨j, -, hj⟩
    split at hj
    · rename_i w hw
      cases hj
      exact hw
    · cases hj
  · intro h
    refine ⟨i, List.mem_range.mpr (List.getElem?_eq_some_iff.mp h).1, ?_⟩
    rw [h]
theorem jL_has {ls : Array Slot} {n : Nat} {l : List (Option Value)} (h : jL ls n l) : lv_has ls n (jAs l) := ⟨h.1, h.2.1, fun q hq => h.2.2 q.1 q.2 (jAs_in.mp hq)⟩
/-- no long begins just ahead of place i -/
def jFree (l : List (Option Value)) : Nat → Bool
  | 0 => true
  | i + 1 => match l[i]? with
    | some (some v) => !(v.category == 2)
    | _ => true
theorem jL_st1 {ls : Array Slot} {n i : Nat} {l : List (Option Value)} {v : Value} (hf : jFree l i = true) (h : lv_has ls n ((i, v) :: (jAs l).filter (fun q => !(q.1 == i) && !(q.1 + 1 == i && q.2.category == 2)))) : jL ls n (l.set i (some v)) := by
  refine ⟨h.1, h.2.1, fun j w hj => ?_⟩
  rw [List.getElem?_set] at hj
  by_cases e : i = j
  · subst e
    rw [if_pos rfl] at hj
    split at hj
    · cases hj
      exact h.2.2 (i, v) List.mem_cons_self
    · cases hj
  · rw [if_neg e] at hj
    refine h.2.2 (j, w) (List.mem_cons_of_mem _ (List.mem_filter.mpr ⟨jAs_in.mpr hj, ?_⟩))
    simp only [Bool.and_eq_true, Bool.not_eq_true', beq_eq_false_iff_ne, ne_eq, Bool.and_eq_false_iff]
    refine ⟨fun q => e q.symm, ?_⟩
    by_cases e2 : j + 1 = i
    · right
      subst e2
      simp only [jFree, hj] at hf
      simpa using hf
    · exact Or.inl e2
theorem jL_st2 {ls : Array Slot} {n i : Nat} {l : List (Option Value)} {v : Value} (hf : jFree l i = true) (h : lv_has ls n ((i, v) :: (jAs l).filter (fun q => !(q.1 == i) && (!(q.1 == i + 1) && !(q.1 + 1 == i && q.2.category == 2))))) : jL ls n ((l.set i (some v)).set (i + 1) none) := by
  refine ⟨h.1, h.2.1, fun j w hj => ?_⟩
  rw [List.getElem?_set] at hj
  by_cases e1 : i + 1 = j
  · rw [if_pos e1] at hj
    split at hj <;> cases hj
  rw [if_neg e1, List.getElem?_set] at hj
  by_cases e : i = j
  · subst e
    rw [if_pos rfl] at hj
    split at hj
    · cases hj
      exact h.2.2 (i, v) List.mem_cons_self
    · cases hj
  · rw [if_neg e] at hj
    refine h.2.2 (j, w) (List.mem_cons_of_mem _ (List.mem_filter.mpr ⟨jAs_in.mpr hj, ?_⟩))
    simp only [Bool.and_eq_true, Bool.not_eq_true', beq_eq_false_iff_ne, ne_eq, Bool.and_eq_false_iff]
    refine ⟨fun q => e q.symm, fun q => e1 q.symm, ?_⟩
    by_cases e2 : j + 1 = i
    · right
      subst e2
      simp only [jFree, hj] at hf
      simpa using hf
    · exact Or.inl e2

theorem j_iload_n {k4 : Fin 4} {x : Int32} (hd : decode y.2.1 pc = .ok (.iload_n k4, 1)) (hn : pc + 1 = n) (hl : ls[(k4 : Nat)]? = some (some (.int x))) (k : J g y d K n ls (.int x :: st) M) : J g y d K pc ls st M := by
  intro p e s m args below meth c A H locs lr C hP hD hS hL
  subst hn
  exact lv_iload_n C.1 C.2.1 hd rfl (hL.2.2 _ _ hl) (k p e s m args below meth c A H locs lr C hP hD hS hL)
theorem j_iload {i : Nat} {x : Int32} (hd : decode y.2.1 pc = .ok (.iload i, 2)) (hn : pc + 2 = n) (hl : ls[i]? = some (some (.int x))) (k : J g y d K n ls (.int x :: st) M) : J g y d K pc ls st M := by
  intro p e s m args below meth c A H locs lr C hP hD hS hL
  subst hn
  exact lv_iload C.1 C.2.1 hd (hL.2.2 _ _ hl) (k p e s m args below meth c A H locs lr C hP hD hS hL)
theorem j_lload_n {k4 : Fin 4} {x : Int64} (hd : decode y.2.1 pc = .ok (.lload_n k4, 1)) (hn : pc + 1 = n) (hl : ls[(k4 : Nat)]? = some (some (.long x))) (k : J g y d K n ls (.long x :: st) M) : J g y d K pc ls st M := by
  intro p e s m args below meth c A H locs lr C hP hD hS hL
  subst hn
  exact lv_lload_n C.1 C.2.1 hd rfl (hL.2.2 _ _ hl) (k p e s m args below meth c A H locs lr C hP hD hS hL)
theorem j_lload {i : Nat} {x : Int64} (hd : decode y.2.1 pc = .ok (.lload i, 2)) (hn : pc + 2 = n) (hl : ls[i]? = some (some (.long x))) (k : J g y d K n ls (.long x :: st) M) : J g y d K pc ls st M := by
  intro p e s m args below meth c A H locs lr C hP hD hS hL
  subst hn
  exact lv_lload C.1 C.2.1 hd (hL.2.2 _ _ hl) (k p e s m args below meth c A H locs lr C hP hD hS hL)
theorem j_aload_n {k4 : Fin 4} {x : Nat} (hd : decode y.2.1 pc = .ok (.aload_n k4, 1)) (hn : pc + 1 = n) (hl : ls[(k4 : Nat)]? = some (some (.ref x))) (k : J g y d K n ls (.ref x :: st) M) : J g y d K pc ls st M := by
  intro p e s m args below meth c A H locs lr C hP hD hS hL
  subst hn
  exact lv_aload_n C.1 C.2.1 hd rfl (hL.2.2 _ _ hl) (k p e s m args below meth c A H locs lr C hP hD hS hL)
theorem j_aload {i : Nat} {x : Nat} (hd : decode y.2.1 pc = .ok (.aload i, 2)) (hn : pc + 2 = n) (hl : ls[i]? = some (some (.ref x))) (k : J g y d K n ls (.ref x :: st) M) : J g y d K pc ls st M := by
  intro p e s m args below meth c A H locs lr C hP hD hS hL
  subst hn
  exact lv_aload C.1 C.2.1 hd (hL.2.2 _ _ hl) (k p e s m args below meth c A H locs lr C hP hD hS hL)
theorem j_istore {i : Nat} {x : Int32} (hd : decode y.2.1 pc = .ok (.istore i, 2)) (hn : pc + 2 = n) (hi : i < y.2.2.1) (hf : jFree ls i = true) (k : J g y d K n (ls.set i (some (.int x))) st M) : J g y d K pc ls (.int x :: st) M := by
  intro p e s m args below meth c A H locs lr C hP hD hS hL
  subst hn
  exact lv_istore C.1 C.2.1 hd (jL_has hL) hi rfl (fun ls2 h2 => k p e s m args below meth c A H locs ls2 C hP hD hS (jL_st1 hf h2))
theorem j_istore_n {k4 : Fin 4} {i : Nat} {x : Int32} (hd : decode y.2.1 pc = .ok (.istore_n k4, 1)) (hn : pc + 1 = n) (h4 : (k4 : Nat) = i) (hi : i < y.2.2.1) (hf : jFree ls i = true) (k : J g y d K n (ls.set i (some (.int x))) st M) : J g y d K pc ls (.int x :: st) M := by
  intro p e s m args below meth c A H locs lr C hP hD hS hL
  subst hn
  exact lv_istore_n C.1 C.2.1 hd h4 (jL_has hL) hi rfl (fun ls2 h2 => k p e s m args below meth c A H locs ls2 C hP hD hS (jL_st1 hf h2))
theorem j_astore {i : Nat} {x : Nat} (hd : decode y.2.1 pc = .ok (.astore i, 2)) (hn : pc + 2 = n) (hi : i < y.2.2.1) (hf : jFree ls i = true) (k : J g y d K n (ls.set i (some (.ref x))) st M) : J g y d K pc ls (.ref x :: st) M := by
  intro p e s m args below meth c A H locs lr C hP hD hS hL
  subst hn
  exact lv_astore C.1 C.2.1 hd (jL_has hL) hi rfl (fun ls2 h2 => k p e s m args below meth c A H locs ls2 C hP hD hS (jL_st1 hf h2))
theorem j_astore_n {k4 : Fin 4} {i : Nat} {x : Nat} (hd : decode y.2.1 pc = .ok (.astore_n k4, 1)) (hn : pc + 1 = n) (h4 : (k4 : Nat) = i) (hi : i < y.2.2.1) (hf : jFree ls i = true) (k : J g y d K n (ls.set i (some (.ref x))) st M) : J g y d K pc ls (.ref x :: st) M := by
  intro p e s m args below meth c A H locs lr C hP hD hS hL
  subst hn
  exact lv_astore_n C.1 C.2.1 hd h4 (jL_has hL) hi rfl (fun ls2 h2 => k p e s m args below meth c A H locs ls2 C hP hD hS (jL_st1 hf h2))
theorem j_lstore {i : Nat} {x : Int64} (hd : decode y.2.1 pc = .ok (.lstore i, 2)) (hn : pc + 2 = n) (hi : i + 1 < y.2.2.1) (hf : jFree ls i = true) (k : J g y d K n ((ls.set i (some (.long x))).set (i + 1) none) st M) : J g y d K pc ls (.long x :: st) M := by
  intro p e s m args below meth c A H locs lr C hP hD hS hL
  subst hn
  exact lv_lstore C.1 C.2.1 hd (jL_has hL) hi rfl (fun ls2 h2 => k p e s m args below meth c A H locs ls2 C hP hD hS (jL_st2 hf h2))
theorem j_lstore_n {k4 : Fin 4} {i : Nat} {x : Int64} (hd : decode y.2.1 pc = .ok (.lstore_n k4, 1)) (hn : pc + 1 = n) (h4 : (k4 : Nat) = i) (hi : i + 1 < y.2.2.1) (hf : jFree ls i = true) (k : J g y d K n ((ls.set i (some (.long x))).set (i + 1) none) st M) : J g y d K pc ls (.long x :: st) M := by
  intro p e s m args below meth c A H locs lr C hP hD hS hL
  subst hn
  exact lv_lstore_n C.1 C.2.1 hd h4 (jL_has hL) hi rfl (fun ls2 h2 => k p e s m args below meth c A H locs ls2 C hP hD hS (jL_st2 hf h2))
theorem j_iinc {i : Nat} {z : Int} {x v : Int32} (hd : decode y.2.1 pc = .ok (.iinc i z, 3)) (hn : pc + 3 = n) (hi : i < y.2.2.1) (hf : jFree ls i = true) (hl : ls[i]? = some (some (.int x))) (hv : x + Int32.ofInt z = v) (k : J g y d K n (ls.set i (some (.int v))) st M) : J g y d K pc ls st M := by
  intro p e s m args below meth c A H locs lr C hP hD hS hL
  subst hn
  obtain ⟨kk, hkk⟩ := List.getElem?_of_mem (jAs_in.mpr hl)
  exact lv_iinc C.1 C.2.1 hd (jL_has hL) hkk hv hi rfl (fun ls2 h2 => k p e s m args below meth c A H locs ls2 C hP hD hS (jL_st1 hf h2))

/-- what holds of class number ci: its row of vwCl, its words -/
def jCls (ci : Nat) (q : vw_C) : Prop := vwCl[ci]? = some q ∧ ∀ w ∈ u_ws q.1 q.2.1 q.2.2, w ∈ jTB
theorem j_get {idx ci k kc : Nat} {q : vw_C} {fs : List Value} {v : Value} (hd : decode y.2.1 pc = .ok (.getfield idx, 3)) (hn : pc + 3 = n) (hcl : jCls ci q) (hk : k < q.2.2) (hl : Cond.fieldLink y.1.cls idx (q.2.1 k).1 (q.2.1 k).2.1 (q.2.1 k).2.2.1 ∈ jTB) (hkc : kc < 52) (hM : M kc = .inr (ci, fs)) (hv : fs[k]? = some v) (kk : J g y d K n ls (v :: st) M) : J g y d K pc ls (.ref (jA g kc) :: st) M := by
  intro p e s m args below meth c A H locs lr C hP hD hS hL
  subst hn
  obtain ⟨hx, hb, hml, hown, hts, hr, hlk, hK, hS0, hA⟩ := id C
  exact va_get hx hb hts (fun w h => List.mem_cons_of_mem _ (hcl.2 w h)) hown hK hP kc (by rw [jW_get hkc, hM]) hcl.1 k hk (hts _ (List.mem_cons_of_mem _ hl)) (fun _ h => h) hv hd (kk p e s m args below meth c A H locs lr C hP hD hS hL)
theorem j_put {idx ci k kc : Nat} {q : vw_C} {fs fs2 : List Value} {v : Value} {ty0 : Nat → FieldType} {ty : FieldType} (hd : decode y.2.1 pc = .ok (.putfield idx, 3)) (hn : pc + 3 = n) (hcl : jCls ci q) (hty : ∀ k, k < q.2.2 → parseFieldDescriptor (q.2.1 k).2.2.1 = some (ty0 k)) (hnm : ∀ a, a < q.2.2 → ∀ b, b < q.2.2 → a ≠ b → (q.2.1 a).2.1 ≠ (q.2.1 b).2.1) (hk : k < q.2.2) (hfin : (q.2.1 k).2.2.2 = false) (hdt : parseFieldDescriptor (q.2.1 k).2.2.1 = some ty) (hl : Cond.fieldLink y.1.cls idx (q.2.1 k).1 (q.2.1 k).2.1 (q.2.1 k).2.2.1 ∈ jTB) (hnw : narrow ty v = v) (hft : fits ty v = true) (hkc : kc < 52) (hM : M kc = .inr (ci, fs)) (hlen : k < fs.length) (hfs : fs.set k v = fs2) (kk : J g y d K n ls st (va_up M kc (.inr (ci, fs2)))) : J g y d K pc ls (v :: .ref (jA g kc) :: st) M := by
  intro p e s m args below meth c A H locs lr C hP hD hS hL
  subst hn
  subst hfs
  obtain ⟨hx, hb, hml, hown, hts, hr, hlk, hK, hS0, hA⟩ := id C
  refine va_put hx hb hts (fun w h => List.mem_cons_of_mem _ (hcl.2 w h)) ty0 hty hnm hown hK hP hD hS kc (by rw [jW_get hkc, hM]) hcl.1 k hk (hts _ (List.mem_cons_of_mem _ hl)) (fun _ h => h) hfin hdt hnw hft hlen hd (fun H1 locs1 hP1 hD1 hS1 => ?_)
  rw [jW_set hkc] at hP1 hD1
  exact kk p e s m args below meth c A H1 locs1 lr C hP1 hD1 hS1 hL
theorem j_gets {idx kz : Nat} (hd : decode y.2.1 pc = .ok (.getstatic idx, 3)) (hn : pc + 3 = n) (hz : kz < 5) (hl : Cond.fieldLink y.1.cls idx (jSt kz).1 (jSt kz).2.1 (jSt kz).2.2.1 ∈ jTB) (kk : J g y d K n ls (.ref (jsa g kz) :: st) M) : J g y d K pc ls st M := by
  intro p e s m args below meth c A H locs lr C hP hD hS hL
  subst hn
  obtain ⟨hx, hb, hml, hown, hts, hr, hlk, hK, hS0, hA⟩ := id C
  exact va_gets hx hb (hS0 kz hz).1 hS hown (hts _ (List.mem_cons_of_mem _ hl)) (fun _ h => h) hd (kk p e s m args below meth c A H locs lr C hP hD hS hL)
theorem j_iald {kc N : Nat} {f : Nat → Int32} {i : Int32} (hd : decode y.2.1 pc = .ok (.iaload, 1)) (hn : pc + 1 = n) (hkc : kc < 52) (hM : M kc = .inl (jc g 0, N, .inl f)) (hi : vp_in i N) (kk : J g y d K n ls (.int (f i.toNatClampNeg) :: st) M) : J g y d K pc ls (.int i :: .ref (jA g kc) :: st) M := by
  intro p e s m args below meth c A H locs lr C hP hD hS hL
  subst hn
  exact va_iald C.1 C.2.1 C.2.2.2.2.2.2.2.1 hP kc 0 (by rw [jW_get hkc, hM]) rfl hi hd (kk p e s m args below meth c A H locs lr C hP hD hS hL)
theorem j_lald {kc N : Nat} {f : Nat → Int64} {i : Int32} (hd : decode y.2.1 pc = .ok (.laload, 1)) (hn : pc + 1 = n) (hkc : kc < 52) (hM : M kc = .inl (jc g 1, N, .inr (.inl f))) (hi : vp_in i N) (kk : J g y d K n ls (.long (f i.toNatClampNeg) :: st) M) : J g y d K pc ls (.int i :: .ref (jA g kc) :: st) M := by
  intro p e s m args below meth c A H locs lr C hP hD hS hL
  subst hn
  exact va_lald C.1 C.2.1 C.2.2.2.2.2.2.2.1 hP kc 1 (by rw [jW_get hkc, hM]) rfl hi hd (kk p e s m args below meth c A H locs lr C hP hD hS hL)
theorem j_zald {kc N : Nat} {f : Nat → Int32} {i : Int32} (hd : decode y.2.1 pc = .ok (.baload, 1)) (hn : pc + 1 = n) (hkc : kc < 52) (hM : M kc = .inl (jc g 2, N, .inl f)) (hi : vp_in i N) (kk : J g y d K n ls (.int (f i.toNatClampNeg) :: st) M) : J g y d K pc ls (.int i :: .ref (jA g kc) :: st) M := by
  intro p e s m args below meth c A H locs lr C hP hD hS hL
  subst hn
  exact va_zald C.1 C.2.1 C.2.2.2.2.2.2.2.1 hP kc 2 (by rw [jW_get hkc, hM]) rfl hi hd (kk p e s m args below meth c A H locs lr C hP hD hS hL)
theorem j_aald {kc N : Nat} {f : Nat → Option Nat} {i : Int32} (hd : decode y.2.1 pc = .ok (.aaload, 1)) (hn : pc + 1 = n) (hkc : kc < 52) (hM : M kc = .inl (jc g 3, N, .inr (.inr (.inr (.inr f))))) (hi : vp_in i N) (kk : J g y d K n ls (va_rf (f i.toNatClampNeg) :: st) M) : J g y d K pc ls (.int i :: .ref (jA g kc) :: st) M := by
  intro p e s m args below meth c A H locs lr C hP hD hS hL
  subst hn
  have hlt : i.toNatClampNeg < N := Nat.not_le.mp fun q => hi (Or.inr q)
  have hq : va_at g.2.1 vwCl (jA g kc, .inl (jc g 3, N, .inr (.inr (.inr (.inr f))))) H := hP kc _ (by rw [jW_get hkc, hM])
  exact W.aald (v := va_rf (f i.toNatClampNeg)) (ty := .array .int) C.1 C.2.1 hq ((C.2.2.2.2.2.2.2.1.2 3 _ rfl).1 N (fun j => va_rf (f j))) rfl (fun q => by cases q) (by show ¬ (i < 0 ∨ (arrV _ _ _).slots.size ≤ _); rw [arrV_size]; exact hi) (by show (arrV _ _ _).slots[_]? = _; rw [arrV_read _ _ hlt]) rfl rfl hd (kk p e s m args below meth c A H locs lr C hP hD hS hL)
theorem j_iast {kc N : Nat} {f : Nat → Int32} {i x : Int32} (hd : decode y.2.1 pc = .ok (.iastore, 1)) (hn : pc + 1 = n) (hkc : kc < 52) (hM : M kc = .inl (jc g 0, N, .inl f)) (hi : vp_in i N) (kk : J g y d K n ls st (va_up M kc (.inl (jc g 0, N, .inl (upd f i.toNatClampNeg x))))) : J g y d K pc ls (.int x :: .int i :: .ref (jA g kc) :: st) M := by
  intro p e s m args below meth c A H locs lr C hP hD hS hL
  subst hn
  refine va_iast C.1 C.2.1 C.2.2.2.2.2.2.2.1 hP hD hS kc 0 (by rw [jW_get hkc, hM]) rfl hi hd (fun H1 locs1 hP1 hD1 hS1 => ?_)
  rw [jW_set hkc] at hP1 hD1
  exact kk p e s m args below meth c A H1 locs1 lr C hP1 hD1 hS1 hL
theorem j_last {kc N : Nat} {f : Nat → Int64} {i : Int32} {x : Int64} (hd : decode y.2.1 pc = .ok (.lastore, 1)) (hn : pc + 1 = n) (hkc : kc < 52) (hM : M kc = .inl (jc g 1, N, .inr (.inl f))) (hi : vp_in i N) (kk : J g y d K n ls st (va_up M kc (.inl (jc g 1, N, .inr (.inl (vp_updL f i.toNatClampNeg x)))))) : J g y d K pc ls (.long x :: .int i :: .ref (jA g kc) :: st) M := by
  intro p e s m args below meth c A H locs lr C hP hD hS hL
  subst hn
  refine va_last C.1 C.2.1 C.2.2.2.2.2.2.2.1 hP hD hS kc 1 (by rw [jW_get hkc, hM]) rfl hi hd (fun H1 locs1 hP1 hD1 hS1 => ?_)
  rw [jW_set hkc] at hP1 hD1
  exact kk p e s m args below meth c A H1 locs1 lr C hP1 hD1 hS1 hL
theorem j_zast {kc N : Nat} {f : Nat → Int32} {i x : Int32} (hd : decode y.2.1 pc = .ok (.bastore, 1)) (hn : pc + 1 = n) (hkc : kc < 52) (hM : M kc = .inl (jc g 2, N, .inl f)) (hi : vp_in i N) (kk : J g y d K n ls st (va_up M kc (.inl (jc g 2, N, .inl (upd f i.toNatClampNeg (vp_nar .boolean x)))))) : J g y d K pc ls (.int x :: .int i :: .ref (jA g kc) :: st) M := by
  intro p e s m args below meth c A H locs lr C hP hD hS hL
  subst hn
  refine va_zast C.1 C.2.1 C.2.2.2.2.2.2.2.1 hP hD hS kc 2 (by rw [jW_get hkc, hM]) rfl hi hd (fun H1 locs1 hP1 hD1 hS1 => ?_)
  rw [jW_set hkc] at hP1 hD1
  exact kk p e s m args below meth c A H1 locs1 lr C hP1 hD1 hS1 hL
theorem j_tild {kz : Nat} {i v : Int32} (hd : decode y.2.1 pc = .ok (.iaload, 1)) (hn : pc + 1 = n) (hz : kz < 5) (hty : (jSt kz).2.2.2.1 = .int) (hi : vp_in i (jSt kz).2.2.2.2.1) (hv : (jSt kz).2.2.2.2.2 i.toNatClampNeg = .int v) (kk : J g y d K n ls (.int v :: st) M) : J g y d K pc ls (.int i :: .ref (jsa g kz) :: st) M := by
  intro p e s m args below meth c A H locs lr C hP hD hS hL
  subst hn
  have hT := (C.2.2.2.2.2.2.2.2.1 kz hz).2
  rw [hty] at hT
  exact va_ti C.1 C.2.1 hT hS hi hv hd (kk p e s m args below meth c A H locs lr C hP hD hS hL)
theorem j_tlld {kz : Nat} {i : Int32} {v : Int64} (hd : decode y.2.1 pc = .ok (.laload, 1)) (hn : pc + 1 = n) (hz : kz < 5) (hty : (jSt kz).2.2.2.1 = .long) (hi : vp_in i (jSt kz).2.2.2.2.1) (hv : (jSt kz).2.2.2.2.2 i.toNatClampNeg = .long v) (kk : J g y d K n ls (.long v :: st) M) : J g y d K pc ls (.int i :: .ref (jsa g kz) :: st) M := by
  intro p e s m args below meth c A H locs lr C hP hD hS hL
  subst hn
  have hT := (C.2.2.2.2.2.2.2.2.1 kz hz).2
  rw [hty] at hT
  exact va_tl C.1 C.2.1 hT hS hi hv hd (kk p e s m args below meth c A H locs lr C hP hD hS hL)

theorem j_mmax {a b : Int32} {idx : Nat} (hd : decode y.2.1 pc = .ok (.invokestatic idx, 3)) (hn : pc + 3 = n) (hl : Cond.methodLink y.1.cls idx Lib.Math.max.name ∈ jTB) (hw : Cond.static Lib.Math.max.name ∈ jTB ∧ Cond.initialized "java/lang/Math" ∈ jTB ∧ Cond.code Lib.Math.max.name Lib.Math.max.code 2 (some .int) ∈ jTB) (hd1 : 0 < d) (hW : (st.map fun v => v.category).sum ≤ 8) (k : J g y d K n ls (.int (if a < b then b else a) :: st) M) : J g y d K pc ls (.int b :: .int a :: st) M := by
  intro p e s m args below meth c A H locs lr C hP hD hS hL
  subst hn
  obtain ⟨hx, hb, hml, hown, hts, hr, hlk, hK, hS0, hA⟩ := id C
  exact va_mmax hx hb (by rw [hml]; exact hL.1.symm) hown (hts _ (List.mem_cons_of_mem _ hl)) (hts _ (List.mem_cons_of_mem _ hw.1)) (hts _ (List.mem_cons_of_mem _ hw.2.1)) (hts _ (List.mem_cons_of_mem _ hw.2.2)) (by show 1 ≤ d; omega) (by show _ ≤ 40 * d; omega) (Nat.le_refl _) (Nat.le_refl _) hd (k p e s m args below meth c A H locs lr C hP hD hS hL)
theorem j_mmin {a b : Int32} {idx : Nat} (hd : decode y.2.1 pc = .ok (.invokestatic idx, 3)) (hn : pc + 3 = n) (hl : Cond.methodLink y.1.cls idx Lib.Math.min.name ∈ jTB) (hw : Cond.static Lib.Math.min.name ∈ jTB ∧ Cond.initialized "java/lang/Math" ∈ jTB ∧ Cond.code Lib.Math.min.name Lib.Math.min.code 2 (some .int) ∈ jTB) (hd1 : 0 < d) (hW : (st.map fun v => v.category).sum ≤ 8) (k : J g y d K n ls (.int (if b < a then b else a) :: st) M) : J g y d K pc ls (.int b :: .int a :: st) M := by
  intro p e s m args below meth c A H locs lr C hP hD hS hL
  subst hn
  obtain ⟨hx, hb, hml, hown, hts, hr, hlk, hK, hS0, hA⟩ := id C
  exact va_mmin hx hb (by rw [hml]; exact hL.1.symm) hown (hts _ (List.mem_cons_of_mem _ hl)) (hts _ (List.mem_cons_of_mem _ hw.1)) (hts _ (List.mem_cons_of_mem _ hw.2.1)) (hts _ (List.mem_cons_of_mem _ hw.2.2)) (by show 1 ≤ d; omega) (by show _ ≤ 40 * d; omega) (Nat.le_refl _) (Nat.le_refl _) hd (k p e s m args below meth c A H locs lr C hP hD hS hL)
theorem j_mabs {a : Int32} {idx : Nat} (hd : decode y.2.1 pc = .ok (.invokestatic idx, 3)) (hn : pc + 3 = n) (hl : Cond.methodLink y.1.cls idx Lib.Math.abs.name ∈ jTB) (hw : Cond.static Lib.Math.abs.name ∈ jTB ∧ Cond.initialized "java/lang/Math" ∈ jTB ∧ Cond.code Lib.Math.abs.name Lib.Math.abs.code 1 (some .int) ∈ jTB) (hd1 : 0 < d) (hW : (st.map fun v => v.category).sum ≤ 8) (k : J g y d K n ls (.int (if 0 ≤ a then a else 0 - a) :: st) M) : J g y d K pc ls (.int a :: st) M := by
  intro p e s m args below meth c A H locs lr C hP hD hS hL
  subst hn
  obtain ⟨hx, hb, hml, hown, hts, hr, hlk, hK, hS0, hA⟩ := id C
  exact va_mabs hx hb (by rw [hml]; exact hL.1.symm) hown (hts _ (List.mem_cons_of_mem _ hl)) (hts _ (List.mem_cons_of_mem _ hw.1)) (hts _ (List.mem_cons_of_mem _ hw.2.1)) (hts _ (List.mem_cons_of_mem _ hw.2.2)) (by show 1 ≤ d; omega) (by show _ ≤ 40 * d; omega) (Nat.le_refl _) (Nat.le_refl _) hd (k p e s m args below meth c A H locs lr C hP hD hS hL)
end JR
