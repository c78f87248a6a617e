theorem vr_outer (c : ClassId) (N h0 : Nat) : ∀ i : Nat, Jvm.Free.Multi.outerC c N h0 i = arrV c N (fun j => va_rf (if j < i then some (h0 + 1 + j) else none))
  | 0 => by
    show ({ cls := c, slots := Array.replicate N .null, vm := .none } : Cell) = _
    rw [arrV_new]
    refine congrArg (arrV c N) (funext fun j => ?_)
    simp [va_rf]
  | i + 1 => by
    show (Jvm.Free.Multi.outerC c N h0 i).setSlot i (.ref (h0 + 1 + i)) = _
    rw [vr_outer c N h0 i, arrV_store]
    refine congrArg (arrV c N) (funext fun j => ?_)
    by_cases e : j = i
    · subst e
      simp [updV, va_rf]
    · by_cases h : j < i
      · simp [updV, e, h, Nat.lt_succ_of_lt h]
      · simp [updV, e, h, show ¬ j < i + 1 by omega]
def oA9 (g : jG) (r : Nat → Nat) : va_E := .inl (jc g 3, 9, .inr (.inr (.inr (.inr (fun i => if i < 9 then some (r i) else none)))))
section GJ3
variable {g : jG} {own : String} {cc : ByteArray} {nL : Nat} {p : Program} {e : Env} {R : Room} {s : State} {m : MethodId} {args : Array Value} {below : List Frame} {meth : Method} {c : Code} {A : Nat → Prop} {Q : State → Prop} {pc pn : Nat} {ls : List (Option Value)} {st : List Value} {ws : va_W} {k n : Nat}
theorem g_mna {idx : Nat} (E : gE g own cc nL p s m args c A) (hd : decode cc pc = .ok (.multianewarray idx 2, 4)) (hn : pc + 4 = pn) (hcl : Cond.classLink own idx ("[" ++ (FieldType.array .int).toString) ∈ jTB) (harr : Cond.arrayClass .int ∈ jTB) (hR : k + 10 ≤ R.cells ∧ n + 117 ≤ R.slots) (kk : ∀ (q : Nat) (r : Nat → Nat), GJ g nL p e R s m args below meth c A Q pn ls (.ref q :: st) ((ws ++ [(q, oA9 g r)]) ++ (List.range 9).map (fun i => (r i, iA g 12 (fun _ => 0)))) (k + 10) (n + 117)) : GJ g nL p e R s m args below meth c A Q pc ls (.int (nI 12) :: .int (nI 9) :: st) ws k n := by
  intro H locs lr hP hD hS hL
  subst hn
  obtain ⟨hx, hb, hml, hown, hts, hK, hN, hA⟩ := id E
  intro T hT Xs
  have hover : (Cond.arrayOver (.array .int)).before args s = true := hN.2.2.2.2.2.2.2.2
  obtain ⟨vm₁, cA, comp, -, fA, fC, hO, -, X', step⟩ := Xs.multianewarray2F hx hown (hts _ hcl) hover (hts _ harr) (g := F0 m pc lr (.int (nI 12) :: .int (nI 9) :: st)) rfl (by rw [hb]; exact hd) rfl (by decide) (by decide) (by decide) (by decide) (by decide) rfl rfl hR.1 hR.2
  have eA : cA = jc g 3 := Option.some.inj (fA.symm.trans (hK.2 3 (jc g 3, .array .int) rfl).2)
  have eC : comp = jc g 0 := Option.some.inj (fC.symm.trans (hK.2 0 (jc g 0, .int) rfl).2)
  subst eA
  subst eC
  have e9 : (nI 9).toNatClampNeg = 9 := by decide
  have e12 : (nI 12).toNatClampNeg = 12 := by decide
  rw [e9, e12] at X' step
  generalize hF : Jvm.Free.Multi.fill (T.setVm vm₁) (jc g 3) (jc g 0) 9 12 (defaultValue .int) 9 = F at X' step
  have hTh : (T.setVm vm₁).heap = H := hT
  obtain ⟨f1, f2, -, -⟩ := Jvm.Free.Multi.fill_facts (T.setVm vm₁) (jc g 3) (jc g 0) 9 12 (defaultValue .int) 9
  rw [hF, hTh] at f1 f2
  have hold : ∀ x : Nat, x < H.size → F.heap[x]? = H[x]? := fun x hx => by
    have := Jvm.Free.Multi.fill_old (T.setVm vm₁) (jc g 3) (jc g 0) 9 12 (defaultValue .int) (a := x) (by rw [hTh]; exact hx) 9
    rw [hF, hTh] at this
    exact this
  have hz : Jvm.Free.Multi.innerC (jc g 0) 12 (defaultValue .int) = vp_cell (jc g 0) (12, .inl (fun _ => 0)) := by
    show ({ cls := jc g 0, slots := Array.replicate 12 (defaultValue .int) } : Cell) = _
    rfl
  have hrow : ∀ j : Nat, j < 9 → F.heap[H.size + 1 + j]? = some (vp_cell (jc g 0) (12, .inl (fun _ => 0))) := fun j hj => by
    have := Jvm.Free.Multi.fill_inner (T.setVm vm₁) (jc g 3) (jc g 0) 9 12 (defaultValue .int) 9 j hj
    rw [hF, hTh, hz] at this
    exact this
  have hout : Jvm.Free.Multi.outerC (jc g 3) 9 H.size 9 = vp_cell (jc g 3) (9, .inr (.inr (.inr (.inr (fun i => if i < 9 then some (H.size + 1 + i) else none))))) := by
    rw [vp_cell_q]
    exact vr_outer (jc g 3) 9 H.size 9
  rw [hout] at f2
  have hP0 : va_P g.2.1 vwCl ws F.heap := hP.kept (fun k9 x hx => hold x.1 ((hP k9 x hx).lt))
  have hP1 : va_P g.2.1 vwCl (ws ++ [(H.size, oA9 g (fun i => H.size + 1 + i))]) F.heap := hP0.app (fun k9 x hx => by
    have h0 : k9 < 1 := (List.getElem?_eq_some_iff.mp hx).1
    rw [show k9 = 0 by omega] at hx
    cases hx
    exact f2)
  have hP2 : va_P g.2.1 vwCl ((ws ++ [(H.size, oA9 g (fun i => H.size + 1 + i))]) ++ (List.range 9).map (fun i => (H.size + 1 + i, iA g 12 (fun _ => 0)))) F.heap := hP1.app (fun k9 x hx => by
    obtain ⟨i, hi, rfl⟩ := List.mem_map.mp (List.mem_of_getElem? hx)
    exact hrow i (List.mem_range.mp hi))
  have hD2 : va_D A ((ws ++ [(H.size, oA9 g (fun i => H.size + 1 + i))]) ++ (List.range 9).map (fun i => (H.size + 1 + i, iA g 12 (fun _ => 0)))) := by
    have hD1 := hD.push (e := oA9 g (fun i => H.size + 1 + i)) hP rfl (hA _ hS.1)
    generalize hW1 : ws ++ [(H.size, oA9 g (fun i => H.size + 1 + i))] = W1 at hD1 hP1 ⊢
    have hle : ∀ (k9 : Nat) (x : Nat × va_E), W1[k9]? = some x → x.1 ≤ H.size := fun k9 x hx => by
      rw [← hW1] at hx
      by_cases hl : k9 < ws.length
      · rw [List.getElem?_append_left hl] at hx
        exact Nat.le_of_lt ((hP k9 x hx).lt)
      · rw [List.getElem?_append_right (by omega)] at hx
        have h0 : k9 - ws.length < 1 := (List.getElem?_eq_some_iff.mp hx).1
        rw [show k9 - ws.length = 0 by omega] at hx
        cases hx
        exact Nat.le_refl _
    have hr : ∀ (k9 : Nat) (x : Nat × va_E), ((List.range 9).map (fun i => ((H.size + 1 + i, iA g 12 (fun _ => 0)) : Nat × va_E)))[k9]? = some x → x.1 = H.size + 1 + k9 := fun k9 x hx => by
      rw [List.getElem?_map] at hx
      by_cases h9 : k9 < 9
      · rw [List.getElem?_range h9] at hx
        cases hx
        rfl
      · have hn0 : (List.range 9)[k9]? = none := List.getElem?_eq_none (by rw [List.length_range]; omega)
        rw [hn0] at hx
        cases hx
    refine ⟨fun i j x y hi hj hxy => ?_, fun k9 x hx => ?_⟩
    · by_cases h1 : i < W1.length <;> by_cases h2 : j < W1.length
      · rw [List.getElem?_append_left h1] at hi
        rw [List.getElem?_append_left h2] at hj
        exact hD1.1 i j x y hi hj hxy
      · rw [List.getElem?_append_left h1] at hi
        rw [List.getElem?_append_right (by omega)] at hj
        have := hle _ _ hi
        have := hr _ _ hj
        omega
      · rw [List.getElem?_append_right (by omega)] at hi
        rw [List.getElem?_append_left h2] at hj
        have := hle _ _ hj
        have := hr _ _ hi
        omega
      · rw [List.getElem?_append_right (by omega)] at hi hj
        have := hr _ _ hi
        have := hr _ _ hj
        omega
    · by_cases h1 : k9 < W1.length
      · rw [List.getElem?_append_left h1] at hx
        exact hD1.2 k9 x hx
      · rw [List.getElem?_append_right (by omega)] at hx
        have := hr _ _ hx
        exact hA _ (by have := hS.1; omega)
  obtain ⟨t, a1, b1⟩ := kk H.size (fun i => H.size + 1 + i) F.heap locs lr hP2 hD2 ⟨by rw [f1]; have := hS.1; omega, fun x h1 h2 => (hold x (Nat.lt_of_lt_of_le h1 hS.1)).trans (hS.2.1 x h1 h2), hS.2.2⟩ hL F rfl X'
  refine ⟨t, step t ?_, b1⟩
  have e : T.heap.size = H.size := by rw [hT]
  rw [e]
  exact a1
end GJ3
