set_option maxRecDepth 100000 in
theorem con_X5_number {g : jG} {M : jMem} {n : Nat} (hn : n < 31) : Fn g jX5_number 0 [.int (nI n)] M (.int (nI (2 ^ n))) := by
  refine con_of (by decide) (by decide) rfl ?_
  refine j_iconst (nI 1) dX5_number_0 rfl (by decide) ?_
  refine j_iload_n0 dX5_number_1 rfl ?_
  refine j_ishl dX5_number_2 rfl ?_
  refine j_topi (nI (2 ^ n)) ?_ ?_
  · sorry
  refine j_iret dX5_number_3 rfl ?_
  exact ⟨rfl, rfl⟩
set_option maxRecDepth 100000 in
theorem con_X5_isOne {g : jG} {M : jMem} {t r : Nat} (ht : t < 2 ^ 63) (hr : r < 63) : Fn g jX5_isOne 0 [.long (lN t), .int (nI r)] M (.int (if t.testBit r then nI 1 else nI 0)) := by
  refine con_of (by decide) (by decide) rfl ?_
  refine j_lload_n0 dX5_isOne_0 rfl ?_
  refine j_iload_n2 dX5_isOne_1 rfl ?_
  refine j_lushr dX5_isOne_2 rfl ?_
  refine j_lconst (lN 1) dX5_isOne_3 rfl rfl ?_
  refine j_land dX5_isOne_4 rfl ?_
  refine j_lconst (lN 0) dX5_isOne_5 rfl rfl ?_
  refine j_lcmp dX5_isOne_6 rfl ?_
  refine j_if_eq 14 dX5_isOne_7 rfl (by decide) (fun h => ?_) (fun h => ?_)
  · refine j_iconst (nI 0) dX5_isOne_14 rfl (by decide) ?_
    refine j_zret dX5_isOne_15 rfl (by first | rfl | assumption) ?_
    sorry
  · refine j_iconst (nI 1) dX5_isOne_10 rfl (by decide) ?_
    refine j_goto 15 dX5_isOne_11 (by decide) ?_
    refine j_zret dX5_isOne_15 rfl (by first | rfl | assumption) ?_
    sorry
