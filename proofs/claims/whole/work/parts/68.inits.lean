set_option maxRecDepth 100000 in
theorem con_X6_init (g : jG) (h : Nat) : ConN g jX6_init 1 1 4 [.ref h] [(h, .inr (5, [.null]))] (fun w => ∃ a6, w = [(h, .inr (5, [.ref a6])), (a6, iA g 4 (fun _ => 0))]) := by
  refine conN_of (l := [some (.ref h)]) (by decide) (Nat.le_of_ble_eq_true rfl) rfl ?_
  intro p e s m args below meth c A E hin hr hlk
  refine g_aload_n E (pn := 1) dX6_init_0 rfl rfl ?_
  refine g_objInit E (pn := 4) dX6_init_1 rfl w_oi_X6 w_oi_i w_oi_c ⟨(Nat.le_of_ble_eq_true rfl), (Nat.le_of_ble_eq_true rfl)⟩ ?_
  refine g_aload_n E (pn := 5) dX6_init_4 rfl rfl ?_
  refine g_iconst E (pn := 6) (nI 4) dX6_init_5 rfl (by decide) ?_
  refine g_newa (t0 := 0) (N := 4) (ty := .int) (z := .inl (fun _ => 0)) E (pn := 8) dX6_init_6 rfl rfl rfl (by simp) w_a_int (fun _ => rfl) (by decide) (by decide) (by decide) ⟨(Nat.le_of_ble_eq_true rfl), (Nat.le_of_ble_eq_true rfl)⟩ (fun a6 => ?_)
  refine g_eq (ws2 := [(h, .inr (5, [.null])), (a6, iA g 4 (fun _ => 0))]) rfl ?_
  refine g_putF E hin (j := 0) (q0 := 0) (fs2 := [.ref a6]) (ws2 := [(h, .inr (5, [.ref a6])), (a6, iA g 4 (fun _ => 0))]) (pn := 11) dX6_init_8 rfl jcl5 tyX6_ok nmX6 (Nat.le_of_ble_eq_true rfl) rfl rfl (tyX6_ok 0 (Nat.le_of_ble_eq_true rfl)) fl_X6_9 rfl rfl rfl (Nat.le_of_ble_eq_true rfl) rfl rfl ?_
  exact g_vret E hr hlk dX6_init_11 ⟨a6, rfl⟩
set_option maxRecDepth 100000 in
theorem con_X4_init (g : jG) (h : Nat) : ConN g jX4_init 1 1 32 [.ref h] [(h, .inr (4, [.null, .int 0, .int 0]))] (fun w => ∃ a7, w = [(h, .inr (4, [.ref a7, .int 0, .int 0])), (a7, iA g 32 (fun _ => 0))]) := by
  refine conN_of (l := [some (.ref h)]) (by decide) (Nat.le_of_ble_eq_true rfl) rfl ?_
  intro p e s m args below meth c A E hin hr hlk
  refine g_aload_n E (pn := 1) dX4_init_0 rfl rfl ?_
  refine g_objInit E (pn := 4) dX4_init_1 rfl w_oi_X4 w_oi_i w_oi_c ⟨(Nat.le_of_ble_eq_true rfl), (Nat.le_of_ble_eq_true rfl)⟩ ?_
  refine g_aload_n E (pn := 5) dX4_init_4 rfl rfl ?_
  refine g_bipush E (pn := 7) (nI 32) dX4_init_5 rfl (by decide) ?_
  refine g_newa (t0 := 0) (N := 32) (ty := .int) (z := .inl (fun _ => 0)) E (pn := 9) dX4_init_7 rfl rfl rfl (by simp) w_a_int (fun _ => rfl) (by decide) (by decide) (by decide) ⟨(Nat.le_of_ble_eq_true rfl), (Nat.le_of_ble_eq_true rfl)⟩ (fun a7 => ?_)
  refine g_eq (ws2 := [(h, .inr (4, [.null, .int 0, .int 0])), (a7, iA g 32 (fun _ => 0))]) rfl ?_
  refine g_putF E hin (j := 0) (q0 := 0) (fs2 := [.ref a7, .int 0, .int 0]) (ws2 := [(h, .inr (4, [.ref a7, .int 0, .int 0])), (a7, iA g 32 (fun _ => 0))]) (pn := 12) dX4_init_9 rfl jcl4 tyX4_ok nmX4 (Nat.le_of_ble_eq_true rfl) rfl rfl (tyX4_ok 0 (Nat.le_of_ble_eq_true rfl)) fl_X4_9 rfl rfl rfl (Nat.le_of_ble_eq_true rfl) rfl rfl ?_
  exact g_vret E hr hlk dX4_init_12 ⟨a7, rfl⟩
set_option maxRecDepth 100000 in
theorem con_X1_init (g : jG) (h : Nat) : ConN g jX1_init 1 0 0 [.ref h] [(h, .inr (1, [.long 0, .int 0, .int 0, .int 0]))] (fun w => w = [(h, .inr (1, [.long 0, .int 0, .int 0, .int 0]))]) := by
  refine conN_of (l := [some (.ref h)]) (by decide) (Nat.le_of_ble_eq_true rfl) rfl ?_
  intro p e s m args below meth c A E hin hr hlk
  refine g_aload_n E (pn := 1) dX1_init_0 rfl rfl ?_
  refine g_objInit E (pn := 4) dX1_init_1 rfl w_oi_X1 w_oi_i w_oi_c ⟨(Nat.le_of_ble_eq_true rfl), (Nat.le_of_ble_eq_true rfl)⟩ ?_
  exact g_vret E hr hlk dX1_init_4 rfl
set_option maxRecDepth 100000 in
theorem con_X2_init (g : jG) (h : Nat) : ConN g jX2_init 2 5 50 [.ref h] [(h, .inr (2, [.null, .int 0, .int 0, .int 0, .long 0, .null, .null, .null]))] (fun w => ∃ a6 a13 a20 b26 a7_30, w = [(h, .inr (2, [.ref a6, .int 0, .int 0, .int 0, .long 0, .ref a13, .ref a20, .ref b26])), (a6, iA g 5 (fun _ => 0)), (a13, iA g 5 (fun _ => 0)), (a20, iA g 5 (fun _ => 0)), (b26, .inr (4, [.ref a7_30, .int 0, .int 0])), (a7_30, iA g 32 (fun _ => 0))]) := by
  refine conN_of (l := [some (.ref h)]) (by decide) (Nat.le_of_ble_eq_true rfl) rfl ?_
  intro p e s m args below meth c A E hin hr hlk
  refine g_aload_n E (pn := 1) dX2_init_0 rfl rfl ?_
  refine g_objInit E (pn := 4) dX2_init_1 rfl w_oi_X2 w_oi_i w_oi_c ⟨(Nat.le_of_ble_eq_true rfl), (Nat.le_of_ble_eq_true rfl)⟩ ?_
  refine g_aload_n E (pn := 5) dX2_init_4 rfl rfl ?_
  refine g_iconst E (pn := 6) (nI 5) dX2_init_5 rfl (by decide) ?_
  refine g_newa (t0 := 0) (N := 5) (ty := .int) (z := .inl (fun _ => 0)) E (pn := 8) dX2_init_6 rfl rfl rfl (by simp) w_a_int (fun _ => rfl) (by decide) (by decide) (by decide) ⟨(Nat.le_of_ble_eq_true rfl), (Nat.le_of_ble_eq_true rfl)⟩ (fun a6 => ?_)
  refine g_eq (ws2 := [(h, .inr (2, [.null, .int 0, .int 0, .int 0, .long 0, .null, .null, .null])), (a6, iA g 5 (fun _ => 0))]) rfl ?_
  refine g_putF E hin (j := 0) (q0 := 0) (fs2 := [.ref a6, .int 0, .int 0, .int 0, .long 0, .null, .null, .null]) (ws2 := [(h, .inr (2, [.ref a6, .int 0, .int 0, .int 0, .long 0, .null, .null, .null])), (a6, iA g 5 (fun _ => 0))]) (pn := 11) dX2_init_8 rfl jcl2 tyX2_ok nmX2 (Nat.le_of_ble_eq_true rfl) rfl rfl (tyX2_ok 0 (Nat.le_of_ble_eq_true rfl)) fl_X2_9 rfl rfl rfl (Nat.le_of_ble_eq_true rfl) rfl rfl ?_
  refine g_aload_n E (pn := 12) dX2_init_11 rfl rfl ?_
  refine g_iconst E (pn := 13) (nI 5) dX2_init_12 rfl (by decide) ?_
  refine g_newa (t0 := 0) (N := 5) (ty := .int) (z := .inl (fun _ => 0)) E (pn := 15) dX2_init_13 rfl rfl rfl (by simp) w_a_int (fun _ => rfl) (by decide) (by decide) (by decide) ⟨(Nat.le_of_ble_eq_true rfl), (Nat.le_of_ble_eq_true rfl)⟩ (fun a13 => ?_)
  refine g_eq (ws2 := [(h, .inr (2, [.ref a6, .int 0, .int 0, .int 0, .long 0, .null, .null, .null])), (a6, iA g 5 (fun _ => 0)), (a13, iA g 5 (fun _ => 0))]) rfl ?_
  refine g_putF E hin (j := 5) (q0 := 0) (fs2 := [.ref a6, .int 0, .int 0, .int 0, .long 0, .ref a13, .null, .null]) (ws2 := [(h, .inr (2, [.ref a6, .int 0, .int 0, .int 0, .long 0, .ref a13, .null, .null])), (a6, iA g 5 (fun _ => 0)), (a13, iA g 5 (fun _ => 0))]) (pn := 18) dX2_init_15 rfl jcl2 tyX2_ok nmX2 (Nat.le_of_ble_eq_true rfl) rfl rfl (tyX2_ok 5 (Nat.le_of_ble_eq_true rfl)) fl_X2_15 rfl rfl rfl (Nat.le_of_ble_eq_true rfl) rfl rfl ?_
  refine g_aload_n E (pn := 19) dX2_init_18 rfl rfl ?_
  refine g_iconst E (pn := 20) (nI 5) dX2_init_19 rfl (by decide) ?_
  refine g_newa (t0 := 0) (N := 5) (ty := .int) (z := .inl (fun _ => 0)) E (pn := 22) dX2_init_20 rfl rfl rfl (by simp) w_a_int (fun _ => rfl) (by decide) (by decide) (by decide) ⟨(Nat.le_of_ble_eq_true rfl), (Nat.le_of_ble_eq_true rfl)⟩ (fun a20 => ?_)
  refine g_eq (ws2 := [(h, .inr (2, [.ref a6, .int 0, .int 0, .int 0, .long 0, .ref a13, .null, .null])), (a6, iA g 5 (fun _ => 0)), (a13, iA g 5 (fun _ => 0)), (a20, iA g 5 (fun _ => 0))]) rfl ?_
  refine g_putF E hin (j := 6) (q0 := 0) (fs2 := [.ref a6, .int 0, .int 0, .int 0, .long 0, .ref a13, .ref a20, .null]) (ws2 := [(h, .inr (2, [.ref a6, .int 0, .int 0, .int 0, .long 0, .ref a13, .ref a20, .null])), (a6, iA g 5 (fun _ => 0)), (a13, iA g 5 (fun _ => 0)), (a20, iA g 5 (fun _ => 0))]) (pn := 25) dX2_init_22 rfl jcl2 tyX2_ok nmX2 (Nat.le_of_ble_eq_true rfl) rfl rfl (tyX2_ok 6 (Nat.le_of_ble_eq_true rfl)) fl_X2_18 rfl rfl rfl (Nat.le_of_ble_eq_true rfl) rfl rfl ?_
  refine g_aload_n E (pn := 26) dX2_init_25 rfl rfl ?_
  refine g_new (ci := 4) (ty0 := tyX4) (fs := [.null, .int 0, .int 0]) E (pn := 29) dX2_init_26 rfl jcl4 tyX4_ok w_cl_X2_21 w_in_X4 w_it_X4 (by decide) ⟨(Nat.le_of_ble_eq_true rfl), (Nat.le_of_ble_eq_true rfl)⟩ (fun b26 => ?_)
  refine g_eq (ws2 := [(h, .inr (2, [.ref a6, .int 0, .int 0, .int 0, .long 0, .ref a13, .ref a20, .null])), (a6, iA g 5 (fun _ => 0)), (a13, iA g 5 (fun _ => 0)), (a20, iA g 5 (fun _ => 0)), (b26, .inr (4, [.null, .int 0, .int 0]))]) rfl ?_
  refine g_dup E (pn := 30) dX2_init_29 rfl rfl ?_
  refine g_ctorN (q0 := 4) (isR := [0, 1, 2, 3]) (wr := [(h, .inr (2, [.ref a6, .int 0, .int 0, .int 0, .long 0, .ref a13, .ref a20, .null])), (a6, iA g 5 (fun _ => 0)), (a13, iA g 5 (fun _ => 0)), (a20, iA g 5 (fun _ => 0))]) E (con_X4_init g b26) (pn := 33) dX2_init_30 rfl n_cal_X4 E.2.2.2.2.2.2.1.2.2.2.2.2.2.2.1 rfl rfl (by decide) (by decide) ⟨(Nat.le_of_ble_eq_true rfl), (Nat.le_of_ble_eq_true rfl)⟩ (Nat.le_of_ble_eq_true rfl) ⟨(Nat.le_of_ble_eq_true rfl), (Nat.le_of_ble_eq_true rfl)⟩ ?_
  rintro _ ⟨a7_30, rfl⟩
  refine g_eq (ws2 := [(h, .inr (2, [.ref a6, .int 0, .int 0, .int 0, .long 0, .ref a13, .ref a20, .null])), (a6, iA g 5 (fun _ => 0)), (a13, iA g 5 (fun _ => 0)), (a20, iA g 5 (fun _ => 0)), (b26, .inr (4, [.ref a7_30, .int 0, .int 0])), (a7_30, iA g 32 (fun _ => 0))]) rfl ?_
  refine g_putF E hin (j := 7) (q0 := 0) (fs2 := [.ref a6, .int 0, .int 0, .int 0, .long 0, .ref a13, .ref a20, .ref b26]) (ws2 := [(h, .inr (2, [.ref a6, .int 0, .int 0, .int 0, .long 0, .ref a13, .ref a20, .ref b26])), (a6, iA g 5 (fun _ => 0)), (a13, iA g 5 (fun _ => 0)), (a20, iA g 5 (fun _ => 0)), (b26, .inr (4, [.ref a7_30, .int 0, .int 0])), (a7_30, iA g 32 (fun _ => 0))]) (pn := 36) dX2_init_33 rfl jcl2 tyX2_ok nmX2 (Nat.le_of_ble_eq_true rfl) rfl rfl (tyX2_ok 7 (Nat.le_of_ble_eq_true rfl)) fl_X2_24 rfl rfl rfl (Nat.le_of_ble_eq_true rfl) rfl rfl ?_
  exact g_vret E hr hlk dX2_init_36 ⟨a6, a13, a20, b26, a7_30, rfl⟩
set_option maxRecDepth 100000 in
theorem con_X0_init (g : jG) (h : Nat) : ConN g jX0_init 2 6 232 [.ref h] [(h, .inr (0, [.null, .null, .null, .null]))] (fun w => ∃ b5 a6_9 b16 a7_20 a29 a37, w = [(h, .inr (0, [.ref b5, .ref b16, .ref a29, .ref a37])), (b5, .inr (5, [.ref a6_9])), (a6_9, iA g 4 (fun _ => 0)), (b16, .inr (4, [.ref a7_20, .int 0, .int 0])), (a7_20, iA g 32 (fun _ => 0)), (a29, lA g 96 (fun _ => 0)), (a37, lA g 96 (fun _ => 0))]) := by
  refine conN_of (l := [some (.ref h)]) (by decide) (Nat.le_of_ble_eq_true rfl) rfl ?_
  intro p e s m args below meth c A E hin hr hlk
  refine g_aload_n E (pn := 1) dX0_init_0 rfl rfl ?_
  refine g_objInit E (pn := 4) dX0_init_1 rfl w_oi_X0 w_oi_i w_oi_c ⟨(Nat.le_of_ble_eq_true rfl), (Nat.le_of_ble_eq_true rfl)⟩ ?_
  refine g_aload_n E (pn := 5) dX0_init_4 rfl rfl ?_
  refine g_new (ci := 5) (ty0 := tyX6) (fs := [.null]) E (pn := 8) dX0_init_5 rfl jcl5 tyX6_ok w_cl_X0_9 w_in_X6 w_it_X6 (by decide) ⟨(Nat.le_of_ble_eq_true rfl), (Nat.le_of_ble_eq_true rfl)⟩ (fun b5 => ?_)
  refine g_eq (ws2 := [(h, .inr (0, [.null, .null, .null, .null])), (b5, .inr (5, [.null]))]) rfl ?_
  refine g_dup E (pn := 9) dX0_init_8 rfl rfl ?_
  refine g_ctorN (q0 := 1) (isR := [0]) (wr := [(h, .inr (0, [.null, .null, .null, .null]))]) E (con_X6_init g b5) (pn := 12) dX0_init_9 rfl n_cal_X6 E.2.2.2.2.2.2.1.2.2.2.2.2.1 rfl rfl (by decide) (by decide) ⟨(Nat.le_of_ble_eq_true rfl), (Nat.le_of_ble_eq_true rfl)⟩ (Nat.le_of_ble_eq_true rfl) ⟨(Nat.le_of_ble_eq_true rfl), (Nat.le_of_ble_eq_true rfl)⟩ ?_
  rintro _ ⟨a6_9, rfl⟩
  refine g_eq (ws2 := [(h, .inr (0, [.null, .null, .null, .null])), (b5, .inr (5, [.ref a6_9])), (a6_9, iA g 4 (fun _ => 0))]) rfl ?_
  refine g_putF E hin (j := 0) (q0 := 0) (fs2 := [.ref b5, .null, .null, .null]) (ws2 := [(h, .inr (0, [.ref b5, .null, .null, .null])), (b5, .inr (5, [.ref a6_9])), (a6_9, iA g 4 (fun _ => 0))]) (pn := 15) dX0_init_12 rfl jcl0 tyX0_ok nmX0 (Nat.le_of_ble_eq_true rfl) rfl rfl (tyX0_ok 0 (Nat.le_of_ble_eq_true rfl)) fl_X0_12 rfl rfl rfl (Nat.le_of_ble_eq_true rfl) rfl rfl ?_
  refine g_aload_n E (pn := 16) dX0_init_15 rfl rfl ?_
  refine g_new (ci := 4) (ty0 := tyX4) (fs := [.null, .int 0, .int 0]) E (pn := 19) dX0_init_16 rfl jcl4 tyX4_ok w_cl_X0_18 w_in_X4 w_it_X4 (by decide) ⟨(Nat.le_of_ble_eq_true rfl), (Nat.le_of_ble_eq_true rfl)⟩ (fun b16 => ?_)
  refine g_eq (ws2 := [(h, .inr (0, [.ref b5, .null, .null, .null])), (b5, .inr (5, [.ref a6_9])), (a6_9, iA g 4 (fun _ => 0)), (b16, .inr (4, [.null, .int 0, .int 0]))]) rfl ?_
  refine g_dup E (pn := 20) dX0_init_19 rfl rfl ?_
  refine g_ctorN (q0 := 3) (isR := [0, 1, 2]) (wr := [(h, .inr (0, [.ref b5, .null, .null, .null])), (b5, .inr (5, [.ref a6_9])), (a6_9, iA g 4 (fun _ => 0))]) E (con_X4_init g b16) (pn := 23) dX0_init_20 rfl n_cal_X4 E.2.2.2.2.2.2.1.2.2.2.2.2.2.1 rfl rfl (by decide) (by decide) ⟨(Nat.le_of_ble_eq_true rfl), (Nat.le_of_ble_eq_true rfl)⟩ (Nat.le_of_ble_eq_true rfl) ⟨(Nat.le_of_ble_eq_true rfl), (Nat.le_of_ble_eq_true rfl)⟩ ?_
  rintro _ ⟨a7_20, rfl⟩
  refine g_eq (ws2 := [(h, .inr (0, [.ref b5, .null, .null, .null])), (b5, .inr (5, [.ref a6_9])), (a6_9, iA g 4 (fun _ => 0)), (b16, .inr (4, [.ref a7_20, .int 0, .int 0])), (a7_20, iA g 32 (fun _ => 0))]) rfl ?_
  refine g_putF E hin (j := 1) (q0 := 0) (fs2 := [.ref b5, .ref b16, .null, .null]) (ws2 := [(h, .inr (0, [.ref b5, .ref b16, .null, .null])), (b5, .inr (5, [.ref a6_9])), (a6_9, iA g 4 (fun _ => 0)), (b16, .inr (4, [.ref a7_20, .int 0, .int 0])), (a7_20, iA g 32 (fun _ => 0))]) (pn := 26) dX0_init_23 rfl jcl0 tyX0_ok nmX0 (Nat.le_of_ble_eq_true rfl) rfl rfl (tyX0_ok 1 (Nat.le_of_ble_eq_true rfl)) fl_X0_21 rfl rfl rfl (Nat.le_of_ble_eq_true rfl) rfl rfl ?_
  refine g_aload_n E (pn := 27) dX0_init_26 rfl rfl ?_
  refine g_bipush E (pn := 29) (nI 96) dX0_init_27 rfl (by decide) ?_
  refine g_newa (t0 := 1) (N := 96) (ty := .long) (z := .inr (.inl (fun _ => 0))) E (pn := 31) dX0_init_29 rfl rfl rfl (by simp) w_a_long (fun _ => rfl) (by decide) (by decide) (by decide) ⟨(Nat.le_of_ble_eq_true rfl), (Nat.le_of_ble_eq_true rfl)⟩ (fun a29 => ?_)
  refine g_eq (ws2 := [(h, .inr (0, [.ref b5, .ref b16, .null, .null])), (b5, .inr (5, [.ref a6_9])), (a6_9, iA g 4 (fun _ => 0)), (b16, .inr (4, [.ref a7_20, .int 0, .int 0])), (a7_20, iA g 32 (fun _ => 0)), (a29, lA g 96 (fun _ => 0))]) rfl ?_
  refine g_putF E hin (j := 2) (q0 := 0) (fs2 := [.ref b5, .ref b16, .ref a29, .null]) (ws2 := [(h, .inr (0, [.ref b5, .ref b16, .ref a29, .null])), (b5, .inr (5, [.ref a6_9])), (a6_9, iA g 4 (fun _ => 0)), (b16, .inr (4, [.ref a7_20, .int 0, .int 0])), (a7_20, iA g 32 (fun _ => 0)), (a29, lA g 96 (fun _ => 0))]) (pn := 34) dX0_init_31 rfl jcl0 tyX0_ok nmX0 (Nat.le_of_ble_eq_true rfl) rfl rfl (tyX0_ok 2 (Nat.le_of_ble_eq_true rfl)) fl_X0_25 rfl rfl rfl (Nat.le_of_ble_eq_true rfl) rfl rfl ?_
  refine g_aload_n E (pn := 35) dX0_init_34 rfl rfl ?_
  refine g_bipush E (pn := 37) (nI 96) dX0_init_35 rfl (by decide) ?_
  refine g_newa (t0 := 1) (N := 96) (ty := .long) (z := .inr (.inl (fun _ => 0))) E (pn := 39) dX0_init_37 rfl rfl rfl (by simp) w_a_long (fun _ => rfl) (by decide) (by decide) (by decide) ⟨(Nat.le_of_ble_eq_true rfl), (Nat.le_of_ble_eq_true rfl)⟩ (fun a37 => ?_)
  refine g_eq (ws2 := [(h, .inr (0, [.ref b5, .ref b16, .ref a29, .null])), (b5, .inr (5, [.ref a6_9])), (a6_9, iA g 4 (fun _ => 0)), (b16, .inr (4, [.ref a7_20, .int 0, .int 0])), (a7_20, iA g 32 (fun _ => 0)), (a29, lA g 96 (fun _ => 0)), (a37, lA g 96 (fun _ => 0))]) rfl ?_
  refine g_putF E hin (j := 3) (q0 := 0) (fs2 := [.ref b5, .ref b16, .ref a29, .ref a37]) (ws2 := [(h, .inr (0, [.ref b5, .ref b16, .ref a29, .ref a37])), (b5, .inr (5, [.ref a6_9])), (a6_9, iA g 4 (fun _ => 0)), (b16, .inr (4, [.ref a7_20, .int 0, .int 0])), (a7_20, iA g 32 (fun _ => 0)), (a29, lA g 96 (fun _ => 0)), (a37, lA g 96 (fun _ => 0))]) (pn := 42) dX0_init_39 rfl jcl0 tyX0_ok nmX0 (Nat.le_of_ble_eq_true rfl) rfl rfl (tyX0_ok 3 (Nat.le_of_ble_eq_true rfl)) fl_X0_29 rfl rfl rfl (Nat.le_of_ble_eq_true rfl) rfl rfl ?_
  exact g_vret E hr hlk dX0_init_42 ⟨b5, a6_9, b16, a7_20, a29, a37, rfl⟩
set_option maxRecDepth 100000 in
theorem con_X3_init (g : jG) (h : Nat) : ConN g jX3_init 1 14 149 [.ref h] [(h, .inr (3, [.int 0, .int 0, .null, .null, .null, .null, .null]))] (fun w => ∃ a12 a20 a30 r a40 a48, w = [(h, .inr (3, [.int (nI 1), .int 0, .ref a12, .ref a20, .ref a30, .ref a40, .ref a48])), (a12, lA g 8 (fun _ => 0)), (a20, iA g 8 (fun _ => 0)), (a30, oA9 g r), (r 0, iA g 12 (fun _ => 0)), (r 1, iA g 12 (fun _ => 0)), (r 2, iA g 12 (fun _ => 0)), (r 3, iA g 12 (fun _ => 0)), (r 4, iA g 12 (fun _ => 0)), (r 5, iA g 12 (fun _ => 0)), (r 6, iA g 12 (fun _ => 0)), (r 7, iA g 12 (fun _ => 0)), (r 8, iA g 12 (fun _ => 0)), (a40, iA g 8 (fun _ => 0)), (a48, lA g 8 (fun _ => 0))]) := by
  refine conN_of (l := [some (.ref h)]) (by decide) (Nat.le_of_ble_eq_true rfl) rfl ?_
  intro p e s m args below meth c A E hin hr hlk
  refine g_aload_n E (pn := 1) dX3_init_0 rfl rfl ?_
  refine g_objInit E (pn := 4) dX3_init_1 rfl w_oi_X3 w_oi_i w_oi_c ⟨(Nat.le_of_ble_eq_true rfl), (Nat.le_of_ble_eq_true rfl)⟩ ?_
  refine g_aload_n E (pn := 5) dX3_init_4 rfl rfl ?_
  refine g_iconst E (pn := 6) (nI 1) dX3_init_5 rfl (by decide) ?_
  refine g_put E (j := 0) (q0 := 0) (fs2 := [.int (nI 1), .int 0, .null, .null, .null, .null, .null]) (ws2 := [(h, .inr (3, [.int (nI 1), .int 0, .null, .null, .null, .null, .null]))]) (pn := 9) dX3_init_6 rfl jcl3 tyX3_ok nmX3 (Nat.le_of_ble_eq_true rfl) rfl (tyX3_ok 0 (Nat.le_of_ble_eq_true rfl)) fl_X3_9 rfl rfl rfl (Nat.le_of_ble_eq_true rfl) rfl rfl ?_
  refine g_aload_n E (pn := 10) dX3_init_9 rfl rfl ?_
  refine g_bipush E (pn := 12) (nI 8) dX3_init_10 rfl (by decide) ?_
  refine g_newa (t0 := 1) (N := 8) (ty := .long) (z := .inr (.inl (fun _ => 0))) E (pn := 14) dX3_init_12 rfl rfl rfl (by simp) w_a_long (fun _ => rfl) (by decide) (by decide) (by decide) ⟨(Nat.le_of_ble_eq_true rfl), (Nat.le_of_ble_eq_true rfl)⟩ (fun a12 => ?_)
  refine g_eq (ws2 := [(h, .inr (3, [.int (nI 1), .int 0, .null, .null, .null, .null, .null])), (a12, lA g 8 (fun _ => 0))]) rfl ?_
  refine g_putF E hin (j := 2) (q0 := 0) (fs2 := [.int (nI 1), .int 0, .ref a12, .null, .null, .null, .null]) (ws2 := [(h, .inr (3, [.int (nI 1), .int 0, .ref a12, .null, .null, .null, .null])), (a12, lA g 8 (fun _ => 0))]) (pn := 17) dX3_init_14 rfl jcl3 tyX3_ok nmX3 (Nat.le_of_ble_eq_true rfl) rfl rfl (tyX3_ok 2 (Nat.le_of_ble_eq_true rfl)) fl_X3_15 rfl rfl rfl (Nat.le_of_ble_eq_true rfl) rfl rfl ?_
  refine g_aload_n E (pn := 18) dX3_init_17 rfl rfl ?_
  refine g_bipush E (pn := 20) (nI 8) dX3_init_18 rfl (by decide) ?_
  refine g_newa (t0 := 0) (N := 8) (ty := .int) (z := .inl (fun _ => 0)) E (pn := 22) dX3_init_20 rfl rfl rfl (by simp) w_a_int (fun _ => rfl) (by decide) (by decide) (by decide) ⟨(Nat.le_of_ble_eq_true rfl), (Nat.le_of_ble_eq_true rfl)⟩ (fun a20 => ?_)
  refine g_eq (ws2 := [(h, .inr (3, [.int (nI 1), .int 0, .ref a12, .null, .null, .null, .null])), (a12, lA g 8 (fun _ => 0)), (a20, iA g 8 (fun _ => 0))]) rfl ?_
  refine g_putF E hin (j := 3) (q0 := 0) (fs2 := [.int (nI 1), .int 0, .ref a12, .ref a20, .null, .null, .null]) (ws2 := [(h, .inr (3, [.int (nI 1), .int 0, .ref a12, .ref a20, .null, .null, .null])), (a12, lA g 8 (fun _ => 0)), (a20, iA g 8 (fun _ => 0))]) (pn := 25) dX3_init_22 rfl jcl3 tyX3_ok nmX3 (Nat.le_of_ble_eq_true rfl) rfl rfl (tyX3_ok 3 (Nat.le_of_ble_eq_true rfl)) fl_X3_19 rfl rfl rfl (Nat.le_of_ble_eq_true rfl) rfl rfl ?_
  refine g_aload_n E (pn := 26) dX3_init_25 rfl rfl ?_
  refine g_bipush E (pn := 28) (nI 9) dX3_init_26 rfl (by decide) ?_
  refine g_bipush E (pn := 30) (nI 12) dX3_init_28 rfl (by decide) ?_
  refine g_mna E (pn := 34) dX3_init_30 rfl w_cl_mna w_a_int ⟨(Nat.le_of_ble_eq_true rfl), (Nat.le_of_ble_eq_true rfl)⟩ (fun a30 r => ?_)
  refine g_eq (ws2 := [(h, .inr (3, [.int (nI 1), .int 0, .ref a12, .ref a20, .null, .null, .null])), (a12, lA g 8 (fun _ => 0)), (a20, iA g 8 (fun _ => 0)), (a30, oA9 g r), (r 0, iA g 12 (fun _ => 0)), (r 1, iA g 12 (fun _ => 0)), (r 2, iA g 12 (fun _ => 0)), (r 3, iA g 12 (fun _ => 0)), (r 4, iA g 12 (fun _ => 0)), (r 5, iA g 12 (fun _ => 0)), (r 6, iA g 12 (fun _ => 0)), (r 7, iA g 12 (fun _ => 0)), (r 8, iA g 12 (fun _ => 0))]) rfl ?_
  refine g_putF E hin (j := 4) (q0 := 0) (fs2 := [.int (nI 1), .int 0, .ref a12, .ref a20, .ref a30, .null, .null]) (ws2 := [(h, .inr (3, [.int (nI 1), .int 0, .ref a12, .ref a20, .ref a30, .null, .null])), (a12, lA g 8 (fun _ => 0)), (a20, iA g 8 (fun _ => 0)), (a30, oA9 g r), (r 0, iA g 12 (fun _ => 0)), (r 1, iA g 12 (fun _ => 0)), (r 2, iA g 12 (fun _ => 0)), (r 3, iA g 12 (fun _ => 0)), (r 4, iA g 12 (fun _ => 0)), (r 5, iA g 12 (fun _ => 0)), (r 6, iA g 12 (fun _ => 0)), (r 7, iA g 12 (fun _ => 0)), (r 8, iA g 12 (fun _ => 0))]) (pn := 37) dX3_init_34 rfl jcl3 tyX3_ok nmX3 (Nat.le_of_ble_eq_true rfl) rfl rfl (tyX3_ok 4 (Nat.le_of_ble_eq_true rfl)) fl_X3_25 rfl rfl rfl (Nat.le_of_ble_eq_true rfl) rfl rfl ?_
  refine g_aload_n E (pn := 38) dX3_init_37 rfl rfl ?_
  refine g_bipush E (pn := 40) (nI 8) dX3_init_38 rfl (by decide) ?_
  refine g_newa (t0 := 0) (N := 8) (ty := .int) (z := .inl (fun _ => 0)) E (pn := 42) dX3_init_40 rfl rfl rfl (by simp) w_a_int (fun _ => rfl) (by decide) (by decide) (by decide) ⟨(Nat.le_of_ble_eq_true rfl), (Nat.le_of_ble_eq_true rfl)⟩ (fun a40 => ?_)
  refine g_eq (ws2 := [(h, .inr (3, [.int (nI 1), .int 0, .ref a12, .ref a20, .ref a30, .null, .null])), (a12, lA g 8 (fun _ => 0)), (a20, iA g 8 (fun _ => 0)), (a30, oA9 g r), (r 0, iA g 12 (fun _ => 0)), (r 1, iA g 12 (fun _ => 0)), (r 2, iA g 12 (fun _ => 0)), (r 3, iA g 12 (fun _ => 0)), (r 4, iA g 12 (fun _ => 0)), (r 5, iA g 12 (fun _ => 0)), (r 6, iA g 12 (fun _ => 0)), (r 7, iA g 12 (fun _ => 0)), (r 8, iA g 12 (fun _ => 0)), (a40, iA g 8 (fun _ => 0))]) rfl ?_
  refine g_putF E hin (j := 5) (q0 := 0) (fs2 := [.int (nI 1), .int 0, .ref a12, .ref a20, .ref a30, .ref a40, .null]) (ws2 := [(h, .inr (3, [.int (nI 1), .int 0, .ref a12, .ref a20, .ref a30, .ref a40, .null])), (a12, lA g 8 (fun _ => 0)), (a20, iA g 8 (fun _ => 0)), (a30, oA9 g r), (r 0, iA g 12 (fun _ => 0)), (r 1, iA g 12 (fun _ => 0)), (r 2, iA g 12 (fun _ => 0)), (r 3, iA g 12 (fun _ => 0)), (r 4, iA g 12 (fun _ => 0)), (r 5, iA g 12 (fun _ => 0)), (r 6, iA g 12 (fun _ => 0)), (r 7, iA g 12 (fun _ => 0)), (r 8, iA g 12 (fun _ => 0)), (a40, iA g 8 (fun _ => 0))]) (pn := 45) dX3_init_42 rfl jcl3 tyX3_ok nmX3 (Nat.le_of_ble_eq_true rfl) rfl rfl (tyX3_ok 5 (Nat.le_of_ble_eq_true rfl)) fl_X3_28 rfl rfl rfl (Nat.le_of_ble_eq_true rfl) rfl rfl ?_
  refine g_aload_n E (pn := 46) dX3_init_45 rfl rfl ?_
  refine g_bipush E (pn := 48) (nI 8) dX3_init_46 rfl (by decide) ?_
  refine g_newa (t0 := 1) (N := 8) (ty := .long) (z := .inr (.inl (fun _ => 0))) E (pn := 50) dX3_init_48 rfl rfl rfl (by simp) w_a_long (fun _ => rfl) (by decide) (by decide) (by decide) ⟨(Nat.le_of_ble_eq_true rfl), (Nat.le_of_ble_eq_true rfl)⟩ (fun a48 => ?_)
  refine g_eq (ws2 := [(h, .inr (3, [.int (nI 1), .int 0, .ref a12, .ref a20, .ref a30, .ref a40, .null])), (a12, lA g 8 (fun _ => 0)), (a20, iA g 8 (fun _ => 0)), (a30, oA9 g r), (r 0, iA g 12 (fun _ => 0)), (r 1, iA g 12 (fun _ => 0)), (r 2, iA g 12 (fun _ => 0)), (r 3, iA g 12 (fun _ => 0)), (r 4, iA g 12 (fun _ => 0)), (r 5, iA g 12 (fun _ => 0)), (r 6, iA g 12 (fun _ => 0)), (r 7, iA g 12 (fun _ => 0)), (r 8, iA g 12 (fun _ => 0)), (a40, iA g 8 (fun _ => 0)), (a48, lA g 8 (fun _ => 0))]) rfl ?_
  refine g_putF E hin (j := 6) (q0 := 0) (fs2 := [.int (nI 1), .int 0, .ref a12, .ref a20, .ref a30, .ref a40, .ref a48]) (ws2 := [(h, .inr (3, [.int (nI 1), .int 0, .ref a12, .ref a20, .ref a30, .ref a40, .ref a48])), (a12, lA g 8 (fun _ => 0)), (a20, iA g 8 (fun _ => 0)), (a30, oA9 g r), (r 0, iA g 12 (fun _ => 0)), (r 1, iA g 12 (fun _ => 0)), (r 2, iA g 12 (fun _ => 0)), (r 3, iA g 12 (fun _ => 0)), (r 4, iA g 12 (fun _ => 0)), (r 5, iA g 12 (fun _ => 0)), (r 6, iA g 12 (fun _ => 0)), (r 7, iA g 12 (fun _ => 0)), (r 8, iA g 12 (fun _ => 0)), (a40, iA g 8 (fun _ => 0)), (a48, lA g 8 (fun _ => 0))]) (pn := 53) dX3_init_50 rfl jcl3 tyX3_ok nmX3 (Nat.le_of_ble_eq_true rfl) rfl rfl (tyX3_ok 6 (Nat.le_of_ble_eq_true rfl)) fl_X3_31 rfl rfl rfl (Nat.le_of_ble_eq_true rfl) rfl rfl ?_
  exact g_vret E hr hlk dX3_init_53 ⟨a12, a20, a30, r, a40, a48, rfl⟩
