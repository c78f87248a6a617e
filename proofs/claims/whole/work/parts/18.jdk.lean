theorem and_256 (x y : Nat) : x &&& y = (x % 256 &&& y % 256) + 256 * (x / 256 &&& y / 256) := by
  have h1 : (x &&& y) % 2 ^ 8 = (x % 2 ^ 8) &&& (y % 2 ^ 8) := Nat.and_mod_two_pow
  have h2 : (x &&& y) / 2 ^ 8 = x / 2 ^ 8 &&& y / 2 ^ 8 := Nat.and_div_two_pow
  have h3 := Nat.div_add_mod (x &&& y) (2 ^ 8)
  rw [h1, h2] at h3
  have e : (2 : Nat) ^ 8 = 256 := rfl
  rw [e] at h3
  omega
theorem and4 {x y c : Nat} (hx : x < 4294967296) (h0 : y % 256 = c) (h1 : y / 256 % 256 = c) (h2 : y / 65536 % 256 = c) (h3 : y / 16777216 % 256 = c) : x &&& y = (x % 256 &&& c) + 256 * (x / 256 % 256 &&& c) + 65536 * (x / 65536 % 256 &&& c) + 16777216 * (x / 16777216 % 256 &&& c) := by
  have e1 := and_256 x y
  have e2 := and_256 (x / 256) (y / 256)
  have e3 := and_256 (x / 65536) (y / 65536)
  have e4 := and_256 (x / 16777216) (y / 16777216)
  have d1 : x / 256 / 256 = x / 65536 := by omega
  have d2 : y / 256 / 256 = y / 65536 := by omega
  have d3 : x / 65536 / 256 = x / 16777216 := by omega
  have d4 : y / 65536 / 256 = y / 16777216 := by omega
  have d5 : x / 16777216 / 256 = 0 := by omega
  rw [d1, d2] at e2
  rw [d3, d4] at e3
  rw [d5, Nat.zero_and] at e4
  rw [h0] at e1
  rw [h1] at e2
  rw [h2] at e3
  rw [h3] at e4
  omega
def bf1 (a : Nat) : Nat := a - (a / 2 &&& 85)
def bf2 (p : Nat) : Nat := (p &&& 51) + (p / 4 &&& 51)
def bf3 (q : Nat) : Nat := (q + q / 16) % 16
theorem bk1 : ∀ a, a < 256 → ∀ e, e < 2 → (a / 2 + 128 * e) &&& 85 = a / 2 &&& 85 := by decide +kernel
theorem bk2 : ∀ p, p < 256 → ∀ e, e < 4 → (p / 4 + 64 * e) &&& 51 = p / 4 &&& 51 := by decide +kernel
theorem bk3 : ∀ a, a < 256 → bf1 a < 256 ∧ bf2 (bf1 a) ≤ 68 ∧ bf2 (bf1 a) % 16 ≤ 4 ∧ bf3 (bf2 (bf1 a)) = cnt 8 a.testBit ∧ bf3 (bf2 (bf1 a)) ≤ 8 ∧ (a / 2 &&& 85) ≤ a := by decide +kernel
theorem bk4 (x : Nat) : x &&& 15 = x % 16 := Nat.and_two_pow_sub_one_eq_mod x 4
theorem bs1 {a b c d : Nat} (ha : a < 256) (hb : b < 256) (hc : c < 256) (hd : d < 256) : (a + 256 * b + 65536 * c + 16777216 * d) - ((a + 256 * b + 65536 * c + 16777216 * d) / 2 &&& 6148914691236517205) = bf1 a + 256 * bf1 b + 65536 * bf1 c + 16777216 * bf1 d := by
  rw [and4 (c := 85) (by omega) (by decide) (by decide) (by decide) (by decide)]
  have e0 : (a + 256 * b + 65536 * c + 16777216 * d) / 2 % 256 = a / 2 + 128 * (b % 2) := by omega
  have e1 : (a + 256 * b + 65536 * c + 16777216 * d) / 2 / 256 % 256 = b / 2 + 128 * (c % 2) := by omega
  have e2 : (a + 256 * b + 65536 * c + 16777216 * d) / 2 / 65536 % 256 = c / 2 + 128 * (d % 2) := by omega
  have e3 : (a + 256 * b + 65536 * c + 16777216 * d) / 2 / 16777216 % 256 = d / 2 := by omega
  rw [e0, e1, e2, e3, bk1 a ha _ (by omega), bk1 b hb _ (by omega), bk1 c hc _ (by omega)]
  have q0 := (bk3 a ha).2.2.2.2.2
  have q1 := (bk3 b hb).2.2.2.2.2
  have q2 := (bk3 c hc).2.2.2.2.2
  have q3 := (bk3 d hd).2.2.2.2.2
  unfold bf1
  omega
theorem bs2 {a b c d : Nat} (ha : a < 256) (hb : b < 256) (hc : c < 256) (hd : d < 256) : ((a + 256 * b + 65536 * c + 16777216 * d) &&& 3689348814741910323) + ((a + 256 * b + 65536 * c + 16777216 * d) / 4 &&& 3689348814741910323) = bf2 a + 256 * bf2 b + 65536 * bf2 c + 16777216 * bf2 d := by
  rw [and4 (x := a + 256 * b + 65536 * c + 16777216 * d) (c := 51) (by omega) (by decide) (by decide) (by decide) (by decide)]
  rw [and4 (x := (a + 256 * b + 65536 * c + 16777216 * d) / 4) (c := 51) (by omega) (by decide) (by decide) (by decide) (by decide)]
  have f0 : (a + 256 * b + 65536 * c + 16777216 * d) % 256 = a := by omega
  have f1 : (a + 256 * b + 65536 * c + 16777216 * d) / 256 % 256 = b := by omega
  have f2 : (a + 256 * b + 65536 * c + 16777216 * d) / 65536 % 256 = c := by omega
  have f3 : (a + 256 * b + 65536 * c + 16777216 * d) / 16777216 % 256 = d := by omega
  have e0 : (a + 256 * b + 65536 * c + 16777216 * d) / 4 % 256 = a / 4 + 64 * (b % 4) := by omega
  have e1 : (a + 256 * b + 65536 * c + 16777216 * d) / 4 / 256 % 256 = b / 4 + 64 * (c % 4) := by omega
  have e2 : (a + 256 * b + 65536 * c + 16777216 * d) / 4 / 65536 % 256 = c / 4 + 64 * (d % 4) := by omega
  have e3 : (a + 256 * b + 65536 * c + 16777216 * d) / 4 / 16777216 % 256 = d / 4 := by omega
  rw [f0, f1, f2, f3, e0, e1, e2, e3, bk2 a ha _ (by omega), bk2 b hb _ (by omega), bk2 c hc _ (by omega)]
  unfold bf2
  omega
theorem bs3 {a b c d : Nat} (ha : a ≤ 68) (hb : b ≤ 68) (hc : c ≤ 68) (hd : d ≤ 68) (hb2 : b % 16 ≤ 4) (hc2 : c % 16 ≤ 4) (hd2 : d % 16 ≤ 4) : ((a + 256 * b + 65536 * c + 16777216 * d) + (a + 256 * b + 65536 * c + 16777216 * d) / 16) &&& 1085102592571150095 = bf3 a + 256 * bf3 b + 65536 * bf3 c + 16777216 * bf3 d := by
  have hx : (a + 256 * b + 65536 * c + 16777216 * d) + (a + 256 * b + 65536 * c + 16777216 * d) / 16 = (a + a / 16 + 16 * (b % 16)) + 256 * (b + b / 16 + 16 * (c % 16)) + 65536 * (c + c / 16 + 16 * (d % 16)) + 16777216 * (d + d / 16) := by omega
  have x0 : a + a / 16 + 16 * (b % 16) < 256 := by omega
  have x1 : b + b / 16 + 16 * (c % 16) < 256 := by omega
  have x2 : c + c / 16 + 16 * (d % 16) < 256 := by omega
  have x3 : d + d / 16 < 256 := by omega
  have m0 : bf3 a = (a + a / 16 + 16 * (b % 16)) % 16 := by unfold bf3; omega
  have m1 : bf3 b = (b + b / 16 + 16 * (c % 16)) % 16 := by unfold bf3; omega
  have m2 : bf3 c = (c + c / 16 + 16 * (d % 16)) % 16 := by unfold bf3; omega
  have m3 : bf3 d = (d + d / 16) % 16 := rfl
  rw [hx, m0, m1, m2, m3]
  generalize a + a / 16 + 16 * (b % 16) = p0 at x0
  generalize b + b / 16 + 16 * (c % 16) = p1 at x1
  generalize c + c / 16 + 16 * (d % 16) = p2 at x2
  generalize d + d / 16 = p3 at x3
  rw [and4 (c := 15) (by omega) (by decide) (by decide) (by decide) (by decide), bk4, bk4, bk4, bk4]
  have y0 : (p0 + 256 * p1 + 65536 * p2 + 16777216 * p3) % 256 = p0 := by omega
  have y1 : (p0 + 256 * p1 + 65536 * p2 + 16777216 * p3) / 256 % 256 = p1 := by omega
  have y2 : (p0 + 256 * p1 + 65536 * p2 + 16777216 * p3) / 65536 % 256 = p2 := by omega
  have y3 : (p0 + 256 * p1 + 65536 * p2 + 16777216 * p3) / 16777216 % 256 = p3 := by omega
  rw [y0, y1, y2, y3]
theorem cnt_split (f : Nat → Bool) (n : Nat) : ∀ m, cnt (n + m) f = cnt n f + cnt m (fun r => f (n + r))
  | 0 => rfl
  | m + 1 => by
    show cnt (n + m) f + (if f (n + m) then 1 else 0) = cnt n f + (cnt m (fun r => f (n + r)) + (if f (n + m) then 1 else 0))
    rw [cnt_split f n m]
    omega
theorem cnt_byte (t k : Nat) : cnt 8 (fun r => t.testBit (k + r)) = cnt 8 (t / 2 ^ k % 256).testBit := by
  apply cnt_ext
  intro r hr
  have h : (t / 2 ^ k % 2 ^ 8).testBit r = (decide (r < 8) && (t / 2 ^ k).testBit r) := Nat.testBit_mod_two_pow _ _ _
  have e : (2 : Nat) ^ 8 = 256 := rfl
  rw [e] at h
  rw [h, Nat.testBit_div_two_pow, Nat.add_comm k r]
  simp [hr]
theorem cnt_bytes (t : Nat) : cnt 32 t.testBit = cnt 8 (t % 256).testBit + cnt 8 (t / 256 % 256).testBit + cnt 8 (t / 65536 % 256).testBit + cnt 8 (t / 16777216 % 256).testBit := by
  have h1 : cnt 32 t.testBit = cnt 24 t.testBit + cnt 8 (fun r => t.testBit (24 + r)) := cnt_split t.testBit 24 8
  have h2 : cnt 24 t.testBit = cnt 16 t.testBit + cnt 8 (fun r => t.testBit (16 + r)) := cnt_split t.testBit 16 8
  have h3 : cnt 16 t.testBit = cnt 8 t.testBit + cnt 8 (fun r => t.testBit (8 + r)) := cnt_split t.testBit 8 8
  have b0 := cnt_byte t 0
  have b1 := cnt_byte t 8
  have b2 := cnt_byte t 16
  have b3 := cnt_byte t 24
  rw [Nat.pow_zero, Nat.div_one] at b0
  have e0 : cnt 8 t.testBit = cnt 8 (fun r => t.testBit (0 + r)) := cnt_ext (fun r _ => by rw [Nat.zero_add])
  have p8 : (2 : Nat) ^ 8 = 256 := rfl
  have p16 : (2 : Nat) ^ 16 = 65536 := rfl
  have p24 : (2 : Nat) ^ 24 = 16777216 := rfl
  rw [p8] at b1
  rw [p16] at b2
  rw [p24] at b3
  rw [h1, h2, h3, e0, b0, b1, b2, b3]
/-- the parallel count of a long below two to the 32 -/
theorem bitc {t : Nat} (ht : t < 4294967296) : ∃ u, u < 4294967296 ∧ t - (t / 2 &&& 6148914691236517205) = u ∧ ∃ v, v < 4294967296 ∧ (u &&& 3689348814741910323) + (u / 4 &&& 3689348814741910323) = v ∧ ∃ w, w < 4294967296 ∧ (v + v / 16) &&& 1085102592571150095 = w ∧ ∃ x, x < 8589934592 ∧ w + w / 256 = x ∧ ∃ y, y < 17179869184 ∧ x + x / 65536 = y ∧ ∃ z, z < 34359738368 ∧ y + y / 4294967296 = z ∧ z % 128 = cnt 32 t.testBit := by
  have k0 := bk3 (t % 256) (by omega)
  have k1 := bk3 (t / 256 % 256) (by omega)
  have k2 := bk3 (t / 65536 % 256) (by omega)
  have k3 := bk3 (t / 16777216 % 256) (by omega)
  have et : t = t % 256 + 256 * (t / 256 % 256) + 65536 * (t / 65536 % 256) + 16777216 * (t / 16777216 % 256) := by omega
  have hc := cnt_bytes t
  have la : t % 256 < 256 := by omega
  have lb : t / 256 % 256 < 256 := by omega
  have lc : t / 65536 % 256 < 256 := by omega
  have ld : t / 16777216 % 256 < 256 := by omega
  generalize t % 256 = a at *
  generalize t / 256 % 256 = b at *
  generalize t / 65536 % 256 = c at *
  generalize t / 16777216 % 256 = d at *
  have q1 := bs1 (a := a) (b := b) (c := c) (d := d) la lb lc ld
  rw [← et] at q1
  refine ⟨_, ?_, q1, ?_⟩
  · omega
  have q2 := bs2 (a := bf1 a) (b := bf1 b) (c := bf1 c) (d := bf1 d) k0.1 k1.1 k2.1 k3.1
  refine ⟨_, ?_, q2, ?_⟩
  · omega
  have q3 := bs3 (a := bf2 (bf1 a)) (b := bf2 (bf1 b)) (c := bf2 (bf1 c)) (d := bf2 (bf1 d)) k0.2.1 k1.2.1 k2.2.1 k3.2.1 k1.2.2.1 k2.2.2.1 k3.2.2.1
  refine ⟨_, ?_, q3, ?_⟩
  · omega
  have m0 := k0.2.2.2
  have m1 := k1.2.2.2
  have m2 := k2.2.2.2
  have m3 := k3.2.2.2
  generalize bf3 (bf2 (bf1 a)) = w0 at *
  generalize bf3 (bf2 (bf1 b)) = w1 at *
  generalize bf3 (bf2 (bf1 c)) = w2 at *
  generalize bf3 (bf2 (bf1 d)) = w3 at *
  have m0b := m0.2.1
  have m1b := m1.2.1
  have m2b := m2.2.1
  have m3b := m3.2.1
  have hs : cnt 32 t.testBit = w0 + w1 + w2 + w3 := by omega
  rw [hs]
  have e1 : (w0 + 256 * w1 + 65536 * w2 + 16777216 * w3) + (w0 + 256 * w1 + 65536 * w2 + 16777216 * w3) / 256 = (w0 + w1) + 256 * (w1 + w2) + 65536 * (w2 + w3) + 16777216 * w3 := by omega
  have e2 : ((w0 + w1) + 256 * (w1 + w2) + 65536 * (w2 + w3) + 16777216 * w3) + ((w0 + w1) + 256 * (w1 + w2) + 65536 * (w2 + w3) + 16777216 * w3) / 65536 = (w0 + w1 + w2 + w3) + 256 * (w1 + w2 + w3) + 65536 * (w2 + w3) + 16777216 * w3 := by omega
  have e3 : ((w0 + w1 + w2 + w3) + 256 * (w1 + w2 + w3) + 65536 * (w2 + w3) + 16777216 * w3) / 4294967296 = 0 := by omega
  refine ⟨_, ?_, e1, _, ?_, e2, _, ?_, rfl, ?_⟩
  · omega
  · omega
  · rw [e3]; omega
  · rw [e3]; omega
theorem lN_addI (a b : Nat) : lN a + lN b = lN (a + b) := lN_add a b
set_option maxRecDepth 100000 in
theorem con_J13_bitCount_95d88 {g : jG} {M : jMem} {t : Nat} (ht : t < 4294967296) : Fn g jJ13_bitCount_95d88 0 [.long (lN t)] M (.int (nI (cnt 32 t.testBit))) := by
  obtain ⟨u, hu, eu, v, hv, ev, w, hw, ew, x, hx, ex, y, hy, ey, z, hz, ez, hc⟩ := bitc ht
  refine con_of (l := [some (.long (lN t)), none]) (by decide) (Nat.le_of_ble_eq_true rfl) rfl ?_
  refine j_lload_n0 (n := 1) dJ13_bitCount_95d88_0 rfl ?_
  refine j_lload_n0 (n := 2) dJ13_bitCount_95d88_1 rfl ?_
  refine j_iconst (n := 3) (nI 1) dJ13_bitCount_95d88_2 rfl (by decide) ?_
  refine j_lushr (n := 4) dJ13_bitCount_95d88_3 rfl ?_
  refine j_ldc2 (n := 7) dJ13_bitCount_95d88_4 rfl cl_J13_314 ?_
  refine j_land (n := 8) dJ13_bitCount_95d88_7 rfl ?_
  refine j_lsub (n := 9) dJ13_bitCount_95d88_8 rfl ?_
  refine j_topl (lN u) ?_ ?_
  · show lN t - (((lN t).toUInt64 >>> ((nI 1).toInt64.toUInt64 &&& Int64.toUInt64 63)).toInt64 &&& lN 6148914691236517205) = lN u
    rw [al_ushr (by omega) (by omega), fb_andL, lN_sub (Nat.le_trans Nat.and_le_left (Nat.div_le_self _ _)), ← eu]
  refine j_lstore_n0 (n := 10) dJ13_bitCount_95d88_9 rfl (Nat.le_of_ble_eq_true rfl) ?_
  refine j_lload_n0 (n := 11) dJ13_bitCount_95d88_10 rfl ?_
  refine j_ldc2 (n := 14) dJ13_bitCount_95d88_11 rfl cl_J13_316 ?_
  refine j_land (n := 15) dJ13_bitCount_95d88_14 rfl ?_
  refine j_lload_n0 (n := 16) dJ13_bitCount_95d88_15 rfl ?_
  refine j_iconst (n := 17) (nI 2) dJ13_bitCount_95d88_16 rfl (by decide) ?_
  refine j_lushr (n := 18) dJ13_bitCount_95d88_17 rfl ?_
  refine j_ldc2 (n := 21) dJ13_bitCount_95d88_18 rfl cl_J13_316 ?_
  refine j_land (n := 22) dJ13_bitCount_95d88_21 rfl ?_
  refine j_ladd (n := 23) dJ13_bitCount_95d88_22 rfl ?_
  refine j_topl (lN v) ?_ ?_
  · show (lN u &&& lN 3689348814741910323) + (((lN u).toUInt64 >>> ((nI 2).toInt64.toUInt64 &&& Int64.toUInt64 63)).toInt64 &&& lN 3689348814741910323) = lN v
    rw [al_ushr (by omega) (by omega), fb_andL, fb_andL, lN_add, ← ev]
  refine j_lstore_n0 (n := 24) dJ13_bitCount_95d88_23 rfl (Nat.le_of_ble_eq_true rfl) ?_
  refine j_lload_n0 (n := 25) dJ13_bitCount_95d88_24 rfl ?_
  refine j_lload_n0 (n := 26) dJ13_bitCount_95d88_25 rfl ?_
  refine j_iconst (n := 27) (nI 4) dJ13_bitCount_95d88_26 rfl (by decide) ?_
  refine j_lushr (n := 28) dJ13_bitCount_95d88_27 rfl ?_
  refine j_ladd (n := 29) dJ13_bitCount_95d88_28 rfl ?_
  refine j_ldc2 (n := 32) dJ13_bitCount_95d88_29 rfl cl_J13_318 ?_
  refine j_land (n := 33) dJ13_bitCount_95d88_32 rfl ?_
  refine j_topl (lN w) ?_ ?_
  · show (lN v + ((lN v).toUInt64 >>> ((nI 4).toInt64.toUInt64 &&& Int64.toUInt64 63)).toInt64) &&& lN 1085102592571150095 = lN w
    rw [al_ushr (by omega) (by omega), lN_add, fb_andL, ← ew]
  refine j_lstore_n0 (n := 34) dJ13_bitCount_95d88_33 rfl (Nat.le_of_ble_eq_true rfl) ?_
  refine j_lload_n0 (n := 35) dJ13_bitCount_95d88_34 rfl ?_
  refine j_lload_n0 (n := 36) dJ13_bitCount_95d88_35 rfl ?_
  refine j_bipush (n := 38) (nI 8) dJ13_bitCount_95d88_36 rfl (by decide) ?_
  refine j_lushr (n := 39) dJ13_bitCount_95d88_38 rfl ?_
  refine j_ladd (n := 40) dJ13_bitCount_95d88_39 rfl ?_
  refine j_topl (lN x) ?_ ?_
  · rw [al_ushr (by omega) (by omega), lN_add, ← ex]
  refine j_lstore_n0 (n := 41) dJ13_bitCount_95d88_40 rfl (Nat.le_of_ble_eq_true rfl) ?_
  refine j_lload_n0 (n := 42) dJ13_bitCount_95d88_41 rfl ?_
  refine j_lload_n0 (n := 43) dJ13_bitCount_95d88_42 rfl ?_
  refine j_bipush (n := 45) (nI 16) dJ13_bitCount_95d88_43 rfl (by decide) ?_
  refine j_lushr (n := 46) dJ13_bitCount_95d88_45 rfl ?_
  refine j_ladd (n := 47) dJ13_bitCount_95d88_46 rfl ?_
  refine j_topl (lN y) ?_ ?_
  · rw [al_ushr (by omega) (by omega), lN_add, ← ey]
  refine j_lstore_n0 (n := 48) dJ13_bitCount_95d88_47 rfl (Nat.le_of_ble_eq_true rfl) ?_
  refine j_lload_n0 (n := 49) dJ13_bitCount_95d88_48 rfl ?_
  refine j_lload_n0 (n := 50) dJ13_bitCount_95d88_49 rfl ?_
  refine j_bipush (n := 52) (nI 32) dJ13_bitCount_95d88_50 rfl (by decide) ?_
  refine j_lushr (n := 53) dJ13_bitCount_95d88_52 rfl ?_
  refine j_ladd (n := 54) dJ13_bitCount_95d88_53 rfl ?_
  refine j_topl (lN z) ?_ ?_
  · rw [al_ushr (by omega) (by omega), lN_add, ← ez]
  refine j_lstore_n0 (n := 55) dJ13_bitCount_95d88_54 rfl (Nat.le_of_ble_eq_true rfl) ?_
  refine j_lload_n0 (n := 56) dJ13_bitCount_95d88_55 rfl ?_
  refine j_l2i (n := 57) dJ13_bitCount_95d88_56 rfl ?_
  refine j_bipush (n := 59) (nI 127) dJ13_bitCount_95d88_57 rfl (by decide) ?_
  refine j_iand (n := 60) dJ13_bitCount_95d88_59 rfl ?_
  refine j_topi (nI (cnt 32 t.testBit)) ?_ ?_
  · rw [lN_i, ← hc]
    exact fa_mask z 7
  refine j_iret dJ13_bitCount_95d88_60 rfl ?_
  exact ⟨rfl, rfl⟩
