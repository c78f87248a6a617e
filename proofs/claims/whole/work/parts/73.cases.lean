section LAW
variable {g : jG} {p : Program} {e : Env} {s : State} {m : MethodId} {below : List Frame} {meth : Method} {c : Code} {A : Nat → Prop} {Q : State → Prop} {b L cc : Nat} {xs : Nat → Int32} {k n : Nat}
theorem g_st {nL pc : Nat} {R : Room} {args : Array Value} {ls : List (Option Value)} {st st2 : List Value} {ws : va_W} (h : st = st2) (kk : GJ g nL p e R s m args below meth c A Q pc ls st2 ws k n) : GJ g nL p e R s m args below meth c A Q pc ls st ws k n := by
  rw [h]; exact kk
/-- behind a call the loop goes on -/
def lCont (g : jG) (p : Program) (e : Env) (s : State) (m : MethodId) (below : List Frame) (meth : Method) (c : Code) (A : Nat → Prop) (Q : State → Prop) (b cc k n : Nat) : Prop := ∀ (M : jMem) (sn sT : Nat → Nat) (ni ng : Nat) (W : Nat → Nat → Int) (B P : Nat → Int) (mm : Nat), CI g M sn sT ni ng W B P → RX g M sn sT ni ng W B P mm → SO sn sT ni ng W B P → mm ≤ 256 * (cc + 1) → GJ g 4 p e room_1 s m #[.ref b] below meth c A Q 1152 [some (.ref b), some (.ref (jA g 0)), some (.ref (jA g 34)), some (.int (nI (6 * cc)))] [] (jW g M) k n
theorem nOK_net {ni ng : Nat} {W : Nat → Nat → Int} {B P : Nat → Int} (h : nOK ni ng W B P) {x : Int32} (hx : isTo 4 x = true) : nOK x.toNatClampNeg 0 W B (fun _ => 0) := by
  obtain ⟨j, h1, h4, rfl⟩ := isTo_of (by decide) hx
  rw [nI_clamp (show j < 2 ^ 31 by omega)]
  exact ⟨⟨h1, h4, by omega⟩, fun o ho => absurd ho (Nat.not_lt_zero o), fun o ho => absurd ho (Nat.not_lt_zero o), fun k hk => by dsimp only; omega⟩
theorem isW_rg {k : Int} (hk : 0 ≤ k ∧ k < 1000) {w : Int32} (h : isW k w = true) : -k ≤ w.toInt ∧ w.toInt ≤ k := by
  obtain ⟨z, h1, h2, rfl⟩ := isW_of hk h
  rw [iI_toInt (by omega)]
  exact ⟨h1, h2⟩
theorem nOK_put {ni ng o : Nat} {W : Nat → Nat → Int} {B P : Nat → Int} (h : nOK ni ng W B P) {w : Int32} (hw : isW 9 w = true) : nOK ni ng W B (fun j => if j = o then w.toInt else P j) := by
  have hr := isW_rg (by omega) hw
  refine ⟨h.1, h.2.1, h.2.2.1, fun k hk => ?_⟩
  dsimp only
  split
  · exact hr
  · exact h.2.2.2 k hk
theorem nOK_add {ni ng : Nat} {W : Nat → Nat → Int} {B P : Nat → Int} (h : nOK ni ng W B P) {x : Int32} (hw : isW 99 x = true) (h8 : ng < 8) : nOK ni (ng + 1) (fun o => if o = ng then P else W o) (fun o => if o = ng then x.toInt else B o) (fun _ => 0) := by
  have hr := isW_rg (by omega) hw
  refine ⟨⟨h.1.1, h.1.2.1, by omega⟩, fun o ho k hk => ?_, fun o ho => ?_, fun k hk => by dsimp only; omega⟩
  · dsimp only
    by_cases z : o = ng
    · rw [if_pos z]
      exact h.2.2.2 k hk
    · rw [if_neg z]
      exact h.2.1 o (by omega) k hk
  · dsimp only
    by_cases z : o = ng
    · rw [if_pos z]
      exact hr
    · rw [if_neg z]
      exact h.2.2.1 o (by omega)
set_option maxRecDepth 100000 in
theorem law_0 (E : gE g RL code 4 p s m #[.ref b] c A) (hJ : jS g A s) (hX : va_X b L xs s s.heap) (hbl : b < s.heap.size) (hbA : ¬ A b) (hL : L ≤ 3072) (h6 : 6 * cc + 6 ≤ L) (hf : k ≤ room_1.cells ∧ n ≤ room_1.slots) (kc : lCont g p e s m below meth c A Q b cc k n) {M : jMem} {sn sT : Nat → Nat} {ni ng : Nat} {W : Nat → Nat → Int} {B P : Nat → Int} {mm : Nat} (hc : CI g M sn sT ni ng W B P) (hr : RX g M sn sT ni ng W B P mm) (ho : SO sn sT ni ng W B P) (hm : mm ≤ 256 * cc) : GJ g 4 p e room_1 s m #[.ref b] below meth c A Q 164 [some (.ref b), some (.ref (jA g 0)), some (.ref (jA g 34)), some (.int (nI (6 * cc)))] [] (jW g M) k n := by
  refine g_aload_n E (pn := 165) dL_law_164 rfl rfl ?_
  refine g_aload_n E (pn := 166) dL_law_165 rfl rfl ?_
  refine g_iload_n E (pn := 167) dL_law_166 rfl rfl ?_
  refine g_iconst E (pn := 168) (nI 1) dL_law_167 rfl (by decide) ?_
  refine g_iadd E (pn := 169) dL_law_168 rfl ?_
  refine g_topi (nI (6 * cc + 1)) (nI_add _ _) ?_
  refine g_sld E hX hbl hbA (by omega) (show 6 * cc + 1 < L by omega) (pn := 170) dL_law_169 rfl ?_
  refine g_aload_n E (pn := 171) dL_law_170 rfl rfl ?_
  refine g_iload_n E (pn := 172) dL_law_171 rfl rfl ?_
  refine g_iconst E (pn := 173) (nI 2) dL_law_172 rfl (by decide) ?_
  refine g_iadd E (pn := 174) dL_law_173 rfl ?_
  refine g_topi (nI (6 * cc + 2)) (nI_add _ _) ?_
  refine g_sld E hX hbl hbA (by omega) (show 6 * cc + 2 < L by omega) (pn := 175) dL_law_174 rfl ?_
  refine g_aload_n E (pn := 176) dL_law_175 rfl rfl ?_
  refine g_iload_n E (pn := 177) dL_law_176 rfl rfl ?_
  refine g_iconst E (pn := 178) (nI 3) dL_law_177 rfl (by decide) ?_
  refine g_iadd E (pn := 179) dL_law_178 rfl ?_
  refine g_topi (nI (6 * cc + 3)) (nI_add _ _) ?_
  refine g_sld E hX hbl hbA (by omega) (show 6 * cc + 3 < L by omega) (pn := 180) dL_law_179 rfl ?_
  refine g_i2l E (pn := 181) dL_law_180 rfl ?_
  refine g_bipush E (pn := 183) (nI 32) dL_law_181 rfl (by decide) ?_
  refine g_lshl E (pn := 184) dL_law_183 rfl ?_
  refine g_aload_n E (pn := 185) dL_law_184 rfl rfl ?_
  refine g_iload_n E (pn := 186) dL_law_185 rfl rfl ?_
  refine g_iconst E (pn := 187) (nI 4) dL_law_186 rfl (by decide) ?_
  refine g_iadd E (pn := 188) dL_law_187 rfl ?_
  refine g_topi (nI (6 * cc + 4)) (nI_add _ _) ?_
  refine g_sld E hX hbl hbA (by omega) (show 6 * cc + 4 < L by omega) (pn := 189) dL_law_188 rfl ?_
  refine g_i2l E (pn := 190) dL_law_189 rfl ?_
  refine g_ldc2_w E (pn := 193) dL_law_190 rfl cl_L_13 ?_
  refine g_land E (pn := 194) dL_law_193 rfl ?_
  refine g_lor E (pn := 195) dL_law_194 rfl ?_
  refine g_conV (kc := 0) (ci := 6) (fs := oX g) [.int (xs (6 * cc + 1)), .int (xs (6 * cc + 2)), .long (((xs (6 * cc + 3)).toInt64 <<< ((nI 32).toInt64 &&& 63)) ||| ((xs (6 * cc + 4)).toInt64 &&& 4294967295))] E hJ (con_X7_table hc.1 hc.2.1 hc.2.2.1) dL_law_195 (pn := 198) rfl cal_X7_table ml_L_15 ⟨(Nat.le_of_ble_eq_true rfl), (Nat.le_of_ble_eq_true rfl)⟩ rfl (by decide) hc.1 rfl rfl rfl (Nat.le_of_ble_eq_true rfl) hf ?_
  rintro _ M2 ⟨rfl, rfl⟩
  obtain ⟨hc2, hf2⟩ := CI_set (sn2 := (sp_table sn sT (xs (6 * cc + 1)) (xs (6 * cc + 2)) (((xs (6 * cc + 3)).toInt64 <<< ((nI 32).toInt64 &&& 63)) ||| ((xs (6 * cc + 4)).toInt64 &&& 4294967295))).2.1) (sT2 := (sp_table sn sT (xs (6 * cc + 1)) (xs (6 * cc + 2)) (((xs (6 * cc + 3)).toInt64 <<< ((nI 32).toInt64 &&& 63)) ||| ((xs (6 * cc + 4)).toInt64 &&& 4294967295))).2.2) hc
  refine g_st (st2 := [.int _]) rfl ?_
  have hr2 := RX_fr hf2 hr
  obtain ⟨q, ri, r35, r36, ⟨tp, r47, rtp⟩, ⟨nw, nb, r48, r49, rwb⟩, ⟨wk, r50⟩, ⟨dp, r51⟩⟩ := id hr2
  refine g_aload_n E (pn := 199) dL_law_198 rfl rfl ?_
  refine g_aload_n E (pn := 200) dL_law_199 rfl rfl ?_
  refine g_iload_n E (pn := 201) dL_law_200 rfl rfl ?_
  refine g_iconst E (pn := 202) (nI 1) dL_law_201 rfl (by decide) ?_
  refine g_iadd E (pn := 203) dL_law_202 rfl ?_
  refine g_topi (nI (6 * cc + 1)) (nI_add _ _) ?_
  refine g_sld E hX hbl hbA (by omega) (show 6 * cc + 1 < L by omega) (pn := 204) dL_law_203 rfl ?_
  refine g_aload_n E (pn := 205) dL_law_204 rfl rfl ?_
  refine g_iload_n E (pn := 206) dL_law_205 rfl rfl ?_
  refine g_iconst E (pn := 207) (nI 2) dL_law_206 rfl (by decide) ?_
  refine g_iadd E (pn := 208) dL_law_207 rfl ?_
  refine g_topi (nI (6 * cc + 2)) (nI_add _ _) ?_
  refine g_sld E hX hbl hbA (by omega) (show 6 * cc + 2 < L by omega) (pn := 209) dL_law_208 rfl ?_
  refine g_aload_n E (pn := 210) dL_law_209 rfl rfl ?_
  refine g_iload_n E (pn := 211) dL_law_210 rfl rfl ?_
  refine g_iconst E (pn := 212) (nI 3) dL_law_211 rfl (by decide) ?_
  refine g_iadd E (pn := 213) dL_law_212 rfl ?_
  refine g_topi (nI (6 * cc + 3)) (nI_add _ _) ?_
  refine g_sld E hX hbl hbA (by omega) (show 6 * cc + 3 < L by omega) (pn := 214) dL_law_213 rfl ?_
  refine g_i2l E (pn := 215) dL_law_214 rfl ?_
  refine g_bipush E (pn := 217) (nI 32) dL_law_215 rfl (by decide) ?_
  refine g_lshl E (pn := 218) dL_law_217 rfl ?_
  refine g_aload_n E (pn := 219) dL_law_218 rfl rfl ?_
  refine g_iload_n E (pn := 220) dL_law_219 rfl rfl ?_
  refine g_iconst E (pn := 221) (nI 4) dL_law_220 rfl (by decide) ?_
  refine g_iadd E (pn := 222) dL_law_221 rfl ?_
  refine g_topi (nI (6 * cc + 4)) (nI_add _ _) ?_
  refine g_sld E hX hbl hbA (by omega) (show 6 * cc + 4 < L by omega) (pn := 223) dL_law_222 rfl ?_
  refine g_i2l E (pn := 224) dL_law_223 rfl ?_
  refine g_ldc2_w E (pn := 227) dL_law_224 rfl cl_L_13 ?_
  refine g_land E (pn := 228) dL_law_227 rfl ?_
  refine g_lor E (pn := 229) dL_law_228 rfl ?_
  refine g_conV (kc := 34) (ci := 7) (fs := oMod g (qN q ni ng)) [.int (xs (6 * cc + 1)), .int (xs (6 * cc + 2)), .long (((xs (6 * cc + 3)).toInt64 <<< ((nI 32).toInt64 &&& 63)) ||| ((xs (6 * cc + 4)).toInt64 &&& 4294967295))] E hJ (con_X8_table ri.1 r35 r36) dL_law_229 (pn := 232) rfl cal_X8_table ml_L_19 ⟨(Nat.le_of_ble_eq_true rfl), (Nat.le_of_ble_eq_true rfl)⟩ rfl (by decide) ri.1 rfl rfl rfl (Nat.le_of_ble_eq_true rfl) hf ?_
  rintro _ M3 ⟨rfl, rfl⟩
  have hO := RX_set (sn2 := (sp_table sn sT (xs (6 * cc + 1)) (xs (6 * cc + 2)) (((xs (6 * cc + 3)).toInt64 <<< ((nI 32).toInt64 &&& 63)) ||| ((xs (6 * cc + 4)).toInt64 &&& 4294967295))).2.1) (sT2 := (sp_table sn sT (xs (6 * cc + 1)) (xs (6 * cc + 2)) (((xs (6 * cc + 3)).toInt64 <<< ((nI 32).toInt64 &&& 63)) ||| ((xs (6 * cc + 4)).toInt64 &&& 4294967295))).2.2) hr2
  obtain ⟨⟨m2, hm2, hr3⟩, hf3⟩ := hO
  have hc3 := CI_fr hf3 hc2
  refine g_st (st2 := [.int _, .int _]) rfl ?_
  refine g_same E 1152 dL_law_232 (by decide) ?_
  exact kc _ (sp_table sn sT (xs (6 * cc + 1)) (xs (6 * cc + 2)) (((xs (6 * cc + 3)).toInt64 <<< ((nI 32).toInt64 &&& 63)) ||| ((xs (6 * cc + 4)).toInt64 &&& 4294967295))).2.1 (sp_table sn sT (xs (6 * cc + 1)) (xs (6 * cc + 2)) (((xs (6 * cc + 3)).toInt64 <<< ((nI 32).toInt64 &&& 63)) ||| ((xs (6 * cc + 4)).toInt64 &&& 4294967295))).2.2 ni ng W B P m2 hc3 hr3 ⟨sl_table ho.1 _ _ _, ho.2⟩ (by omega)
set_option maxRecDepth 100000 in
theorem law_1 (E : gE g RL code 4 p s m #[.ref b] c A) (hJ : jS g A s) (hX : va_X b L xs s s.heap) (hbl : b < s.heap.size) (hbA : ¬ A b) (hL : L ≤ 3072) (h6 : 6 * cc + 6 ≤ L) (hf : k ≤ room_1.cells ∧ n ≤ room_1.slots) (kc : lCont g p e s m below meth c A Q b cc k n) {M : jMem} {sn sT : Nat → Nat} {ni ng : Nat} {W : Nat → Nat → Int} {B P : Nat → Int} {mm : Nat} (hc : CI g M sn sT ni ng W B P) (hr : RX g M sn sT ni ng W B P mm) (ho : SO sn sT ni ng W B P) (hm : mm ≤ 256 * cc) : GJ g 4 p e room_1 s m #[.ref b] below meth c A Q 237 [some (.ref b), some (.ref (jA g 0)), some (.ref (jA g 34)), some (.int (nI (6 * cc)))] [] (jW g M) k n := by
  refine g_aload_n E (pn := 238) dL_law_237 rfl rfl ?_
  refine g_aload_n E (pn := 239) dL_law_238 rfl rfl ?_
  refine g_iload_n E (pn := 240) dL_law_239 rfl rfl ?_
  refine g_iconst E (pn := 241) (nI 1) dL_law_240 rfl (by decide) ?_
  refine g_iadd E (pn := 242) dL_law_241 rfl ?_
  refine g_topi (nI (6 * cc + 1)) (nI_add _ _) ?_
  refine g_sld E hX hbl hbA (by omega) (show 6 * cc + 1 < L by omega) (pn := 243) dL_law_242 rfl ?_
  refine g_aload_n E (pn := 244) dL_law_243 rfl rfl ?_
  refine g_iload_n E (pn := 245) dL_law_244 rfl rfl ?_
  refine g_iconst E (pn := 246) (nI 2) dL_law_245 rfl (by decide) ?_
  refine g_iadd E (pn := 247) dL_law_246 rfl ?_
  refine g_topi (nI (6 * cc + 2)) (nI_add _ _) ?_
  refine g_sld E hX hbl hbA (by omega) (show 6 * cc + 2 < L by omega) (pn := 248) dL_law_247 rfl ?_
  refine g_aload_n E (pn := 249) dL_law_248 rfl rfl ?_
  refine g_iload_n E (pn := 250) dL_law_249 rfl rfl ?_
  refine g_iconst E (pn := 251) (nI 3) dL_law_250 rfl (by decide) ?_
  refine g_iadd E (pn := 252) dL_law_251 rfl ?_
  refine g_topi (nI (6 * cc + 3)) (nI_add _ _) ?_
  refine g_sld E hX hbl hbA (by omega) (show 6 * cc + 3 < L by omega) (pn := 253) dL_law_252 rfl ?_
  refine g_i2l E (pn := 254) dL_law_253 rfl ?_
  refine g_bipush E (pn := 256) (nI 32) dL_law_254 rfl (by decide) ?_
  refine g_lshl E (pn := 257) dL_law_256 rfl ?_
  refine g_aload_n E (pn := 258) dL_law_257 rfl rfl ?_
  refine g_iload_n E (pn := 259) dL_law_258 rfl rfl ?_
  refine g_iconst E (pn := 260) (nI 4) dL_law_259 rfl (by decide) ?_
  refine g_iadd E (pn := 261) dL_law_260 rfl ?_
  refine g_topi (nI (6 * cc + 4)) (nI_add _ _) ?_
  refine g_sld E hX hbl hbA (by omega) (show 6 * cc + 4 < L by omega) (pn := 262) dL_law_261 rfl ?_
  refine g_i2l E (pn := 263) dL_law_262 rfl ?_
  refine g_ldc2_w E (pn := 266) dL_law_263 rfl cl_L_13 ?_
  refine g_land E (pn := 267) dL_law_266 rfl ?_
  refine g_lor E (pn := 268) dL_law_267 rfl ?_
  refine g_aload_n E (pn := 269) dL_law_268 rfl rfl ?_
  refine g_iload_n E (pn := 270) dL_law_269 rfl rfl ?_
  refine g_iconst E (pn := 271) (nI 5) dL_law_270 rfl (by decide) ?_
  refine g_iadd E (pn := 272) dL_law_271 rfl ?_
  refine g_topi (nI (6 * cc + 5)) (nI_add _ _) ?_
  refine g_sld E hX hbl hbA (by omega) (show 6 * cc + 5 < L by omega) (pn := 273) dL_law_272 rfl ?_
  refine g_conV (kc := 0) (ci := 6) (fs := oX g) [.int (xs (6 * cc + 1)), .int (xs (6 * cc + 2)), .long (((xs (6 * cc + 3)).toInt64 <<< ((nI 32).toInt64 &&& 63)) ||| ((xs (6 * cc + 4)).toInt64 &&& 4294967295)), .int (xs (6 * cc + 5))] E hJ (con_X7_weigh hc.1 hc.2.1 hc.2.2.1) dL_law_273 (pn := 276) rfl cal_X7_weigh ml_L_20 ⟨(Nat.le_of_ble_eq_true rfl), (Nat.le_of_ble_eq_true rfl)⟩ rfl (by decide) hc.1 rfl rfl rfl (Nat.le_of_ble_eq_true rfl) hf ?_
  rintro _ M2 ⟨rfl, rfl⟩
  obtain ⟨hc2, hf2⟩ := CI_set (sn2 := (sp_weigh sn sT (xs (6 * cc + 1)) (xs (6 * cc + 2)) (((xs (6 * cc + 3)).toInt64 <<< ((nI 32).toInt64 &&& 63)) ||| ((xs (6 * cc + 4)).toInt64 &&& 4294967295)) (xs (6 * cc + 5))).2.1) (sT2 := (sp_weigh sn sT (xs (6 * cc + 1)) (xs (6 * cc + 2)) (((xs (6 * cc + 3)).toInt64 <<< ((nI 32).toInt64 &&& 63)) ||| ((xs (6 * cc + 4)).toInt64 &&& 4294967295)) (xs (6 * cc + 5))).2.2) hc
  refine g_st (st2 := [.long _]) rfl ?_
  have hr2 := RX_fr hf2 hr
  obtain ⟨q, ri, r35, r36, ⟨tp, r47, rtp⟩, ⟨nw, nb, r48, r49, rwb⟩, ⟨wk, r50⟩, ⟨dp, r51⟩⟩ := id hr2
  refine g_aload_n E (pn := 277) dL_law_276 rfl rfl ?_
  refine g_aload_n E (pn := 278) dL_law_277 rfl rfl ?_
  refine g_iload_n E (pn := 279) dL_law_278 rfl rfl ?_
  refine g_iconst E (pn := 280) (nI 1) dL_law_279 rfl (by decide) ?_
  refine g_iadd E (pn := 281) dL_law_280 rfl ?_
  refine g_topi (nI (6 * cc + 1)) (nI_add _ _) ?_
  refine g_sld E hX hbl hbA (by omega) (show 6 * cc + 1 < L by omega) (pn := 282) dL_law_281 rfl ?_
  refine g_aload_n E (pn := 283) dL_law_282 rfl rfl ?_
  refine g_iload_n E (pn := 284) dL_law_283 rfl rfl ?_
  refine g_iconst E (pn := 285) (nI 2) dL_law_284 rfl (by decide) ?_
  refine g_iadd E (pn := 286) dL_law_285 rfl ?_
  refine g_topi (nI (6 * cc + 2)) (nI_add _ _) ?_
  refine g_sld E hX hbl hbA (by omega) (show 6 * cc + 2 < L by omega) (pn := 287) dL_law_286 rfl ?_
  refine g_aload_n E (pn := 288) dL_law_287 rfl rfl ?_
  refine g_iload_n E (pn := 289) dL_law_288 rfl rfl ?_
  refine g_iconst E (pn := 290) (nI 3) dL_law_289 rfl (by decide) ?_
  refine g_iadd E (pn := 291) dL_law_290 rfl ?_
  refine g_topi (nI (6 * cc + 3)) (nI_add _ _) ?_
  refine g_sld E hX hbl hbA (by omega) (show 6 * cc + 3 < L by omega) (pn := 292) dL_law_291 rfl ?_
  refine g_i2l E (pn := 293) dL_law_292 rfl ?_
  refine g_bipush E (pn := 295) (nI 32) dL_law_293 rfl (by decide) ?_
  refine g_lshl E (pn := 296) dL_law_295 rfl ?_
  refine g_aload_n E (pn := 297) dL_law_296 rfl rfl ?_
  refine g_iload_n E (pn := 298) dL_law_297 rfl rfl ?_
  refine g_iconst E (pn := 299) (nI 4) dL_law_298 rfl (by decide) ?_
  refine g_iadd E (pn := 300) dL_law_299 rfl ?_
  refine g_topi (nI (6 * cc + 4)) (nI_add _ _) ?_
  refine g_sld E hX hbl hbA (by omega) (show 6 * cc + 4 < L by omega) (pn := 301) dL_law_300 rfl ?_
  refine g_i2l E (pn := 302) dL_law_301 rfl ?_
  refine g_ldc2_w E (pn := 305) dL_law_302 rfl cl_L_13 ?_
  refine g_land E (pn := 306) dL_law_305 rfl ?_
  refine g_lor E (pn := 307) dL_law_306 rfl ?_
  refine g_aload_n E (pn := 308) dL_law_307 rfl rfl ?_
  refine g_iload_n E (pn := 309) dL_law_308 rfl rfl ?_
  refine g_iconst E (pn := 310) (nI 5) dL_law_309 rfl (by decide) ?_
  refine g_iadd E (pn := 311) dL_law_310 rfl ?_
  refine g_topi (nI (6 * cc + 5)) (nI_add _ _) ?_
  refine g_sld E hX hbl hbA (by omega) (show 6 * cc + 5 < L by omega) (pn := 312) dL_law_311 rfl ?_
  refine g_conV (kc := 34) (ci := 7) (fs := oMod g (qN q ni ng)) [.int (xs (6 * cc + 1)), .int (xs (6 * cc + 2)), .long (((xs (6 * cc + 3)).toInt64 <<< ((nI 32).toInt64 &&& 63)) ||| ((xs (6 * cc + 4)).toInt64 &&& 4294967295)), .int (xs (6 * cc + 5))] E hJ (con_X8_weigh ri.1 r35 r36) dL_law_312 (pn := 315) rfl cal_X8_weigh ml_L_24 ⟨(Nat.le_of_ble_eq_true rfl), (Nat.le_of_ble_eq_true rfl)⟩ rfl (by decide) ri.1 rfl rfl rfl (Nat.le_of_ble_eq_true rfl) hf ?_
  rintro _ M3 ⟨rfl, rfl⟩
  have hO := RX_set (sn2 := (sp_weigh sn sT (xs (6 * cc + 1)) (xs (6 * cc + 2)) (((xs (6 * cc + 3)).toInt64 <<< ((nI 32).toInt64 &&& 63)) ||| ((xs (6 * cc + 4)).toInt64 &&& 4294967295)) (xs (6 * cc + 5))).2.1) (sT2 := (sp_weigh sn sT (xs (6 * cc + 1)) (xs (6 * cc + 2)) (((xs (6 * cc + 3)).toInt64 <<< ((nI 32).toInt64 &&& 63)) ||| ((xs (6 * cc + 4)).toInt64 &&& 4294967295)) (xs (6 * cc + 5))).2.2) hr2
  obtain ⟨⟨m2, hm2, hr3⟩, hf3⟩ := hO
  have hc3 := CI_fr hf3 hc2
  refine g_st (st2 := [.long _, .long _]) rfl ?_
  refine g_sameL E (pn := 316) 1152 dL_law_315 rfl dL_law_316 (by decide) ?_
  exact kc _ (sp_weigh sn sT (xs (6 * cc + 1)) (xs (6 * cc + 2)) (((xs (6 * cc + 3)).toInt64 <<< ((nI 32).toInt64 &&& 63)) ||| ((xs (6 * cc + 4)).toInt64 &&& 4294967295)) (xs (6 * cc + 5))).2.1 (sp_weigh sn sT (xs (6 * cc + 1)) (xs (6 * cc + 2)) (((xs (6 * cc + 3)).toInt64 <<< ((nI 32).toInt64 &&& 63)) ||| ((xs (6 * cc + 4)).toInt64 &&& 4294967295)) (xs (6 * cc + 5))).2.2 ni ng W B P m2 hc3 hr3 ⟨sl_weigh ho.1 _ _ _ _, ho.2⟩ (by omega)
set_option maxRecDepth 100000 in
theorem law_2 (E : gE g RL code 4 p s m #[.ref b] c A) (hJ : jS g A s) (hX : va_X b L xs s s.heap) (hbl : b < s.heap.size) (hbA : ¬ A b) (hL : L ≤ 3072) (h6 : 6 * cc + 6 ≤ L) (hf : k ≤ room_1.cells ∧ n ≤ room_1.slots) (kc : lCont g p e s m below meth c A Q b cc k n) {M : jMem} {sn sT : Nat → Nat} {ni ng : Nat} {W : Nat → Nat → Int} {B P : Nat → Int} {mm : Nat} (hc : CI g M sn sT ni ng W B P) (hr : RX g M sn sT ni ng W B P mm) (ho : SO sn sT ni ng W B P) (hm : mm ≤ 256 * cc) : GJ g 4 p e room_1 s m #[.ref b] below meth c A Q 321 [some (.ref b), some (.ref (jA g 0)), some (.ref (jA g 34)), some (.int (nI (6 * cc)))] [] (jW g M) k n := by
  refine g_aload_n E (pn := 322) dL_law_321 rfl rfl ?_
  refine g_aload_n E (pn := 323) dL_law_322 rfl rfl ?_
  refine g_iload_n E (pn := 324) dL_law_323 rfl rfl ?_
  refine g_iconst E (pn := 325) (nI 1) dL_law_324 rfl (by decide) ?_
  refine g_iadd E (pn := 326) dL_law_325 rfl ?_
  refine g_topi (nI (6 * cc + 1)) (nI_add _ _) ?_
  refine g_sld E hX hbl hbA (by omega) (show 6 * cc + 1 < L by omega) (pn := 327) dL_law_326 rfl ?_
  refine g_conV (kc := 0) (ci := 6) (fs := oX g) [.int (xs (6 * cc + 1))] E hJ (con_X7_bits hc.1 hc.2.2.1) dL_law_327 (pn := 330) rfl cal_X7_bits ml_L_25 ⟨(Nat.le_of_ble_eq_true rfl), (Nat.le_of_ble_eq_true rfl)⟩ rfl (by decide) hc.1 rfl rfl rfl (Nat.le_of_ble_eq_true rfl) hf ?_
  rintro _ M2 ⟨rfl, rfl⟩
  have hc2 := hc
  have hf2 : ∀ j, 34 ≤ j → M2 j = M2 j := fun _ _ => rfl
  refine g_st (st2 := [.long _]) rfl ?_
  have hr2 := RX_fr hf2 hr
  obtain ⟨q, ri, r35, r36, ⟨tp, r47, rtp⟩, ⟨nw, nb, r48, r49, rwb⟩, ⟨wk, r50⟩, ⟨dp, r51⟩⟩ := id hr2
  refine g_aload_n E (pn := 331) dL_law_330 rfl rfl ?_
  refine g_aload_n E (pn := 332) dL_law_331 rfl rfl ?_
  refine g_iload_n E (pn := 333) dL_law_332 rfl rfl ?_
  refine g_iconst E (pn := 334) (nI 1) dL_law_333 rfl (by decide) ?_
  refine g_iadd E (pn := 335) dL_law_334 rfl ?_
  refine g_topi (nI (6 * cc + 1)) (nI_add _ _) ?_
  refine g_sld E hX hbl hbA (by omega) (show 6 * cc + 1 < L by omega) (pn := 336) dL_law_335 rfl ?_
  refine g_conV (kc := 34) (ci := 7) (fs := oMod g (qN q ni ng)) [.int (xs (6 * cc + 1))] E hJ (con_X8_bits ri.1 r36) dL_law_336 (pn := 339) rfl cal_X8_bits ml_L_29 ⟨(Nat.le_of_ble_eq_true rfl), (Nat.le_of_ble_eq_true rfl)⟩ rfl (by decide) ri.1 rfl rfl rfl (Nat.le_of_ble_eq_true rfl) hf ?_
  rintro _ M3 ⟨rfl, rfl⟩
  have hO := RX_rf hr2
  obtain ⟨⟨m2, hm2, hr3⟩, hf3⟩ := hO
  have hc3 := CI_fr hf3 hc2
  refine g_st (st2 := [.long _, .long _]) rfl ?_
  refine g_sameL E (pn := 340) 1152 dL_law_339 rfl dL_law_340 (by decide) ?_
  exact kc _ sn sT ni ng W B P m2 hc3 hr3 ho (by omega)
set_option maxRecDepth 100000 in
theorem law_3 (E : gE g RL code 4 p s m #[.ref b] c A) (hJ : jS g A s) (hX : va_X b L xs s s.heap) (hbl : b < s.heap.size) (hbA : ¬ A b) (hL : L ≤ 3072) (h6 : 6 * cc + 6 ≤ L) (hf : k ≤ room_1.cells ∧ n ≤ room_1.slots) (kc : lCont g p e s m below meth c A Q b cc k n) {M : jMem} {sn sT : Nat → Nat} {ni ng : Nat} {W : Nat → Nat → Int} {B P : Nat → Int} {mm : Nat} (hc : CI g M sn sT ni ng W B P) (hr : RX g M sn sT ni ng W B P mm) (ho : SO sn sT ni ng W B P) (hm : mm ≤ 256 * cc) : GJ g 4 p e room_1 s m #[.ref b] below meth c A Q 345 [some (.ref b), some (.ref (jA g 0)), some (.ref (jA g 34)), some (.int (nI (6 * cc)))] [] (jW g M) k n := by
  refine g_aload_n E (pn := 346) dL_law_345 rfl rfl ?_
  refine g_aload_n E (pn := 347) dL_law_346 rfl rfl ?_
  refine g_iload_n E (pn := 348) dL_law_347 rfl rfl ?_
  refine g_iconst E (pn := 349) (nI 1) dL_law_348 rfl (by decide) ?_
  refine g_iadd E (pn := 350) dL_law_349 rfl ?_
  refine g_topi (nI (6 * cc + 1)) (nI_add _ _) ?_
  refine g_sld E hX hbl hbA (by omega) (show 6 * cc + 1 < L by omega) (pn := 351) dL_law_350 rfl ?_
  refine g_conV (kc := 0) (ci := 6) (fs := oX g) [.int (xs (6 * cc + 1))] E hJ (con_X7_inputs hc.1 hc.2.1) dL_law_351 (pn := 354) rfl cal_X7_inputs ml_L_30 ⟨(Nat.le_of_ble_eq_true rfl), (Nat.le_of_ble_eq_true rfl)⟩ rfl (by decide) hc.1 rfl rfl rfl (Nat.le_of_ble_eq_true rfl) hf ?_
  rintro _ M2 ⟨rfl, rfl⟩
  have hc2 := hc
  have hf2 : ∀ j, 34 ≤ j → M2 j = M2 j := fun _ _ => rfl
  refine g_st (st2 := [.int _]) rfl ?_
  have hr2 := RX_fr hf2 hr
  obtain ⟨q, ri, r35, r36, ⟨tp, r47, rtp⟩, ⟨nw, nb, r48, r49, rwb⟩, ⟨wk, r50⟩, ⟨dp, r51⟩⟩ := id hr2
  refine g_aload_n E (pn := 355) dL_law_354 rfl rfl ?_
  refine g_aload_n E (pn := 356) dL_law_355 rfl rfl ?_
  refine g_iload_n E (pn := 357) dL_law_356 rfl rfl ?_
  refine g_iconst E (pn := 358) (nI 1) dL_law_357 rfl (by decide) ?_
  refine g_iadd E (pn := 359) dL_law_358 rfl ?_
  refine g_topi (nI (6 * cc + 1)) (nI_add _ _) ?_
  refine g_sld E hX hbl hbA (by omega) (show 6 * cc + 1 < L by omega) (pn := 360) dL_law_359 rfl ?_
  refine g_conV (kc := 34) (ci := 7) (fs := oMod g (qN q ni ng)) [.int (xs (6 * cc + 1))] E hJ (con_X8_inputs ri.1 r35) dL_law_360 (pn := 363) rfl cal_X8_inputs ml_L_34 ⟨(Nat.le_of_ble_eq_true rfl), (Nat.le_of_ble_eq_true rfl)⟩ rfl (by decide) ri.1 rfl rfl rfl (Nat.le_of_ble_eq_true rfl) hf ?_
  rintro _ M3 ⟨rfl, rfl⟩
  have hO := RX_rf hr2
  obtain ⟨⟨m2, hm2, hr3⟩, hf3⟩ := hO
  have hc3 := CI_fr hf3 hc2
  refine g_st (st2 := [.int _, .int _]) rfl ?_
  refine g_same E 1152 dL_law_363 (by decide) ?_
  exact kc _ sn sT ni ng W B P m2 hc3 hr3 ho (by omega)
set_option maxRecDepth 100000 in
theorem law_4 (E : gE g RL code 4 p s m #[.ref b] c A) (hJ : jS g A s) (hX : va_X b L xs s s.heap) (hbl : b < s.heap.size) (hbA : ¬ A b) (hL : L ≤ 3072) (h6 : 6 * cc + 6 ≤ L) (hf : k ≤ room_1.cells ∧ n ≤ room_1.slots) (kc : lCont g p e s m below meth c A Q b cc k n) {M : jMem} {sn sT : Nat → Nat} {ni ng : Nat} {W : Nat → Nat → Int} {B P : Nat → Int} {mm : Nat} (hc : CI g M sn sT ni ng W B P) (hr : RX g M sn sT ni ng W B P mm) (ho : SO sn sT ni ng W B P) (hm : mm ≤ 256 * cc) : GJ g 4 p e room_1 s m #[.ref b] below meth c A Q 368 [some (.ref b), some (.ref (jA g 0)), some (.ref (jA g 34)), some (.int (nI (6 * cc)))] [] (jW g M) k n := by
  refine g_aload_n E (pn := 369) dL_law_368 rfl rfl ?_
  refine g_aload_n E (pn := 370) dL_law_369 rfl rfl ?_
  refine g_iload_n E (pn := 371) dL_law_370 rfl rfl ?_
  refine g_iconst E (pn := 372) (nI 1) dL_law_371 rfl (by decide) ?_
  refine g_iadd E (pn := 373) dL_law_372 rfl ?_
  refine g_topi (nI (6 * cc + 1)) (nI_add _ _) ?_
  refine g_sld E hX hbl hbA (by omega) (show 6 * cc + 1 < L by omega) (pn := 374) dL_law_373 rfl ?_
  refine g_aload_n E (pn := 375) dL_law_374 rfl rfl ?_
  refine g_iload_n E (pn := 376) dL_law_375 rfl rfl ?_
  refine g_iconst E (pn := 377) (nI 2) dL_law_376 rfl (by decide) ?_
  refine g_iadd E (pn := 378) dL_law_377 rfl ?_
  refine g_topi (nI (6 * cc + 2)) (nI_add _ _) ?_
  refine g_sld E hX hbl hbA (by omega) (show 6 * cc + 2 < L by omega) (pn := 379) dL_law_378 rfl ?_
  refine g_aload_n E (pn := 380) dL_law_379 rfl rfl ?_
  refine g_iload_n E (pn := 381) dL_law_380 rfl rfl ?_
  refine g_iconst E (pn := 382) (nI 3) dL_law_381 rfl (by decide) ?_
  refine g_iadd E (pn := 383) dL_law_382 rfl ?_
  refine g_topi (nI (6 * cc + 3)) (nI_add _ _) ?_
  refine g_sld E hX hbl hbA (by omega) (show 6 * cc + 3 < L by omega) (pn := 384) dL_law_383 rfl ?_
  refine g_aload_n E (pn := 385) dL_law_384 rfl rfl ?_
  refine g_iload_n E (pn := 386) dL_law_385 rfl rfl ?_
  refine g_iconst E (pn := 387) (nI 4) dL_law_386 rfl (by decide) ?_
  refine g_iadd E (pn := 388) dL_law_387 rfl ?_
  refine g_topi (nI (6 * cc + 4)) (nI_add _ _) ?_
  refine g_sld E hX hbl hbA (by omega) (show 6 * cc + 4 < L by omega) (pn := 389) dL_law_388 rfl ?_
  refine g_conV (kc := 0) (ci := 6) (fs := oX g) [.int (xs (6 * cc + 1)), .int (xs (6 * cc + 2)), .int (xs (6 * cc + 3)), .int (xs (6 * cc + 4))] E hJ (con_X7_most hc.1 hc.2.1 hc.2.2.1 ho.1) dL_law_389 (pn := 392) rfl cal_X7_most ml_L_35 ⟨(Nat.le_of_ble_eq_true rfl), (Nat.le_of_ble_eq_true rfl)⟩ rfl (by decide) hc.1 rfl rfl rfl (Nat.le_of_ble_eq_true rfl) hf ?_
  rintro _ M2 ⟨rfl, rfl⟩
  obtain ⟨hc2, hf2⟩ := CI_set (sn2 := (sp_most sn sT (xs (6 * cc + 1)) (xs (6 * cc + 2)) (xs (6 * cc + 3)) (xs (6 * cc + 4))).2.1) (sT2 := (sp_most sn sT (xs (6 * cc + 1)) (xs (6 * cc + 2)) (xs (6 * cc + 3)) (xs (6 * cc + 4))).2.2) hc
  refine g_st (st2 := [.int _]) rfl ?_
  have hr2 := RX_fr hf2 hr
  obtain ⟨q, ri, r35, r36, ⟨tp, r47, rtp⟩, ⟨nw, nb, r48, r49, rwb⟩, ⟨wk, r50⟩, ⟨dp, r51⟩⟩ := id hr2
  refine g_aload_n E (pn := 393) dL_law_392 rfl rfl ?_
  refine g_aload_n E (pn := 394) dL_law_393 rfl rfl ?_
  refine g_iload_n E (pn := 395) dL_law_394 rfl rfl ?_
  refine g_iconst E (pn := 396) (nI 1) dL_law_395 rfl (by decide) ?_
  refine g_iadd E (pn := 397) dL_law_396 rfl ?_
  refine g_topi (nI (6 * cc + 1)) (nI_add _ _) ?_
  refine g_sld E hX hbl hbA (by omega) (show 6 * cc + 1 < L by omega) (pn := 398) dL_law_397 rfl ?_
  refine g_aload_n E (pn := 399) dL_law_398 rfl rfl ?_
  refine g_iload_n E (pn := 400) dL_law_399 rfl rfl ?_
  refine g_iconst E (pn := 401) (nI 2) dL_law_400 rfl (by decide) ?_
  refine g_iadd E (pn := 402) dL_law_401 rfl ?_
  refine g_topi (nI (6 * cc + 2)) (nI_add _ _) ?_
  refine g_sld E hX hbl hbA (by omega) (show 6 * cc + 2 < L by omega) (pn := 403) dL_law_402 rfl ?_
  refine g_aload_n E (pn := 404) dL_law_403 rfl rfl ?_
  refine g_iload_n E (pn := 405) dL_law_404 rfl rfl ?_
  refine g_iconst E (pn := 406) (nI 3) dL_law_405 rfl (by decide) ?_
  refine g_iadd E (pn := 407) dL_law_406 rfl ?_
  refine g_topi (nI (6 * cc + 3)) (nI_add _ _) ?_
  refine g_sld E hX hbl hbA (by omega) (show 6 * cc + 3 < L by omega) (pn := 408) dL_law_407 rfl ?_
  refine g_aload_n E (pn := 409) dL_law_408 rfl rfl ?_
  refine g_iload_n E (pn := 410) dL_law_409 rfl rfl ?_
  refine g_iconst E (pn := 411) (nI 4) dL_law_410 rfl (by decide) ?_
  refine g_iadd E (pn := 412) dL_law_411 rfl ?_
  refine g_topi (nI (6 * cc + 4)) (nI_add _ _) ?_
  refine g_sld E hX hbl hbA (by omega) (show 6 * cc + 4 < L by omega) (pn := 413) dL_law_412 rfl ?_
  refine g_conV (kc := 34) (ci := 7) (fs := oMod g (qN q ni ng)) [.int (xs (6 * cc + 1)), .int (xs (6 * cc + 2)), .int (xs (6 * cc + 3)), .int (xs (6 * cc + 4))] E hJ (con_X8_most ri.1 r35 r36 ho.1) dL_law_413 (pn := 416) rfl cal_X8_most ml_L_39 ⟨(Nat.le_of_ble_eq_true rfl), (Nat.le_of_ble_eq_true rfl)⟩ rfl (by decide) ri.1 rfl rfl rfl (Nat.le_of_ble_eq_true rfl) hf ?_
  rintro _ M3 ⟨rfl, rfl⟩
  have hO := RX_set (sn2 := (sp_most sn sT (xs (6 * cc + 1)) (xs (6 * cc + 2)) (xs (6 * cc + 3)) (xs (6 * cc + 4))).2.1) (sT2 := (sp_most sn sT (xs (6 * cc + 1)) (xs (6 * cc + 2)) (xs (6 * cc + 3)) (xs (6 * cc + 4))).2.2) hr2
  obtain ⟨⟨m2, hm2, hr3⟩, hf3⟩ := hO
  have hc3 := CI_fr hf3 hc2
  refine g_st (st2 := [.int _, .int _]) rfl ?_
  refine g_same E 1152 dL_law_416 (by decide) ?_
  exact kc _ (sp_most sn sT (xs (6 * cc + 1)) (xs (6 * cc + 2)) (xs (6 * cc + 3)) (xs (6 * cc + 4))).2.1 (sp_most sn sT (xs (6 * cc + 1)) (xs (6 * cc + 2)) (xs (6 * cc + 3)) (xs (6 * cc + 4))).2.2 ni ng W B P m2 hc3 hr3 ⟨sl_most ho.1 _ _ _ _, ho.2⟩ (by omega)
set_option maxRecDepth 100000 in
theorem law_5 (E : gE g RL code 4 p s m #[.ref b] c A) (hJ : jS g A s) (hX : va_X b L xs s s.heap) (hbl : b < s.heap.size) (hbA : ¬ A b) (hL : L ≤ 3072) (h6 : 6 * cc + 6 ≤ L) (hf : k ≤ room_1.cells ∧ n ≤ room_1.slots) (kc : lCont g p e s m below meth c A Q b cc k n) {M : jMem} {sn sT : Nat → Nat} {ni ng : Nat} {W : Nat → Nat → Int} {B P : Nat → Int} {mm : Nat} (hc : CI g M sn sT ni ng W B P) (hr : RX g M sn sT ni ng W B P mm) (ho : SO sn sT ni ng W B P) (hm : mm ≤ 256 * cc) : GJ g 4 p e room_1 s m #[.ref b] below meth c A Q 421 [some (.ref b), some (.ref (jA g 0)), some (.ref (jA g 34)), some (.int (nI (6 * cc)))] [] (jW g M) k n := by
  refine g_aload_n E (pn := 422) dL_law_421 rfl rfl ?_
  refine g_aload_n E (pn := 423) dL_law_422 rfl rfl ?_
  refine g_iload_n E (pn := 424) dL_law_423 rfl rfl ?_
  refine g_iconst E (pn := 425) (nI 1) dL_law_424 rfl (by decide) ?_
  refine g_iadd E (pn := 426) dL_law_425 rfl ?_
  refine g_topi (nI (6 * cc + 1)) (nI_add _ _) ?_
  refine g_sld E hX hbl hbA (by omega) (show 6 * cc + 1 < L by omega) (pn := 427) dL_law_426 rfl ?_
  refine g_aload_n E (pn := 428) dL_law_427 rfl rfl ?_
  refine g_iload_n E (pn := 429) dL_law_428 rfl rfl ?_
  refine g_iconst E (pn := 430) (nI 2) dL_law_429 rfl (by decide) ?_
  refine g_iadd E (pn := 431) dL_law_430 rfl ?_
  refine g_topi (nI (6 * cc + 2)) (nI_add _ _) ?_
  refine g_sld E hX hbl hbA (by omega) (show 6 * cc + 2 < L by omega) (pn := 432) dL_law_431 rfl ?_
  refine g_aload_n E (pn := 433) dL_law_432 rfl rfl ?_
  refine g_iload_n E (pn := 434) dL_law_433 rfl rfl ?_
  refine g_iconst E (pn := 435) (nI 3) dL_law_434 rfl (by decide) ?_
  refine g_iadd E (pn := 436) dL_law_435 rfl ?_
  refine g_topi (nI (6 * cc + 3)) (nI_add _ _) ?_
  refine g_sld E hX hbl hbA (by omega) (show 6 * cc + 3 < L by omega) (pn := 437) dL_law_436 rfl ?_
  refine g_conV (kc := 0) (ci := 6) (fs := oX g) [.int (xs (6 * cc + 1)), .int (xs (6 * cc + 2)), .int (xs (6 * cc + 3))] E hJ (con_X7_turn hc.1 hc.2.1 hc.2.2.1 ho.1) dL_law_437 (pn := 440) rfl cal_X7_turn ml_L_40 ⟨(Nat.le_of_ble_eq_true rfl), (Nat.le_of_ble_eq_true rfl)⟩ rfl (by decide) hc.1 rfl rfl rfl (Nat.le_of_ble_eq_true rfl) hf ?_
  rintro _ M2 ⟨rfl, rfl⟩
  obtain ⟨hc2, hf2⟩ := CI_set (sn2 := (sp_turn sn sT (xs (6 * cc + 1)) (xs (6 * cc + 2)) (xs (6 * cc + 3))).2.1) (sT2 := (sp_turn sn sT (xs (6 * cc + 1)) (xs (6 * cc + 2)) (xs (6 * cc + 3))).2.2) hc
  refine g_st (st2 := [.int _]) rfl ?_
  have hr2 := RX_fr hf2 hr
  obtain ⟨q, ri, r35, r36, ⟨tp, r47, rtp⟩, ⟨nw, nb, r48, r49, rwb⟩, ⟨wk, r50⟩, ⟨dp, r51⟩⟩ := id hr2
  refine g_aload_n E (pn := 441) dL_law_440 rfl rfl ?_
  refine g_aload_n E (pn := 442) dL_law_441 rfl rfl ?_
  refine g_iload_n E (pn := 443) dL_law_442 rfl rfl ?_
  refine g_iconst E (pn := 444) (nI 1) dL_law_443 rfl (by decide) ?_
  refine g_iadd E (pn := 445) dL_law_444 rfl ?_
  refine g_topi (nI (6 * cc + 1)) (nI_add _ _) ?_
  refine g_sld E hX hbl hbA (by omega) (show 6 * cc + 1 < L by omega) (pn := 446) dL_law_445 rfl ?_
  refine g_aload_n E (pn := 447) dL_law_446 rfl rfl ?_
  refine g_iload_n E (pn := 448) dL_law_447 rfl rfl ?_
  refine g_iconst E (pn := 449) (nI 2) dL_law_448 rfl (by decide) ?_
  refine g_iadd E (pn := 450) dL_law_449 rfl ?_
  refine g_topi (nI (6 * cc + 2)) (nI_add _ _) ?_
  refine g_sld E hX hbl hbA (by omega) (show 6 * cc + 2 < L by omega) (pn := 451) dL_law_450 rfl ?_
  refine g_aload_n E (pn := 452) dL_law_451 rfl rfl ?_
  refine g_iload_n E (pn := 453) dL_law_452 rfl rfl ?_
  refine g_iconst E (pn := 454) (nI 3) dL_law_453 rfl (by decide) ?_
  refine g_iadd E (pn := 455) dL_law_454 rfl ?_
  refine g_topi (nI (6 * cc + 3)) (nI_add _ _) ?_
  refine g_sld E hX hbl hbA (by omega) (show 6 * cc + 3 < L by omega) (pn := 456) dL_law_455 rfl ?_
  refine g_conV (kc := 34) (ci := 7) (fs := oMod g (qN q ni ng)) [.int (xs (6 * cc + 1)), .int (xs (6 * cc + 2)), .int (xs (6 * cc + 3))] E hJ (con_X8_turn ri.1 r35 r36 ho.1) dL_law_456 (pn := 459) rfl cal_X8_turn ml_L_44 ⟨(Nat.le_of_ble_eq_true rfl), (Nat.le_of_ble_eq_true rfl)⟩ rfl (by decide) ri.1 rfl rfl rfl (Nat.le_of_ble_eq_true rfl) hf ?_
  rintro _ M3 ⟨rfl, rfl⟩
  have hO := RX_set (sn2 := (sp_turn sn sT (xs (6 * cc + 1)) (xs (6 * cc + 2)) (xs (6 * cc + 3))).2.1) (sT2 := (sp_turn sn sT (xs (6 * cc + 1)) (xs (6 * cc + 2)) (xs (6 * cc + 3))).2.2) hr2
  obtain ⟨⟨m2, hm2, hr3⟩, hf3⟩ := hO
  have hc3 := CI_fr hf3 hc2
  refine g_st (st2 := [.int _, .int _]) rfl ?_
  refine g_same E 1152 dL_law_459 (by decide) ?_
  exact kc _ (sp_turn sn sT (xs (6 * cc + 1)) (xs (6 * cc + 2)) (xs (6 * cc + 3))).2.1 (sp_turn sn sT (xs (6 * cc + 1)) (xs (6 * cc + 2)) (xs (6 * cc + 3))).2.2 ni ng W B P m2 hc3 hr3 ⟨sl_turn ho.1 _ _ _, ho.2⟩ (by omega)
set_option maxRecDepth 100000 in
theorem law_6 (E : gE g RL code 4 p s m #[.ref b] c A) (hJ : jS g A s) (hX : va_X b L xs s s.heap) (hbl : b < s.heap.size) (hbA : ¬ A b) (hL : L ≤ 3072) (h6 : 6 * cc + 6 ≤ L) (hf : k ≤ room_1.cells ∧ n ≤ room_1.slots) (kc : lCont g p e s m below meth c A Q b cc k n) {M : jMem} {sn sT : Nat → Nat} {ni ng : Nat} {W : Nat → Nat → Int} {B P : Nat → Int} {mm : Nat} (hc : CI g M sn sT ni ng W B P) (hr : RX g M sn sT ni ng W B P mm) (ho : SO sn sT ni ng W B P) (hm : mm ≤ 256 * cc) : GJ g 4 p e room_1 s m #[.ref b] below meth c A Q 464 [some (.ref b), some (.ref (jA g 0)), some (.ref (jA g 34)), some (.int (nI (6 * cc)))] [] (jW g M) k n := by
  refine g_aload_n E (pn := 465) dL_law_464 rfl rfl ?_
  refine g_aload_n E (pn := 466) dL_law_465 rfl rfl ?_
  refine g_iload_n E (pn := 467) dL_law_466 rfl rfl ?_
  refine g_iconst E (pn := 468) (nI 1) dL_law_467 rfl (by decide) ?_
  refine g_iadd E (pn := 469) dL_law_468 rfl ?_
  refine g_topi (nI (6 * cc + 1)) (nI_add _ _) ?_
  refine g_sld E hX hbl hbA (by omega) (show 6 * cc + 1 < L by omega) (pn := 470) dL_law_469 rfl ?_
  refine g_aload_n E (pn := 471) dL_law_470 rfl rfl ?_
  refine g_iload_n E (pn := 472) dL_law_471 rfl rfl ?_
  refine g_iconst E (pn := 473) (nI 2) dL_law_472 rfl (by decide) ?_
  refine g_iadd E (pn := 474) dL_law_473 rfl ?_
  refine g_topi (nI (6 * cc + 2)) (nI_add _ _) ?_
  refine g_sld E hX hbl hbA (by omega) (show 6 * cc + 2 < L by omega) (pn := 475) dL_law_474 rfl ?_
  refine g_aload_n E (pn := 476) dL_law_475 rfl rfl ?_
  refine g_iload_n E (pn := 477) dL_law_476 rfl rfl ?_
  refine g_iconst E (pn := 478) (nI 3) dL_law_477 rfl (by decide) ?_
  refine g_iadd E (pn := 479) dL_law_478 rfl ?_
  refine g_topi (nI (6 * cc + 3)) (nI_add _ _) ?_
  refine g_sld E hX hbl hbA (by omega) (show 6 * cc + 3 < L by omega) (pn := 480) dL_law_479 rfl ?_
  refine g_aload_n E (pn := 481) dL_law_480 rfl rfl ?_
  refine g_iload_n E (pn := 482) dL_law_481 rfl rfl ?_
  refine g_iconst E (pn := 483) (nI 4) dL_law_482 rfl (by decide) ?_
  refine g_iadd E (pn := 484) dL_law_483 rfl ?_
  refine g_topi (nI (6 * cc + 4)) (nI_add _ _) ?_
  refine g_sld E hX hbl hbA (by omega) (show 6 * cc + 4 < L by omega) (pn := 485) dL_law_484 rfl ?_
  refine g_bool E (p1 := 488) (p2 := 489) (p3 := 492) (p4 := 493) dL_law_485 rfl (by decide) dL_law_488 rfl dL_law_489 (by decide) dL_law_492 rfl ?_
  refine g_conV (kc := 0) (ci := 6) (fs := oX g) [.int (xs (6 * cc + 1)), .int (xs (6 * cc + 2)), .int (xs (6 * cc + 3)), .int (jB (!decide (xs (6 * cc + 4) = 0)))] E hJ (con_X7_hold hc.1 hc.2.1 hc.2.2.1 ho.1) dL_law_493 (pn := 496) rfl cal_X7_hold ml_L_45 ⟨(Nat.le_of_ble_eq_true rfl), (Nat.le_of_ble_eq_true rfl)⟩ rfl (by decide) hc.1 rfl rfl rfl (Nat.le_of_ble_eq_true rfl) hf ?_
  rintro _ M2 ⟨rfl, rfl⟩
  obtain ⟨hc2, hf2⟩ := CI_set (sn2 := (sp_hold sn sT (xs (6 * cc + 1)) (xs (6 * cc + 2)) (xs (6 * cc + 3)) (!decide (xs (6 * cc + 4) = 0))).2.1) (sT2 := (sp_hold sn sT (xs (6 * cc + 1)) (xs (6 * cc + 2)) (xs (6 * cc + 3)) (!decide (xs (6 * cc + 4) = 0))).2.2) hc
  refine g_st (st2 := [.int _]) rfl ?_
  have hr2 := RX_fr hf2 hr
  obtain ⟨q, ri, r35, r36, ⟨tp, r47, rtp⟩, ⟨nw, nb, r48, r49, rwb⟩, ⟨wk, r50⟩, ⟨dp, r51⟩⟩ := id hr2
  refine g_aload_n E (pn := 497) dL_law_496 rfl rfl ?_
  refine g_aload_n E (pn := 498) dL_law_497 rfl rfl ?_
  refine g_iload_n E (pn := 499) dL_law_498 rfl rfl ?_
  refine g_iconst E (pn := 500) (nI 1) dL_law_499 rfl (by decide) ?_
  refine g_iadd E (pn := 501) dL_law_500 rfl ?_
  refine g_topi (nI (6 * cc + 1)) (nI_add _ _) ?_
  refine g_sld E hX hbl hbA (by omega) (show 6 * cc + 1 < L by omega) (pn := 502) dL_law_501 rfl ?_
  refine g_aload_n E (pn := 503) dL_law_502 rfl rfl ?_
  refine g_iload_n E (pn := 504) dL_law_503 rfl rfl ?_
  refine g_iconst E (pn := 505) (nI 2) dL_law_504 rfl (by decide) ?_
  refine g_iadd E (pn := 506) dL_law_505 rfl ?_
  refine g_topi (nI (6 * cc + 2)) (nI_add _ _) ?_
  refine g_sld E hX hbl hbA (by omega) (show 6 * cc + 2 < L by omega) (pn := 507) dL_law_506 rfl ?_
  refine g_aload_n E (pn := 508) dL_law_507 rfl rfl ?_
  refine g_iload_n E (pn := 509) dL_law_508 rfl rfl ?_
  refine g_iconst E (pn := 510) (nI 3) dL_law_509 rfl (by decide) ?_
  refine g_iadd E (pn := 511) dL_law_510 rfl ?_
  refine g_topi (nI (6 * cc + 3)) (nI_add _ _) ?_
  refine g_sld E hX hbl hbA (by omega) (show 6 * cc + 3 < L by omega) (pn := 512) dL_law_511 rfl ?_
  refine g_aload_n E (pn := 513) dL_law_512 rfl rfl ?_
  refine g_iload_n E (pn := 514) dL_law_513 rfl rfl ?_
  refine g_iconst E (pn := 515) (nI 4) dL_law_514 rfl (by decide) ?_
  refine g_iadd E (pn := 516) dL_law_515 rfl ?_
  refine g_topi (nI (6 * cc + 4)) (nI_add _ _) ?_
  refine g_sld E hX hbl hbA (by omega) (show 6 * cc + 4 < L by omega) (pn := 517) dL_law_516 rfl ?_
  refine g_bool E (p1 := 520) (p2 := 521) (p3 := 524) (p4 := 525) dL_law_517 rfl (by decide) dL_law_520 rfl dL_law_521 (by decide) dL_law_524 rfl ?_
  refine g_conV (kc := 34) (ci := 7) (fs := oMod g (qN q ni ng)) [.int (xs (6 * cc + 1)), .int (xs (6 * cc + 2)), .int (xs (6 * cc + 3)), .int (jB (!decide (xs (6 * cc + 4) = 0)))] E hJ (con_X8_hold ri.1 r35 r36 ho.1) dL_law_525 (pn := 528) rfl cal_X8_hold ml_L_49 ⟨(Nat.le_of_ble_eq_true rfl), (Nat.le_of_ble_eq_true rfl)⟩ rfl (by decide) ri.1 rfl rfl rfl (Nat.le_of_ble_eq_true rfl) hf ?_
  rintro _ M3 ⟨rfl, rfl⟩
  have hO := RX_set (sn2 := (sp_hold sn sT (xs (6 * cc + 1)) (xs (6 * cc + 2)) (xs (6 * cc + 3)) (!decide (xs (6 * cc + 4) = 0))).2.1) (sT2 := (sp_hold sn sT (xs (6 * cc + 1)) (xs (6 * cc + 2)) (xs (6 * cc + 3)) (!decide (xs (6 * cc + 4) = 0))).2.2) hr2
  obtain ⟨⟨m2, hm2, hr3⟩, hf3⟩ := hO
  have hc3 := CI_fr hf3 hc2
  refine g_st (st2 := [.int _, .int _]) rfl ?_
  refine g_same E 1152 dL_law_528 (by decide) ?_
  exact kc _ (sp_hold sn sT (xs (6 * cc + 1)) (xs (6 * cc + 2)) (xs (6 * cc + 3)) (!decide (xs (6 * cc + 4) = 0))).2.1 (sp_hold sn sT (xs (6 * cc + 1)) (xs (6 * cc + 2)) (xs (6 * cc + 3)) (!decide (xs (6 * cc + 4) = 0))).2.2 ni ng W B P m2 hc3 hr3 ⟨sl_hold ho.1 _ _ _ _, ho.2⟩ (by omega)
set_option maxRecDepth 100000 in
theorem law_7 (E : gE g RL code 4 p s m #[.ref b] c A) (hJ : jS g A s) (hX : va_X b L xs s s.heap) (hbl : b < s.heap.size) (hbA : ¬ A b) (hL : L ≤ 3072) (h6 : 6 * cc + 6 ≤ L) (hf : k ≤ room_1.cells ∧ n ≤ room_1.slots) (kc : lCont g p e s m below meth c A Q b cc k n) {M : jMem} {sn sT : Nat → Nat} {ni ng : Nat} {W : Nat → Nat → Int} {B P : Nat → Int} {mm : Nat} (hc : CI g M sn sT ni ng W B P) (hr : RX g M sn sT ni ng W B P mm) (ho : SO sn sT ni ng W B P) (hm : mm ≤ 256 * cc) : GJ g 4 p e room_1 s m #[.ref b] below meth c A Q 533 [some (.ref b), some (.ref (jA g 0)), some (.ref (jA g 34)), some (.int (nI (6 * cc)))] [] (jW g M) k n := by
  refine g_aload_n E (pn := 534) dL_law_533 rfl rfl ?_
  refine g_aload_n E (pn := 535) dL_law_534 rfl rfl ?_
  refine g_iload_n E (pn := 536) dL_law_535 rfl rfl ?_
  refine g_iconst E (pn := 537) (nI 1) dL_law_536 rfl (by decide) ?_
  refine g_iadd E (pn := 538) dL_law_537 rfl ?_
  refine g_topi (nI (6 * cc + 1)) (nI_add _ _) ?_
  refine g_sld E hX hbl hbA (by omega) (show 6 * cc + 1 < L by omega) (pn := 539) dL_law_538 rfl ?_
  refine g_aload_n E (pn := 540) dL_law_539 rfl rfl ?_
  refine g_iload_n E (pn := 541) dL_law_540 rfl rfl ?_
  refine g_iconst E (pn := 542) (nI 2) dL_law_541 rfl (by decide) ?_
  refine g_iadd E (pn := 543) dL_law_542 rfl ?_
  refine g_topi (nI (6 * cc + 2)) (nI_add _ _) ?_
  refine g_sld E hX hbl hbA (by omega) (show 6 * cc + 2 < L by omega) (pn := 544) dL_law_543 rfl ?_
  refine g_conV (kc := 0) (ci := 6) (fs := oX g) [.int (xs (6 * cc + 1)), .int (xs (6 * cc + 2))] E hJ (con_X7_matters hc.1 hc.2.1 hc.2.2.1 ho.1) dL_law_544 (pn := 547) rfl cal_X7_matters ml_L_50 ⟨(Nat.le_of_ble_eq_true rfl), (Nat.le_of_ble_eq_true rfl)⟩ rfl (by decide) hc.1 rfl rfl rfl (Nat.le_of_ble_eq_true rfl) hf ?_
  rintro _ M2 ⟨rfl, rfl⟩
  have hc2 := hc
  have hf2 : ∀ j, 34 ≤ j → M2 j = M2 j := fun _ _ => rfl
  refine g_st (st2 := [.int _]) rfl ?_
  have hr2 := RX_fr hf2 hr
  obtain ⟨q, ri, r35, r36, ⟨tp, r47, rtp⟩, ⟨nw, nb, r48, r49, rwb⟩, ⟨wk, r50⟩, ⟨dp, r51⟩⟩ := id hr2
  refine g_aload_n E (pn := 548) dL_law_547 rfl rfl ?_
  refine g_aload_n E (pn := 549) dL_law_548 rfl rfl ?_
  refine g_iload_n E (pn := 550) dL_law_549 rfl rfl ?_
  refine g_iconst E (pn := 551) (nI 1) dL_law_550 rfl (by decide) ?_
  refine g_iadd E (pn := 552) dL_law_551 rfl ?_
  refine g_topi (nI (6 * cc + 1)) (nI_add _ _) ?_
  refine g_sld E hX hbl hbA (by omega) (show 6 * cc + 1 < L by omega) (pn := 553) dL_law_552 rfl ?_
  refine g_aload_n E (pn := 554) dL_law_553 rfl rfl ?_
  refine g_iload_n E (pn := 555) dL_law_554 rfl rfl ?_
  refine g_iconst E (pn := 556) (nI 2) dL_law_555 rfl (by decide) ?_
  refine g_iadd E (pn := 557) dL_law_556 rfl ?_
  refine g_topi (nI (6 * cc + 2)) (nI_add _ _) ?_
  refine g_sld E hX hbl hbA (by omega) (show 6 * cc + 2 < L by omega) (pn := 558) dL_law_557 rfl ?_
  refine g_conV (kc := 34) (ci := 7) (fs := oMod g (qN q ni ng)) [.int (xs (6 * cc + 1)), .int (xs (6 * cc + 2))] E hJ (con_X8_matters ri.1 r35 r36 ho.1) dL_law_558 (pn := 561) rfl cal_X8_matters ml_L_54 ⟨(Nat.le_of_ble_eq_true rfl), (Nat.le_of_ble_eq_true rfl)⟩ rfl (by decide) ri.1 rfl rfl rfl (Nat.le_of_ble_eq_true rfl) hf ?_
  rintro _ M3 ⟨rfl, rfl⟩
  have hO := RX_rf hr2
  obtain ⟨⟨m2, hm2, hr3⟩, hf3⟩ := hO
  have hc3 := CI_fr hf3 hc2
  refine g_st (st2 := [.int _, .int _]) rfl ?_
  refine g_same E 1152 dL_law_561 (by decide) ?_
  exact kc _ sn sT ni ng W B P m2 hc3 hr3 ho (by omega)
set_option maxRecDepth 100000 in
theorem law_8 (E : gE g RL code 4 p s m #[.ref b] c A) (hJ : jS g A s) (hX : va_X b L xs s s.heap) (hbl : b < s.heap.size) (hbA : ¬ A b) (hL : L ≤ 3072) (h6 : 6 * cc + 6 ≤ L) (hf : k ≤ room_1.cells ∧ n ≤ room_1.slots) (kc : lCont g p e s m below meth c A Q b cc k n) {M : jMem} {sn sT : Nat → Nat} {ni ng : Nat} {W : Nat → Nat → Int} {B P : Nat → Int} {mm : Nat} (hc : CI g M sn sT ni ng W B P) (hr : RX g M sn sT ni ng W B P mm) (ho : SO sn sT ni ng W B P) (hm : mm ≤ 256 * cc) : GJ g 4 p e room_1 s m #[.ref b] below meth c A Q 566 [some (.ref b), some (.ref (jA g 0)), some (.ref (jA g 34)), some (.int (nI (6 * cc)))] [] (jW g M) k n := by
  refine g_aload_n E (pn := 567) dL_law_566 rfl rfl ?_
  refine g_aload_n E (pn := 568) dL_law_567 rfl rfl ?_
  refine g_iload_n E (pn := 569) dL_law_568 rfl rfl ?_
  refine g_iconst E (pn := 570) (nI 1) dL_law_569 rfl (by decide) ?_
  refine g_iadd E (pn := 571) dL_law_570 rfl ?_
  refine g_topi (nI (6 * cc + 1)) (nI_add _ _) ?_
  refine g_sld E hX hbl hbA (by omega) (show 6 * cc + 1 < L by omega) (pn := 572) dL_law_571 rfl ?_
  refine g_aload_n E (pn := 573) dL_law_572 rfl rfl ?_
  refine g_iload_n E (pn := 574) dL_law_573 rfl rfl ?_
  refine g_iconst E (pn := 575) (nI 2) dL_law_574 rfl (by decide) ?_
  refine g_iadd E (pn := 576) dL_law_575 rfl ?_
  refine g_topi (nI (6 * cc + 2)) (nI_add _ _) ?_
  refine g_sld E hX hbl hbA (by omega) (show 6 * cc + 2 < L by omega) (pn := 577) dL_law_576 rfl ?_
  refine g_conV (kc := 0) (ci := 6) (fs := oX g) [.int (xs (6 * cc + 1)), .int (xs (6 * cc + 2))] E hJ (con_X7_ones hc.1 hc.2.1 hc.2.2.1 ho.1) dL_law_577 (pn := 580) rfl cal_X7_ones ml_L_55 ⟨(Nat.le_of_ble_eq_true rfl), (Nat.le_of_ble_eq_true rfl)⟩ rfl (by decide) hc.1 rfl rfl rfl (Nat.le_of_ble_eq_true rfl) hf ?_
  rintro _ M2 ⟨rfl, rfl⟩
  have hc2 := hc
  have hf2 : ∀ j, 34 ≤ j → M2 j = M2 j := fun _ _ => rfl
  refine g_st (st2 := [.int _]) rfl ?_
  have hr2 := RX_fr hf2 hr
  obtain ⟨q, ri, r35, r36, ⟨tp, r47, rtp⟩, ⟨nw, nb, r48, r49, rwb⟩, ⟨wk, r50⟩, ⟨dp, r51⟩⟩ := id hr2
  refine g_aload_n E (pn := 581) dL_law_580 rfl rfl ?_
  refine g_aload_n E (pn := 582) dL_law_581 rfl rfl ?_
  refine g_iload_n E (pn := 583) dL_law_582 rfl rfl ?_
  refine g_iconst E (pn := 584) (nI 1) dL_law_583 rfl (by decide) ?_
  refine g_iadd E (pn := 585) dL_law_584 rfl ?_
  refine g_topi (nI (6 * cc + 1)) (nI_add _ _) ?_
  refine g_sld E hX hbl hbA (by omega) (show 6 * cc + 1 < L by omega) (pn := 586) dL_law_585 rfl ?_
  refine g_aload_n E (pn := 587) dL_law_586 rfl rfl ?_
  refine g_iload_n E (pn := 588) dL_law_587 rfl rfl ?_
  refine g_iconst E (pn := 589) (nI 2) dL_law_588 rfl (by decide) ?_
  refine g_iadd E (pn := 590) dL_law_589 rfl ?_
  refine g_topi (nI (6 * cc + 2)) (nI_add _ _) ?_
  refine g_sld E hX hbl hbA (by omega) (show 6 * cc + 2 < L by omega) (pn := 591) dL_law_590 rfl ?_
  refine g_conV (kc := 34) (ci := 7) (fs := oMod g (qN q ni ng)) [.int (xs (6 * cc + 1)), .int (xs (6 * cc + 2))] E hJ (con_X8_ones_ ri.1 r35 r36 ho.1) dL_law_591 (pn := 594) rfl cal_X8_ones_ ml_L_58 ⟨(Nat.le_of_ble_eq_true rfl), (Nat.le_of_ble_eq_true rfl)⟩ rfl (by decide) ri.1 rfl rfl rfl (Nat.le_of_ble_eq_true rfl) hf ?_
  rintro _ M3 ⟨rfl, rfl⟩
  have hO := RX_rf hr2
  obtain ⟨⟨m2, hm2, hr3⟩, hf3⟩ := hO
  have hc3 := CI_fr hf3 hc2
  refine g_st (st2 := [.int _, .int _]) rfl ?_
  refine g_same E 1152 dL_law_594 (by decide) ?_
  exact kc _ sn sT ni ng W B P m2 hc3 hr3 ho (by omega)
set_option maxRecDepth 100000 in
theorem law_9 (E : gE g RL code 4 p s m #[.ref b] c A) (hJ : jS g A s) (hX : va_X b L xs s s.heap) (hbl : b < s.heap.size) (hbA : ¬ A b) (hL : L ≤ 3072) (h6 : 6 * cc + 6 ≤ L) (hf : k ≤ room_1.cells ∧ n ≤ room_1.slots) (kc : lCont g p e s m below meth c A Q b cc k n) {M : jMem} {sn sT : Nat → Nat} {ni ng : Nat} {W : Nat → Nat → Int} {B P : Nat → Int} {mm : Nat} (hc : CI g M sn sT ni ng W B P) (hr : RX g M sn sT ni ng W B P mm) (ho : SO sn sT ni ng W B P) (hm : mm ≤ 256 * cc) : GJ g 4 p e room_1 s m #[.ref b] below meth c A Q 599 [some (.ref b), some (.ref (jA g 0)), some (.ref (jA g 34)), some (.int (nI (6 * cc)))] [] (jW g M) k n := by
  refine g_aload_n E (pn := 600) dL_law_599 rfl rfl ?_
  refine g_aload_n E (pn := 601) dL_law_600 rfl rfl ?_
  refine g_iload_n E (pn := 602) dL_law_601 rfl rfl ?_
  refine g_iconst E (pn := 603) (nI 1) dL_law_602 rfl (by decide) ?_
  refine g_iadd E (pn := 604) dL_law_603 rfl ?_
  refine g_topi (nI (6 * cc + 1)) (nI_add _ _) ?_
  refine g_sld E hX hbl hbA (by omega) (show 6 * cc + 1 < L by omega) (pn := 605) dL_law_604 rfl ?_
  refine g_conV (kc := 0) (ci := 6) (fs := oX g) [.int (xs (6 * cc + 1))] E hJ (con_X7_gate hc.1 hc.2.1 hc.2.2.1 hc.2.2.2.1 hc.2.2.2.2.1 ho.1) dL_law_605 (pn := 608) rfl cal_X7_gate ml_L_59 ⟨(Nat.le_of_ble_eq_true rfl), (Nat.le_of_ble_eq_true rfl)⟩ rfl (by decide) hc.1 rfl rfl rfl (Nat.le_of_ble_eq_true rfl) hf ?_
  rintro _ M2 ⟨rfl, hg⟩
  obtain ⟨hc2, hf2⟩ := CI_gt hc hg
  refine g_st (st2 := [.int _]) rfl ?_
  have hr2 := RX_fr hf2 hr
  obtain ⟨q, ri, r35, r36, ⟨tp, r47, rtp⟩, ⟨nw, nb, r48, r49, rwb⟩, ⟨wk, r50⟩, ⟨dp, r51⟩⟩ := id hr2
  refine g_aload_n E (pn := 609) dL_law_608 rfl rfl ?_
  refine g_aload_n E (pn := 610) dL_law_609 rfl rfl ?_
  refine g_iload_n E (pn := 611) dL_law_610 rfl rfl ?_
  refine g_iconst E (pn := 612) (nI 1) dL_law_611 rfl (by decide) ?_
  refine g_iadd E (pn := 613) dL_law_612 rfl ?_
  refine g_topi (nI (6 * cc + 1)) (nI_add _ _) ?_
  refine g_sld E hX hbl hbA (by omega) (show 6 * cc + 1 < L by omega) (pn := 614) dL_law_613 rfl ?_
  refine g_conV (kc := 34) (ci := 7) (fs := oMod g (qN q ni ng)) [.int (xs (6 * cc + 1))] E hJ (con_X8_gate EX_all ri.1 ri.2.1 ri.2.2.1 r35 r36 ho.1) dL_law_614 (pn := 617) rfl cal_X8_gate ml_L_62 ⟨(Nat.le_of_ble_eq_true rfl), (Nat.le_of_ble_eq_true rfl)⟩ rfl (by decide) ri.1 rfl rfl rfl (Nat.le_of_ble_eq_true rfl) hf ?_
  rintro _ M3 ⟨rfl, hg3⟩
  have hO := RX_rP (RI_I ri hg3) r35 r36 ⟨tp, r47, rtp⟩ ⟨nw, nb, r48, r49, rwb⟩ ⟨wk, r50⟩ ⟨dp, r51⟩
  obtain ⟨⟨m2, hm2, hr3⟩, hf3⟩ := hO
  have hc3 := CI_fr hf3 hc2
  refine g_st (st2 := [.int _, .int _]) rfl ?_
  refine g_same E 1152 dL_law_617 (by decide) ?_
  exact kc _ sn sT ni ng W B P m2 hc3 hr3 ho (by omega)
set_option maxRecDepth 100000 in
theorem law_10 (E : gE g RL code 4 p s m #[.ref b] c A) (hJ : jS g A s) (hX : va_X b L xs s s.heap) (hbl : b < s.heap.size) (hbA : ¬ A b) (hL : L ≤ 3072) (h6 : 6 * cc + 6 ≤ L) (hf : k ≤ room_1.cells ∧ n ≤ room_1.slots) (kc : lCont g p e s m below meth c A Q b cc k n) {M : jMem} {sn sT : Nat → Nat} {ni ng : Nat} {W : Nat → Nat → Int} {B P : Nat → Int} {mm : Nat} (hc : CI g M sn sT ni ng W B P) (hr : RX g M sn sT ni ng W B P mm) (ho : SO sn sT ni ng W B P) (hm : mm ≤ 256 * cc) : GJ g 4 p e room_1 s m #[.ref b] below meth c A Q 622 [some (.ref b), some (.ref (jA g 0)), some (.ref (jA g 34)), some (.int (nI (6 * cc)))] [] (jW g M) k n := by
  refine g_aload_n E (pn := 623) dL_law_622 rfl rfl ?_
  refine g_aload_n E (pn := 624) dL_law_623 rfl rfl ?_
  refine g_iload_n E (pn := 625) dL_law_624 rfl rfl ?_
  refine g_iconst E (pn := 626) (nI 1) dL_law_625 rfl (by decide) ?_
  refine g_iadd E (pn := 627) dL_law_626 rfl ?_
  refine g_topi (nI (6 * cc + 1)) (nI_add _ _) ?_
  refine g_sld E hX hbl hbA (by omega) (show 6 * cc + 1 < L by omega) (pn := 628) dL_law_627 rfl ?_
  refine g_aload_n E (pn := 629) dL_law_628 rfl rfl ?_
  refine g_iload_n E (pn := 630) dL_law_629 rfl rfl ?_
  refine g_iconst E (pn := 631) (nI 2) dL_law_630 rfl (by decide) ?_
  refine g_iadd E (pn := 632) dL_law_631 rfl ?_
  refine g_topi (nI (6 * cc + 2)) (nI_add _ _) ?_
  refine g_sld E hX hbl hbA (by omega) (show 6 * cc + 2 < L by omega) (pn := 633) dL_law_632 rfl ?_
  refine g_conV (kc := 0) (ci := 6) (fs := oX g) [.int (xs (6 * cc + 1)), .int (xs (6 * cc + 2))] E hJ (con_X7_weight hc.1 hc.2.1 hc.2.2.1 hc.2.2.2.1 hc.2.2.2.2.1 ho.1) dL_law_633 (pn := 636) rfl cal_X7_weight ml_L_63 ⟨(Nat.le_of_ble_eq_true rfl), (Nat.le_of_ble_eq_true rfl)⟩ rfl (by decide) hc.1 rfl rfl rfl (Nat.le_of_ble_eq_true rfl) hf ?_
  rintro _ M2 ⟨rfl, hg⟩
  obtain ⟨hc2, hf2⟩ := CI_gt hc hg
  refine g_st (st2 := [.int _]) rfl ?_
  have hr2 := RX_fr hf2 hr
  obtain ⟨q, ri, r35, r36, ⟨tp, r47, rtp⟩, ⟨nw, nb, r48, r49, rwb⟩, ⟨wk, r50⟩, ⟨dp, r51⟩⟩ := id hr2
  refine g_aload_n E (pn := 637) dL_law_636 rfl rfl ?_
  refine g_aload_n E (pn := 638) dL_law_637 rfl rfl ?_
  refine g_iload_n E (pn := 639) dL_law_638 rfl rfl ?_
  refine g_iconst E (pn := 640) (nI 1) dL_law_639 rfl (by decide) ?_
  refine g_iadd E (pn := 641) dL_law_640 rfl ?_
  refine g_topi (nI (6 * cc + 1)) (nI_add _ _) ?_
  refine g_sld E hX hbl hbA (by omega) (show 6 * cc + 1 < L by omega) (pn := 642) dL_law_641 rfl ?_
  refine g_aload_n E (pn := 643) dL_law_642 rfl rfl ?_
  refine g_iload_n E (pn := 644) dL_law_643 rfl rfl ?_
  refine g_iconst E (pn := 645) (nI 2) dL_law_644 rfl (by decide) ?_
  refine g_iadd E (pn := 646) dL_law_645 rfl ?_
  refine g_topi (nI (6 * cc + 2)) (nI_add _ _) ?_
  refine g_sld E hX hbl hbA (by omega) (show 6 * cc + 2 < L by omega) (pn := 647) dL_law_646 rfl ?_
  refine g_conV (kc := 34) (ci := 7) (fs := oMod g (qN q ni ng)) [.int (xs (6 * cc + 1)), .int (xs (6 * cc + 2))] E hJ (con_X8_weight EX_all ri.1 ri.2.1 ri.2.2.1 r35 r36 ho.1) dL_law_647 (pn := 650) rfl cal_X8_weight ml_L_66 ⟨(Nat.le_of_ble_eq_true rfl), (Nat.le_of_ble_eq_true rfl)⟩ rfl (by decide) ri.1 rfl rfl rfl (Nat.le_of_ble_eq_true rfl) hf ?_
  rintro _ M3 ⟨rfl, hg3⟩
  have hO := RX_rP (RI_I ri hg3) r35 r36 ⟨tp, r47, rtp⟩ ⟨nw, nb, r48, r49, rwb⟩ ⟨wk, r50⟩ ⟨dp, r51⟩
  obtain ⟨⟨m2, hm2, hr3⟩, hf3⟩ := hO
  have hc3 := CI_fr hf3 hc2
  refine g_st (st2 := [.int _, .int _]) rfl ?_
  refine g_same E 1152 dL_law_650 (by decide) ?_
  exact kc _ sn sT ni ng W B P m2 hc3 hr3 ho (by omega)
set_option maxRecDepth 100000 in
theorem law_11 (E : gE g RL code 4 p s m #[.ref b] c A) (hJ : jS g A s) (hX : va_X b L xs s s.heap) (hbl : b < s.heap.size) (hbA : ¬ A b) (hL : L ≤ 3072) (h6 : 6 * cc + 6 ≤ L) (hf : k ≤ room_1.cells ∧ n ≤ room_1.slots) (kc : lCont g p e s m below meth c A Q b cc k n) {M : jMem} {sn sT : Nat → Nat} {ni ng : Nat} {W : Nat → Nat → Int} {B P : Nat → Int} {mm : Nat} (hc : CI g M sn sT ni ng W B P) (hr : RX g M sn sT ni ng W B P mm) (ho : SO sn sT ni ng W B P) (hm : mm ≤ 256 * cc) : GJ g 4 p e room_1 s m #[.ref b] below meth c A Q 655 [some (.ref b), some (.ref (jA g 0)), some (.ref (jA g 34)), some (.int (nI (6 * cc)))] [] (jW g M) k n := by
  refine g_aload_n E (pn := 656) dL_law_655 rfl rfl ?_
  refine g_aload_n E (pn := 657) dL_law_656 rfl rfl ?_
  refine g_iload_n E (pn := 658) dL_law_657 rfl rfl ?_
  refine g_iconst E (pn := 659) (nI 1) dL_law_658 rfl (by decide) ?_
  refine g_iadd E (pn := 660) dL_law_659 rfl ?_
  refine g_topi (nI (6 * cc + 1)) (nI_add _ _) ?_
  refine g_sld E hX hbl hbA (by omega) (show 6 * cc + 1 < L by omega) (pn := 661) dL_law_660 rfl ?_
  refine g_conV (kc := 0) (ci := 6) (fs := oX g) [.int (xs (6 * cc + 1))] E hJ (con_X7_bound hc.1 hc.2.1 hc.2.2.1 hc.2.2.2.1 hc.2.2.2.2.1 ho.1) dL_law_661 (pn := 664) rfl cal_X7_bound ml_L_67 ⟨(Nat.le_of_ble_eq_true rfl), (Nat.le_of_ble_eq_true rfl)⟩ rfl (by decide) hc.1 rfl rfl rfl (Nat.le_of_ble_eq_true rfl) hf ?_
  rintro _ M2 ⟨rfl, hg⟩
  obtain ⟨hc2, hf2⟩ := CI_gt hc hg
  refine g_st (st2 := [.int _]) rfl ?_
  have hr2 := RX_fr hf2 hr
  obtain ⟨q, ri, r35, r36, ⟨tp, r47, rtp⟩, ⟨nw, nb, r48, r49, rwb⟩, ⟨wk, r50⟩, ⟨dp, r51⟩⟩ := id hr2
  refine g_aload_n E (pn := 665) dL_law_664 rfl rfl ?_
  refine g_aload_n E (pn := 666) dL_law_665 rfl rfl ?_
  refine g_iload_n E (pn := 667) dL_law_666 rfl rfl ?_
  refine g_iconst E (pn := 668) (nI 1) dL_law_667 rfl (by decide) ?_
  refine g_iadd E (pn := 669) dL_law_668 rfl ?_
  refine g_topi (nI (6 * cc + 1)) (nI_add _ _) ?_
  refine g_sld E hX hbl hbA (by omega) (show 6 * cc + 1 < L by omega) (pn := 670) dL_law_669 rfl ?_
  refine g_conV (kc := 34) (ci := 7) (fs := oMod g (qN q ni ng)) [.int (xs (6 * cc + 1))] E hJ (con_X8_bound EX_all ri.1 ri.2.1 ri.2.2.1 r35 r36 ho.1) dL_law_670 (pn := 673) rfl cal_X8_bound ml_L_70 ⟨(Nat.le_of_ble_eq_true rfl), (Nat.le_of_ble_eq_true rfl)⟩ rfl (by decide) ri.1 rfl rfl rfl (Nat.le_of_ble_eq_true rfl) hf ?_
  rintro _ M3 ⟨rfl, hg3⟩
  have hO := RX_rP (RI_I ri hg3) r35 r36 ⟨tp, r47, rtp⟩ ⟨nw, nb, r48, r49, rwb⟩ ⟨wk, r50⟩ ⟨dp, r51⟩
  obtain ⟨⟨m2, hm2, hr3⟩, hf3⟩ := hO
  have hc3 := CI_fr hf3 hc2
  refine g_st (st2 := [.int _, .int _]) rfl ?_
  refine g_same E 1152 dL_law_673 (by decide) ?_
  exact kc _ sn sT ni ng W B P m2 hc3 hr3 ho (by omega)
set_option maxRecDepth 100000 in
theorem law_12 (E : gE g RL code 4 p s m #[.ref b] c A) (hJ : jS g A s) (hX : va_X b L xs s s.heap) (hbl : b < s.heap.size) (hbA : ¬ A b) (hL : L ≤ 3072) (h6 : 6 * cc + 6 ≤ L) (hf : k ≤ room_1.cells ∧ n ≤ room_1.slots) (kc : lCont g p e s m below meth c A Q b cc k n) {M : jMem} {sn sT : Nat → Nat} {ni ng : Nat} {W : Nat → Nat → Int} {B P : Nat → Int} {mm : Nat} (hc : CI g M sn sT ni ng W B P) (hr : RX g M sn sT ni ng W B P mm) (ho : SO sn sT ni ng W B P) (hm : mm ≤ 256 * cc) : GJ g 4 p e room_1 s m #[.ref b] below meth c A Q 678 [some (.ref b), some (.ref (jA g 0)), some (.ref (jA g 34)), some (.int (nI (6 * cc)))] [] (jW g M) k n := by
  refine g_aload_n E (pn := 679) dL_law_678 rfl rfl ?_
  refine g_aload_n E (pn := 680) dL_law_679 rfl rfl ?_
  refine g_iload_n E (pn := 681) dL_law_680 rfl rfl ?_
  refine g_iconst E (pn := 682) (nI 1) dL_law_681 rfl (by decide) ?_
  refine g_iadd E (pn := 683) dL_law_682 rfl ?_
  refine g_topi (nI (6 * cc + 1)) (nI_add _ _) ?_
  refine g_sld E hX hbl hbA (by omega) (show 6 * cc + 1 < L by omega) (pn := 684) dL_law_683 rfl ?_
  refine g_conV (kc := 0) (ci := 6) (fs := oX g) [.int (xs (6 * cc + 1))] E hJ (con_X7_size hc.1 hc.2.1 hc.2.2.1 hc.2.2.2.1 hc.2.2.2.2.1 ho.1) dL_law_684 (pn := 687) rfl cal_X7_size ml_L_71 ⟨(Nat.le_of_ble_eq_true rfl), (Nat.le_of_ble_eq_true rfl)⟩ rfl (by decide) hc.1 rfl rfl rfl (Nat.le_of_ble_eq_true rfl) hf ?_
  rintro _ M2 ⟨rfl, hg⟩
  obtain ⟨hc2, hf2⟩ := CI_gt hc hg
  refine g_st (st2 := [.int _]) rfl ?_
  have hr2 := RX_fr hf2 hr
  obtain ⟨q, ri, r35, r36, ⟨tp, r47, rtp⟩, ⟨nw, nb, r48, r49, rwb⟩, ⟨wk, r50⟩, ⟨dp, r51⟩⟩ := id hr2
  refine g_aload_n E (pn := 688) dL_law_687 rfl rfl ?_
  refine g_aload_n E (pn := 689) dL_law_688 rfl rfl ?_
  refine g_iload_n E (pn := 690) dL_law_689 rfl rfl ?_
  refine g_iconst E (pn := 691) (nI 1) dL_law_690 rfl (by decide) ?_
  refine g_iadd E (pn := 692) dL_law_691 rfl ?_
  refine g_topi (nI (6 * cc + 1)) (nI_add _ _) ?_
  refine g_sld E hX hbl hbA (by omega) (show 6 * cc + 1 < L by omega) (pn := 693) dL_law_692 rfl ?_
  refine g_conV (kc := 34) (ci := 7) (fs := oMod g (qN q ni ng)) [.int (xs (6 * cc + 1))] E hJ (con_X8_size EX_all ri.1 ri.2.1 ri.2.2.1 r35 r36 ho.1) dL_law_693 (pn := 696) rfl cal_X8_size ml_L_74 ⟨(Nat.le_of_ble_eq_true rfl), (Nat.le_of_ble_eq_true rfl)⟩ rfl (by decide) ri.1 rfl rfl rfl (Nat.le_of_ble_eq_true rfl) hf ?_
  rintro _ M3 ⟨rfl, hg3⟩
  have hO := RX_rP (RI_I ri hg3) r35 r36 ⟨tp, r47, rtp⟩ ⟨nw, nb, r48, r49, rwb⟩ ⟨wk, r50⟩ ⟨dp, r51⟩
  obtain ⟨⟨m2, hm2, hr3⟩, hf3⟩ := hO
  have hc3 := CI_fr hf3 hc2
  refine g_st (st2 := [.int _, .int _]) rfl ?_
  refine g_same E 1152 dL_law_696 (by decide) ?_
  exact kc _ sn sT ni ng W B P m2 hc3 hr3 ho (by omega)
set_option maxRecDepth 100000 in
theorem law_13 (E : gE g RL code 4 p s m #[.ref b] c A) (hJ : jS g A s) (hX : va_X b L xs s s.heap) (hbl : b < s.heap.size) (hbA : ¬ A b) (hL : L ≤ 3072) (h6 : 6 * cc + 6 ≤ L) (hf : k ≤ room_1.cells ∧ n ≤ room_1.slots) (kc : lCont g p e s m below meth c A Q b cc k n) {M : jMem} {sn sT : Nat → Nat} {ni ng : Nat} {W : Nat → Nat → Int} {B P : Nat → Int} {mm : Nat} (hc : CI g M sn sT ni ng W B P) (hr : RX g M sn sT ni ng W B P mm) (ho : SO sn sT ni ng W B P) (hm : mm ≤ 256 * cc) : GJ g 4 p e room_1 s m #[.ref b] below meth c A Q 701 [some (.ref b), some (.ref (jA g 0)), some (.ref (jA g 34)), some (.int (nI (6 * cc)))] [] (jW g M) k n := by
  refine g_aload_n E (pn := 702) dL_law_701 rfl rfl ?_
  refine g_aload_n E (pn := 703) dL_law_702 rfl rfl ?_
  refine g_iload_n E (pn := 704) dL_law_703 rfl rfl ?_
  refine g_iconst E (pn := 705) (nI 1) dL_law_704 rfl (by decide) ?_
  refine g_iadd E (pn := 706) dL_law_705 rfl ?_
  refine g_topi (nI (6 * cc + 1)) (nI_add _ _) ?_
  refine g_sld E hX hbl hbA (by omega) (show 6 * cc + 1 < L by omega) (pn := 707) dL_law_706 rfl ?_
  refine g_aload_n E (pn := 708) dL_law_707 rfl rfl ?_
  refine g_iload_n E (pn := 709) dL_law_708 rfl rfl ?_
  refine g_iconst E (pn := 710) (nI 2) dL_law_709 rfl (by decide) ?_
  refine g_iadd E (pn := 711) dL_law_710 rfl ?_
  refine g_topi (nI (6 * cc + 2)) (nI_add _ _) ?_
  refine g_sld E hX hbl hbA (by omega) (show 6 * cc + 2 < L by omega) (pn := 712) dL_law_711 rfl ?_
  refine g_conV (kc := 0) (ci := 6) (fs := oX g) [.int (xs (6 * cc + 1)), .int (xs (6 * cc + 2))] E hJ (con_X7_witness hc.1 hc.2.1 hc.2.2.1 hc.2.2.2.1 hc.2.2.2.2.1 ho.1) dL_law_712 (pn := 715) rfl cal_X7_witness ml_L_75 ⟨(Nat.le_of_ble_eq_true rfl), (Nat.le_of_ble_eq_true rfl)⟩ rfl (by decide) hc.1 rfl rfl rfl (Nat.le_of_ble_eq_true rfl) hf ?_
  rintro _ M2 ⟨rfl, hg⟩
  obtain ⟨hc2, hf2⟩ := CI_gt hc hg
  refine g_st (st2 := [.int _]) rfl ?_
  have hr2 := RX_fr hf2 hr
  obtain ⟨q, ri, r35, r36, ⟨tp, r47, rtp⟩, ⟨nw, nb, r48, r49, rwb⟩, ⟨wk, r50⟩, ⟨dp, r51⟩⟩ := id hr2
  refine g_aload_n E (pn := 716) dL_law_715 rfl rfl ?_
  refine g_aload_n E (pn := 717) dL_law_716 rfl rfl ?_
  refine g_iload_n E (pn := 718) dL_law_717 rfl rfl ?_
  refine g_iconst E (pn := 719) (nI 1) dL_law_718 rfl (by decide) ?_
  refine g_iadd E (pn := 720) dL_law_719 rfl ?_
  refine g_topi (nI (6 * cc + 1)) (nI_add _ _) ?_
  refine g_sld E hX hbl hbA (by omega) (show 6 * cc + 1 < L by omega) (pn := 721) dL_law_720 rfl ?_
  refine g_aload_n E (pn := 722) dL_law_721 rfl rfl ?_
  refine g_iload_n E (pn := 723) dL_law_722 rfl rfl ?_
  refine g_iconst E (pn := 724) (nI 2) dL_law_723 rfl (by decide) ?_
  refine g_iadd E (pn := 725) dL_law_724 rfl ?_
  refine g_topi (nI (6 * cc + 2)) (nI_add _ _) ?_
  refine g_sld E hX hbl hbA (by omega) (show 6 * cc + 2 < L by omega) (pn := 726) dL_law_725 rfl ?_
  refine g_conV (kc := 34) (ci := 7) (fs := oMod g (qN q ni ng)) [.int (xs (6 * cc + 1)), .int (xs (6 * cc + 2))] E hJ (con_X8_witness EX_all ri.1 ri.2.1 ri.2.2.1 r35 r36 ho.1) dL_law_726 (pn := 729) rfl cal_X8_witness ml_L_78 ⟨(Nat.le_of_ble_eq_true rfl), (Nat.le_of_ble_eq_true rfl)⟩ rfl (by decide) ri.1 rfl rfl rfl (Nat.le_of_ble_eq_true rfl) hf ?_
  rintro _ M3 ⟨rfl, hg3⟩
  have hO := RX_rP (RI_I ri hg3) r35 r36 ⟨tp, r47, rtp⟩ ⟨nw, nb, r48, r49, rwb⟩ ⟨wk, r50⟩ ⟨dp, r51⟩
  obtain ⟨⟨m2, hm2, hr3⟩, hf3⟩ := hO
  have hc3 := CI_fr hf3 hc2
  refine g_st (st2 := [.int _, .int _]) rfl ?_
  refine g_same E 1152 dL_law_729 (by decide) ?_
  exact kc _ sn sT ni ng W B P m2 hc3 hr3 ho (by omega)
set_option maxRecDepth 100000 in
theorem law_14 (E : gE g RL code 4 p s m #[.ref b] c A) (hJ : jS g A s) (hX : va_X b L xs s s.heap) (hbl : b < s.heap.size) (hbA : ¬ A b) (hL : L ≤ 3072) (h6 : 6 * cc + 6 ≤ L) (hf : k ≤ room_1.cells ∧ n ≤ room_1.slots) (kc : lCont g p e s m below meth c A Q b cc k n) {M : jMem} {sn sT : Nat → Nat} {ni ng : Nat} {W : Nat → Nat → Int} {B P : Nat → Int} {mm : Nat} (hc : CI g M sn sT ni ng W B P) (hr : RX g M sn sT ni ng W B P mm) (ho : SO sn sT ni ng W B P) (hm : mm ≤ 256 * cc) : GJ g 4 p e room_1 s m #[.ref b] below meth c A Q 734 [some (.ref b), some (.ref (jA g 0)), some (.ref (jA g 34)), some (.int (nI (6 * cc)))] [] (jW g M) k n := by
  refine g_aload_n E (pn := 735) dL_law_734 rfl rfl ?_
  refine g_aload_n E (pn := 736) dL_law_735 rfl rfl ?_
  refine g_iload_n E (pn := 737) dL_law_736 rfl rfl ?_
  refine g_iconst E (pn := 738) (nI 1) dL_law_737 rfl (by decide) ?_
  refine g_iadd E (pn := 739) dL_law_738 rfl ?_
  refine g_topi (nI (6 * cc + 1)) (nI_add _ _) ?_
  refine g_sld E hX hbl hbA (by omega) (show 6 * cc + 1 < L by omega) (pn := 740) dL_law_739 rfl ?_
  refine g_conV (kc := 0) (ci := 6) (fs := oX g) [.int (xs (6 * cc + 1))] E hJ (con_X7_slack hc.1 hc.2.1 hc.2.2.1 hc.2.2.2.1 hc.2.2.2.2.1 ho.1) dL_law_740 (pn := 743) rfl cal_X7_slack ml_L_79 ⟨(Nat.le_of_ble_eq_true rfl), (Nat.le_of_ble_eq_true rfl)⟩ rfl (by decide) hc.1 rfl rfl rfl (Nat.le_of_ble_eq_true rfl) hf ?_
  rintro _ M2 ⟨rfl, hg⟩
  obtain ⟨hc2, hf2⟩ := CI_gt hc hg
  refine g_st (st2 := [.int _]) rfl ?_
  have hr2 := RX_fr hf2 hr
  obtain ⟨q, ri, r35, r36, ⟨tp, r47, rtp⟩, ⟨nw, nb, r48, r49, rwb⟩, ⟨wk, r50⟩, ⟨dp, r51⟩⟩ := id hr2
  refine g_aload_n E (pn := 744) dL_law_743 rfl rfl ?_
  refine g_aload_n E (pn := 745) dL_law_744 rfl rfl ?_
  refine g_iload_n E (pn := 746) dL_law_745 rfl rfl ?_
  refine g_iconst E (pn := 747) (nI 1) dL_law_746 rfl (by decide) ?_
  refine g_iadd E (pn := 748) dL_law_747 rfl ?_
  refine g_topi (nI (6 * cc + 1)) (nI_add _ _) ?_
  refine g_sld E hX hbl hbA (by omega) (show 6 * cc + 1 < L by omega) (pn := 749) dL_law_748 rfl ?_
  refine g_conV (kc := 34) (ci := 7) (fs := oMod g (qN q ni ng)) [.int (xs (6 * cc + 1))] E hJ (con_X8_slack EX_all ri.1 ri.2.1 ri.2.2.1 r35 r36 ho.1) dL_law_749 (pn := 752) rfl cal_X8_slack ml_L_82 ⟨(Nat.le_of_ble_eq_true rfl), (Nat.le_of_ble_eq_true rfl)⟩ rfl (by decide) ri.1 rfl rfl rfl (Nat.le_of_ble_eq_true rfl) hf ?_
  rintro _ M3 ⟨rfl, hg3⟩
  have hO := RX_rP (RI_I ri hg3) r35 r36 ⟨tp, r47, rtp⟩ ⟨nw, nb, r48, r49, rwb⟩ ⟨wk, r50⟩ ⟨dp, r51⟩
  obtain ⟨⟨m2, hm2, hr3⟩, hf3⟩ := hO
  have hc3 := CI_fr hf3 hc2
  refine g_st (st2 := [.int _, .int _]) rfl ?_
  refine g_same E 1152 dL_law_752 (by decide) ?_
  exact kc _ sn sT ni ng W B P m2 hc3 hr3 ho (by omega)
set_option maxRecDepth 100000 in
theorem law_15 (E : gE g RL code 4 p s m #[.ref b] c A) (hJ : jS g A s) (hX : va_X b L xs s s.heap) (hbl : b < s.heap.size) (hbA : ¬ A b) (hL : L ≤ 3072) (h6 : 6 * cc + 6 ≤ L) (hf : k ≤ room_1.cells ∧ n ≤ room_1.slots) (kc : lCont g p e s m below meth c A Q b cc k n) {M : jMem} {sn sT : Nat → Nat} {ni ng : Nat} {W : Nat → Nat → Int} {B P : Nat → Int} {mm : Nat} (hc : CI g M sn sT ni ng W B P) (hr : RX g M sn sT ni ng W B P mm) (ho : SO sn sT ni ng W B P) (hm : mm ≤ 256 * cc) : GJ g 4 p e room_1 s m #[.ref b] below meth c A Q 757 [some (.ref b), some (.ref (jA g 0)), some (.ref (jA g 34)), some (.int (nI (6 * cc)))] [] (jW g M) k n := by
  refine g_aload_n E (pn := 758) dL_law_757 rfl rfl ?_
  refine g_aload_n E (pn := 759) dL_law_758 rfl rfl ?_
  refine g_iload_n E (pn := 760) dL_law_759 rfl rfl ?_
  refine g_iconst E (pn := 761) (nI 1) dL_law_760 rfl (by decide) ?_
  refine g_iadd E (pn := 762) dL_law_761 rfl ?_
  refine g_topi (nI (6 * cc + 1)) (nI_add _ _) ?_
  refine g_sld E hX hbl hbA (by omega) (show 6 * cc + 1 < L by omega) (pn := 763) dL_law_762 rfl ?_
  obtain ⟨ka, kb, kd, ke, h11⟩ := hc.2.2.2.2.2.1
  refine g_conV (kc := 0) (ci := 6) (fs := oX g) [.int (xs (6 * cc + 1))] E hJ (con_X7_chief hc.1 hc.2.1 hc.2.2.1 h11 ho.1) dL_law_763 (pn := 766) rfl cal_X7_chief ml_L_83 ⟨(Nat.le_of_ble_eq_true rfl), (Nat.le_of_ble_eq_true rfl)⟩ rfl (by decide) hc.1 rfl rfl rfl (Nat.le_of_ble_eq_true rfl) hf ?_
  rintro _ M2 ⟨rfl, hg⟩
  obtain ⟨hc2, hf2⟩ := CI_k hc hg
  refine g_st (st2 := [.long _]) rfl ?_
  have hr2 := RX_fr hf2 hr
  obtain ⟨q, ri, r35, r36, ⟨tp, r47, rtp⟩, ⟨nw, nb, r48, r49, rwb⟩, ⟨wk, r50⟩, ⟨dp, r51⟩⟩ := id hr2
  refine g_aload_n E (pn := 767) dL_law_766 rfl rfl ?_
  refine g_aload_n E (pn := 768) dL_law_767 rfl rfl ?_
  refine g_iload_n E (pn := 769) dL_law_768 rfl rfl ?_
  refine g_iconst E (pn := 770) (nI 1) dL_law_769 rfl (by decide) ?_
  refine g_iadd E (pn := 771) dL_law_770 rfl ?_
  refine g_topi (nI (6 * cc + 1)) (nI_add _ _) ?_
  refine g_sld E hX hbl hbA (by omega) (show 6 * cc + 1 < L by omega) (pn := 772) dL_law_771 rfl ?_
  refine g_conV (kc := 34) (ci := 7) (fs := oMod g (qN q ni ng)) [.int (xs (6 * cc + 1))] E hJ (con_X8_chief ri (by omega) r35 r36 ho.1) dL_law_772 (pn := 775) rfl cal_X8_chief ml_L_86 ⟨(Nat.le_of_ble_eq_true rfl), (Nat.le_of_ble_eq_true rfl)⟩ rfl (by decide) ri.1 rfl rfl rfl (Nat.le_of_ble_eq_true rfl) hf ?_
  rintro _ M3 ⟨rfl, hg3⟩
  have hO := RX_rP hg3 r35 r36 ⟨tp, r47, rtp⟩ ⟨nw, nb, r48, r49, rwb⟩ ⟨wk, r50⟩ ⟨dp, r51⟩
  obtain ⟨⟨m2, hm2, hr3⟩, hf3⟩ := hO
  have hc3 := CI_fr hf3 hc2
  refine g_st (st2 := [.long _, .long _]) rfl ?_
  refine g_sameL E (pn := 776) 1152 dL_law_775 rfl dL_law_776 (by decide) ?_
  exact kc _ sn sT ni ng W B P m2 hc3 hr3 ho (by omega)
set_option maxRecDepth 100000 in
theorem law_16 (E : gE g RL code 4 p s m #[.ref b] c A) (hJ : jS g A s) (hX : va_X b L xs s s.heap) (hbl : b < s.heap.size) (hbA : ¬ A b) (hL : L ≤ 3072) (h6 : 6 * cc + 6 ≤ L) (hf : k ≤ room_1.cells ∧ n ≤ room_1.slots) (kc : lCont g p e s m below meth c A Q b cc k n) {M : jMem} {sn sT : Nat → Nat} {ni ng : Nat} {W : Nat → Nat → Int} {B P : Nat → Int} {mm : Nat} (hc : CI g M sn sT ni ng W B P) (hr : RX g M sn sT ni ng W B P mm) (ho : SO sn sT ni ng W B P) (hm : mm ≤ 256 * cc) : GJ g 4 p e room_1 s m #[.ref b] below meth c A Q 781 [some (.ref b), some (.ref (jA g 0)), some (.ref (jA g 34)), some (.int (nI (6 * cc)))] [] (jW g M) k n := by
  refine g_aload_n E (pn := 782) dL_law_781 rfl rfl ?_
  refine g_aload_n E (pn := 783) dL_law_782 rfl rfl ?_
  refine g_iload_n E (pn := 784) dL_law_783 rfl rfl ?_
  refine g_iconst E (pn := 785) (nI 1) dL_law_784 rfl (by decide) ?_
  refine g_iadd E (pn := 786) dL_law_785 rfl ?_
  refine g_topi (nI (6 * cc + 1)) (nI_add _ _) ?_
  refine g_sld E hX hbl hbA (by omega) (show 6 * cc + 1 < L by omega) (pn := 787) dL_law_786 rfl ?_
  obtain ⟨ka, kb, kd, ke, h11⟩ := hc.2.2.2.2.2.1
  refine g_conV (kc := 0) (ci := 6) (fs := oX g) [.int (xs (6 * cc + 1))] E hJ (con_X7_kin hc.1 hc.2.1 hc.2.2.1 h11 ho.1) dL_law_787 (pn := 790) rfl cal_X7_kin ml_L_87 ⟨(Nat.le_of_ble_eq_true rfl), (Nat.le_of_ble_eq_true rfl)⟩ rfl (by decide) hc.1 rfl rfl rfl (Nat.le_of_ble_eq_true rfl) hf ?_
  rintro _ M2 ⟨rfl, hg⟩
  obtain ⟨hc2, hf2⟩ := CI_k hc hg
  refine g_st (st2 := [.int _]) rfl ?_
  have hr2 := RX_fr hf2 hr
  obtain ⟨q, ri, r35, r36, ⟨tp, r47, rtp⟩, ⟨nw, nb, r48, r49, rwb⟩, ⟨wk, r50⟩, ⟨dp, r51⟩⟩ := id hr2
  refine g_aload_n E (pn := 791) dL_law_790 rfl rfl ?_
  refine g_aload_n E (pn := 792) dL_law_791 rfl rfl ?_
  refine g_iload_n E (pn := 793) dL_law_792 rfl rfl ?_
  refine g_iconst E (pn := 794) (nI 1) dL_law_793 rfl (by decide) ?_
  refine g_iadd E (pn := 795) dL_law_794 rfl ?_
  refine g_topi (nI (6 * cc + 1)) (nI_add _ _) ?_
  refine g_sld E hX hbl hbA (by omega) (show 6 * cc + 1 < L by omega) (pn := 796) dL_law_795 rfl ?_
  refine g_conV (kc := 34) (ci := 7) (fs := oMod g (qN q ni ng)) [.int (xs (6 * cc + 1))] E hJ (con_X8_kin ri (by omega) r35 r36 ho.1) dL_law_796 (pn := 799) rfl cal_X8_kin ml_L_90 ⟨(Nat.le_of_ble_eq_true rfl), (Nat.le_of_ble_eq_true rfl)⟩ rfl (by decide) ri.1 rfl rfl rfl (Nat.le_of_ble_eq_true rfl) hf ?_
  rintro _ M3 ⟨rfl, hg3⟩
  have hO := RX_rP hg3 r35 r36 ⟨tp, r47, rtp⟩ ⟨nw, nb, r48, r49, rwb⟩ ⟨wk, r50⟩ ⟨dp, r51⟩
  obtain ⟨⟨m2, hm2, hr3⟩, hf3⟩ := hO
  have hc3 := CI_fr hf3 hc2
  refine g_st (st2 := [.int _, .int _]) rfl ?_
  refine g_same E 1152 dL_law_799 (by decide) ?_
  exact kc _ sn sT ni ng W B P m2 hc3 hr3 ho (by omega)
set_option maxRecDepth 100000 in
theorem law_17 (E : gE g RL code 4 p s m #[.ref b] c A) (hJ : jS g A s) (hX : va_X b L xs s s.heap) (hbl : b < s.heap.size) (hbA : ¬ A b) (hL : L ≤ 3072) (h6 : 6 * cc + 6 ≤ L) (hf : k ≤ room_1.cells ∧ n ≤ room_1.slots) (kc : lCont g p e s m below meth c A Q b cc k n) {M : jMem} {sn sT : Nat → Nat} {ni ng : Nat} {W : Nat → Nat → Int} {B P : Nat → Int} {mm : Nat} (hc : CI g M sn sT ni ng W B P) (hr : RX g M sn sT ni ng W B P mm) (ho : SO sn sT ni ng W B P) (hm : mm ≤ 256 * cc) : GJ g 4 p e room_1 s m #[.ref b] below meth c A Q 804 [some (.ref b), some (.ref (jA g 0)), some (.ref (jA g 34)), some (.int (nI (6 * cc)))] [] (jW g M) k n := by
  refine g_aload_n E (pn := 805) dL_law_804 rfl rfl ?_
  refine g_aload_n E (pn := 806) dL_law_805 rfl rfl ?_
  refine g_iload_n E (pn := 807) dL_law_806 rfl rfl ?_
  refine g_iconst E (pn := 808) (nI 1) dL_law_807 rfl (by decide) ?_
  refine g_iadd E (pn := 809) dL_law_808 rfl ?_
  refine g_topi (nI (6 * cc + 1)) (nI_add _ _) ?_
  refine g_sld E hX hbl hbA (by omega) (show 6 * cc + 1 < L by omega) (pn := 810) dL_law_809 rfl ?_
  refine g_conV (kc := 0) (ci := 6) (fs := oX g) [.int (xs (6 * cc + 1))] E hJ (con_X7_gates ) dL_law_810 (pn := 813) rfl cal_X7_gates ml_L_91 ⟨(Nat.le_of_ble_eq_true rfl), (Nat.le_of_ble_eq_true rfl)⟩ rfl (by decide) hc.1 rfl rfl rfl (Nat.le_of_ble_eq_true rfl) hf ?_
  rintro _ M2 ⟨rfl, rfl⟩
  have hc2 := hc
  have hf2 : ∀ j, 34 ≤ j → M2 j = M2 j := fun _ _ => rfl
  refine g_st (st2 := [.int _]) rfl ?_
  have hr2 := RX_fr hf2 hr
  obtain ⟨q, ri, r35, r36, ⟨tp, r47, rtp⟩, ⟨nw, nb, r48, r49, rwb⟩, ⟨wk, r50⟩, ⟨dp, r51⟩⟩ := id hr2
  refine g_aload_n E (pn := 814) dL_law_813 rfl rfl ?_
  refine g_aload_n E (pn := 815) dL_law_814 rfl rfl ?_
  refine g_iload_n E (pn := 816) dL_law_815 rfl rfl ?_
  refine g_iconst E (pn := 817) (nI 1) dL_law_816 rfl (by decide) ?_
  refine g_iadd E (pn := 818) dL_law_817 rfl ?_
  refine g_topi (nI (6 * cc + 1)) (nI_add _ _) ?_
  refine g_sld E hX hbl hbA (by omega) (show 6 * cc + 1 < L by omega) (pn := 819) dL_law_818 rfl ?_
  refine g_conV (kc := 34) (ci := 7) (fs := oMod g (qN q ni ng)) [.int (xs (6 * cc + 1))] E hJ (con_X8_gates ri) dL_law_819 (pn := 822) rfl cal_X8_gates ml_L_94 ⟨(Nat.le_of_ble_eq_true rfl), (Nat.le_of_ble_eq_true rfl)⟩ rfl (by decide) ri.1 rfl rfl rfl (Nat.le_of_ble_eq_true rfl) hf ?_
  rintro _ M3 ⟨rfl, hg3⟩
  have hO := RX_rP hg3 r35 r36 ⟨tp, r47, rtp⟩ ⟨nw, nb, r48, r49, rwb⟩ ⟨wk, r50⟩ ⟨dp, r51⟩
  obtain ⟨⟨m2, hm2, hr3⟩, hf3⟩ := hO
  have hc3 := CI_fr hf3 hc2
  refine g_st (st2 := [.int _, .int _]) rfl ?_
  refine g_same E 1152 dL_law_822 (by decide) ?_
  exact kc _ sn sT ni ng W B P m2 hc3 hr3 ho (by omega)
set_option maxRecDepth 100000 in
theorem law_18 (E : gE g RL code 4 p s m #[.ref b] c A) (hJ : jS g A s) (hX : va_X b L xs s s.heap) (hbl : b < s.heap.size) (hbA : ¬ A b) (hL : L ≤ 3072) (h6 : 6 * cc + 6 ≤ L) (hf : k ≤ room_1.cells ∧ n ≤ room_1.slots) (kc : lCont g p e s m below meth c A Q b cc k n) {M : jMem} {sn sT : Nat → Nat} {ni ng : Nat} {W : Nat → Nat → Int} {B P : Nat → Int} {mm : Nat} (hc : CI g M sn sT ni ng W B P) (hr : RX g M sn sT ni ng W B P mm) (ho : SO sn sT ni ng W B P) (hm : mm ≤ 256 * cc) : GJ g 4 p e room_1 s m #[.ref b] below meth c A Q 827 [some (.ref b), some (.ref (jA g 0)), some (.ref (jA g 34)), some (.int (nI (6 * cc)))] [] (jW g M) k n := by
  refine g_aload_n E (pn := 828) dL_law_827 rfl rfl ?_
  refine g_aload_n E (pn := 829) dL_law_828 rfl rfl ?_
  refine g_iload_n E (pn := 830) dL_law_829 rfl rfl ?_
  refine g_iconst E (pn := 831) (nI 1) dL_law_830 rfl (by decide) ?_
  refine g_iadd E (pn := 832) dL_law_831 rfl ?_
  refine g_topi (nI (6 * cc + 1)) (nI_add _ _) ?_
  refine g_sld E hX hbl hbA (by omega) (show 6 * cc + 1 < L by omega) (pn := 833) dL_law_832 rfl ?_
  refine g_aload_n E (pn := 834) dL_law_833 rfl rfl ?_
  refine g_iload_n E (pn := 835) dL_law_834 rfl rfl ?_
  refine g_iconst E (pn := 836) (nI 2) dL_law_835 rfl (by decide) ?_
  refine g_iadd E (pn := 837) dL_law_836 rfl ?_
  refine g_topi (nI (6 * cc + 2)) (nI_add _ _) ?_
  refine g_sld E hX hbl hbA (by omega) (show 6 * cc + 2 < L by omega) (pn := 838) dL_law_837 rfl ?_
  refine g_bool E (p1 := 841) (p2 := 842) (p3 := 845) (p4 := 846) dL_law_838 rfl (by decide) dL_law_841 rfl dL_law_842 (by decide) dL_law_845 rfl ?_
  refine g_conV (kc := 0) (ci := 6) (fs := oX g) [.int (xs (6 * cc + 1)), .int (jB (!decide (xs (6 * cc + 2) = 0)))] E hJ (con_X7_kinds ) dL_law_846 (pn := 849) rfl cal_X7_kinds ml_L_95 ⟨(Nat.le_of_ble_eq_true rfl), (Nat.le_of_ble_eq_true rfl)⟩ rfl (by decide) hc.1 rfl rfl rfl (Nat.le_of_ble_eq_true rfl) hf ?_
  rintro _ M2 ⟨rfl, rfl⟩
  have hc2 := hc
  have hf2 : ∀ j, 34 ≤ j → M2 j = M2 j := fun _ _ => rfl
  refine g_st (st2 := [.int _]) rfl ?_
  have hr2 := RX_fr hf2 hr
  obtain ⟨q, ri, r35, r36, ⟨tp, r47, rtp⟩, ⟨nw, nb, r48, r49, rwb⟩, ⟨wk, r50⟩, ⟨dp, r51⟩⟩ := id hr2
  refine g_aload_n E (pn := 850) dL_law_849 rfl rfl ?_
  refine g_aload_n E (pn := 851) dL_law_850 rfl rfl ?_
  refine g_iload_n E (pn := 852) dL_law_851 rfl rfl ?_
  refine g_iconst E (pn := 853) (nI 1) dL_law_852 rfl (by decide) ?_
  refine g_iadd E (pn := 854) dL_law_853 rfl ?_
  refine g_topi (nI (6 * cc + 1)) (nI_add _ _) ?_
  refine g_sld E hX hbl hbA (by omega) (show 6 * cc + 1 < L by omega) (pn := 855) dL_law_854 rfl ?_
  refine g_aload_n E (pn := 856) dL_law_855 rfl rfl ?_
  refine g_iload_n E (pn := 857) dL_law_856 rfl rfl ?_
  refine g_iconst E (pn := 858) (nI 2) dL_law_857 rfl (by decide) ?_
  refine g_iadd E (pn := 859) dL_law_858 rfl ?_
  refine g_topi (nI (6 * cc + 2)) (nI_add _ _) ?_
  refine g_sld E hX hbl hbA (by omega) (show 6 * cc + 2 < L by omega) (pn := 860) dL_law_859 rfl ?_
  refine g_bool E (p1 := 863) (p2 := 864) (p3 := 867) (p4 := 868) dL_law_860 rfl (by decide) dL_law_863 rfl dL_law_864 (by decide) dL_law_867 rfl ?_
  refine g_conV (kc := 34) (ci := 7) (fs := oMod g (qN q ni ng)) [.int (xs (6 * cc + 1)), .int (jB (!decide (xs (6 * cc + 2) = 0)))] E hJ (con_X8_kinds ri (by omega)) dL_law_868 (pn := 871) rfl cal_X8_kinds ml_L_99 ⟨(Nat.le_of_ble_eq_true rfl), (Nat.le_of_ble_eq_true rfl)⟩ rfl (by decide) ri.1 rfl rfl rfl (Nat.le_of_ble_eq_true rfl) hf ?_
  rintro _ M3 ⟨rfl, hg3⟩
  have hO := RX_rP hg3 r35 r36 ⟨tp, r47, rtp⟩ ⟨nw, nb, r48, r49, rwb⟩ ⟨wk, r50⟩ ⟨dp, r51⟩
  obtain ⟨⟨m2, hm2, hr3⟩, hf3⟩ := hO
  have hc3 := CI_fr hf3 hc2
  refine g_st (st2 := [.int _, .int _]) rfl ?_
  refine g_same E 1152 dL_law_871 (by decide) ?_
  exact kc _ sn sT ni ng W B P m2 hc3 hr3 ho (by omega)
set_option maxRecDepth 100000 in
theorem law_19 (E : gE g RL code 4 p s m #[.ref b] c A) (hJ : jS g A s) (hX : va_X b L xs s s.heap) (hbl : b < s.heap.size) (hbA : ¬ A b) (hL : L ≤ 3072) (h6 : 6 * cc + 6 ≤ L) (hf : k ≤ room_1.cells ∧ n ≤ room_1.slots) (kc : lCont g p e s m below meth c A Q b cc k n) {M : jMem} {sn sT : Nat → Nat} {ni ng : Nat} {W : Nat → Nat → Int} {B P : Nat → Int} {mm : Nat} (hc : CI g M sn sT ni ng W B P) (hr : RX g M sn sT ni ng W B P mm) (ho : SO sn sT ni ng W B P) (hm : mm ≤ 256 * cc) : GJ g 4 p e room_1 s m #[.ref b] below meth c A Q 876 [some (.ref b), some (.ref (jA g 0)), some (.ref (jA g 34)), some (.int (nI (6 * cc)))] [] (jW g M) k n := by
  refine g_aload_n E (pn := 877) dL_law_876 rfl rfl ?_
  refine g_aload_n E (pn := 878) dL_law_877 rfl rfl ?_
  refine g_iload_n E (pn := 879) dL_law_878 rfl rfl ?_
  refine g_iconst E (pn := 880) (nI 1) dL_law_879 rfl (by decide) ?_
  refine g_iadd E (pn := 881) dL_law_880 rfl ?_
  refine g_topi (nI (6 * cc + 1)) (nI_add _ _) ?_
  refine g_sld E hX hbl hbA (by omega) (show 6 * cc + 1 < L by omega) (pn := 882) dL_law_881 rfl ?_
  refine g_conV (kc := 0) (ci := 6) (fs := oX g) [.int (xs (6 * cc + 1))] E hJ (con_X7_fewest hc.1 hc.2.1 hc.2.2.1 hc.2.2.2.1 hc.2.2.2.2.2.2.1 ho.1) dL_law_882 (pn := 885) rfl cal_X7_fewest ml_L_100 ⟨(Nat.le_of_ble_eq_true rfl), (Nat.le_of_ble_eq_true rfl)⟩ rfl (by decide) hc.1 rfl rfl rfl (Nat.le_of_ble_eq_true rfl) hf ?_
  rintro _ M2 ⟨rfl, u1, u2, u3⟩
  obtain ⟨hc2, hf2⟩ := CI_f hc u1 u2 u3
  refine g_st (st2 := [.int _]) rfl ?_
  have hr2 := RX_fr hf2 hr
  obtain ⟨q, ri, r35, r36, ⟨tp, r47, rtp⟩, ⟨nw, nb, r48, r49, rwb⟩, ⟨wk, r50⟩, ⟨dp, r51⟩⟩ := id hr2
  refine g_aload_n E (pn := 886) dL_law_885 rfl rfl ?_
  refine g_aload_n E (pn := 887) dL_law_886 rfl rfl ?_
  refine g_iload_n E (pn := 888) dL_law_887 rfl rfl ?_
  refine g_iconst E (pn := 889) (nI 1) dL_law_888 rfl (by decide) ?_
  refine g_iadd E (pn := 890) dL_law_889 rfl ?_
  refine g_topi (nI (6 * cc + 1)) (nI_add _ _) ?_
  refine g_sld E hX hbl hbA (by omega) (show 6 * cc + 1 < L by omega) (pn := 891) dL_law_890 rfl ?_
  refine g_conV (kc := 34) (ci := 7) (fs := oMod g (qN q ni ng)) [.int (xs (6 * cc + 1))] E hJ (con_X8_fewest ri r35 r36 ho.1) dL_law_891 (pn := 894) rfl cal_X8_fewest ml_L_103 ⟨(Nat.le_of_ble_eq_true rfl), (Nat.le_of_ble_eq_true rfl)⟩ rfl (by decide) ri.1 rfl rfl rfl (Nat.le_of_ble_eq_true rfl) hf ?_
  rintro _ M3 ⟨rfl, hg3⟩
  have hO := RX_rP hg3 r35 r36 ⟨tp, r47, rtp⟩ ⟨nw, nb, r48, r49, rwb⟩ ⟨wk, r50⟩ ⟨dp, r51⟩
  obtain ⟨⟨m2, hm2, hr3⟩, hf3⟩ := hO
  have hc3 := CI_fr hf3 hc2
  refine g_st (st2 := [.int _, .int _]) rfl ?_
  refine g_same E 1152 dL_law_894 (by decide) ?_
  exact kc _ sn sT ni ng W B P m2 hc3 hr3 ho (by omega)
set_option maxRecDepth 100000 in
theorem law_20 (E : gE g RL code 4 p s m #[.ref b] c A) (hJ : jS g A s) (hX : va_X b L xs s s.heap) (hbl : b < s.heap.size) (hbA : ¬ A b) (hL : L ≤ 3072) (h6 : 6 * cc + 6 ≤ L) (hf : k ≤ room_1.cells ∧ n ≤ room_1.slots) (kc : lCont g p e s m below meth c A Q b cc k n) {M : jMem} {sn sT : Nat → Nat} {ni ng : Nat} {W : Nat → Nat → Int} {B P : Nat → Int} {mm : Nat} (hc : CI g M sn sT ni ng W B P) (hr : RX g M sn sT ni ng W B P mm) (ho : SO sn sT ni ng W B P) (hm : mm ≤ 256 * cc) : GJ g 4 p e room_1 s m #[.ref b] below meth c A Q 899 [some (.ref b), some (.ref (jA g 0)), some (.ref (jA g 34)), some (.int (nI (6 * cc)))] [] (jW g M) k n := by
  refine g_aload_n E (pn := 900) dL_law_899 rfl rfl ?_
  refine g_aload_n E (pn := 901) dL_law_900 rfl rfl ?_
  refine g_iload_n E (pn := 902) dL_law_901 rfl rfl ?_
  refine g_iconst E (pn := 903) (nI 1) dL_law_902 rfl (by decide) ?_
  refine g_iadd E (pn := 904) dL_law_903 rfl ?_
  refine g_topi (nI (6 * cc + 1)) (nI_add _ _) ?_
  refine g_sld E hX hbl hbA (by omega) (show 6 * cc + 1 < L by omega) (pn := 905) dL_law_904 rfl ?_
  refine g_conV (kc := 0) (ci := 6) (fs := oX g) [.int (xs (6 * cc + 1))] E hJ (con_X7_first hc.1 hc.2.1 hc.2.2.1 hc.2.2.2.1 hc.2.2.2.2.2.2.1 ho.1) dL_law_905 (pn := 908) rfl cal_X7_first ml_L_104 ⟨(Nat.le_of_ble_eq_true rfl), (Nat.le_of_ble_eq_true rfl)⟩ rfl (by decide) hc.1 rfl rfl rfl (Nat.le_of_ble_eq_true rfl) hf ?_
  rintro _ M2 ⟨rfl, u1, u2, u3⟩
  obtain ⟨hc2, hf2⟩ := CI_f hc u1 u2 u3
  refine g_st (st2 := [.int _]) rfl ?_
  have hr2 := RX_fr hf2 hr
  obtain ⟨q, ri, r35, r36, ⟨tp, r47, rtp⟩, ⟨nw, nb, r48, r49, rwb⟩, ⟨wk, r50⟩, ⟨dp, r51⟩⟩ := id hr2
  refine g_aload_n E (pn := 909) dL_law_908 rfl rfl ?_
  refine g_aload_n E (pn := 910) dL_law_909 rfl rfl ?_
  refine g_iload_n E (pn := 911) dL_law_910 rfl rfl ?_
  refine g_iconst E (pn := 912) (nI 1) dL_law_911 rfl (by decide) ?_
  refine g_iadd E (pn := 913) dL_law_912 rfl ?_
  refine g_topi (nI (6 * cc + 1)) (nI_add _ _) ?_
  refine g_sld E hX hbl hbA (by omega) (show 6 * cc + 1 < L by omega) (pn := 914) dL_law_913 rfl ?_
  refine g_conV (kc := 34) (ci := 7) (fs := oMod g (qN q ni ng)) [.int (xs (6 * cc + 1))] E hJ (con_X8_first ri r35 r36 ho.1) dL_law_914 (pn := 917) rfl cal_X8_first ml_L_107 ⟨(Nat.le_of_ble_eq_true rfl), (Nat.le_of_ble_eq_true rfl)⟩ rfl (by decide) ri.1 rfl rfl rfl (Nat.le_of_ble_eq_true rfl) hf ?_
  rintro _ M3 ⟨rfl, hg3⟩
  have hO := RX_rP hg3 r35 r36 ⟨tp, r47, rtp⟩ ⟨nw, nb, r48, r49, rwb⟩ ⟨wk, r50⟩ ⟨dp, r51⟩
  obtain ⟨⟨m2, hm2, hr3⟩, hf3⟩ := hO
  have hc3 := CI_fr hf3 hc2
  refine g_st (st2 := [.int _, .int _]) rfl ?_
  refine g_same E 1152 dL_law_917 (by decide) ?_
  exact kc _ sn sT ni ng W B P m2 hc3 hr3 ho (by omega)
set_option maxRecDepth 100000 in
theorem law_21 (E : gE g RL code 4 p s m #[.ref b] c A) (hJ : jS g A s) (hX : va_X b L xs s s.heap) (hbl : b < s.heap.size) (hbA : ¬ A b) (hL : L ≤ 3072) (h6 : 6 * cc + 6 ≤ L) (hf : k ≤ room_1.cells ∧ n ≤ room_1.slots) (kc : lCont g p e s m below meth c A Q b cc k n) {M : jMem} {sn sT : Nat → Nat} {ni ng : Nat} {W : Nat → Nat → Int} {B P : Nat → Int} {mm : Nat} (hc : CI g M sn sT ni ng W B P) (hr : RX g M sn sT ni ng W B P mm) (ho : SO sn sT ni ng W B P) (hm : mm ≤ 256 * cc) : GJ g 4 p e room_1 s m #[.ref b] below meth c A Q 922 [some (.ref b), some (.ref (jA g 0)), some (.ref (jA g 34)), some (.int (nI (6 * cc)))] [] (jW g M) k n := by
  refine g_aload_n E (pn := 923) dL_law_922 rfl rfl ?_
  refine g_aload_n E (pn := 924) dL_law_923 rfl rfl ?_
  refine g_iload_n E (pn := 925) dL_law_924 rfl rfl ?_
  refine g_iconst E (pn := 926) (nI 1) dL_law_925 rfl (by decide) ?_
  refine g_iadd E (pn := 927) dL_law_926 rfl ?_
  refine g_topi (nI (6 * cc + 1)) (nI_add _ _) ?_
  refine g_sld E hX hbl hbA (by omega) (show 6 * cc + 1 < L by omega) (pn := 928) dL_law_927 rfl ?_
  refine g_conV (kc := 0) (ci := 6) (fs := oX g) [.int (xs (6 * cc + 1))] E hJ (con_X7_net hc.1 hc.2.2.2.2.2.2.2) dL_law_928 (pn := 931) rfl cal_X7_net ml_L_108 ⟨(Nat.le_of_ble_eq_true rfl), (Nat.le_of_ble_eq_true rfl)⟩ rfl (by decide) hc.1 rfl rfl rfl (Nat.le_of_ble_eq_true rfl) hf ?_
  rintro _ M2 ⟨rfl, u2, hor⟩
  refine g_st (st2 := [.int _]) rfl ?_
  rcases hor with ⟨v1, u1⟩ | ⟨v1, u1⟩
  · obtain ⟨hc2, hf2⟩ := CI_n hc u1 u2
    have hr2 := RX_fr hf2 hr
    obtain ⟨q, ri, r35, r36, ⟨tp, r47, rtp⟩, ⟨nw, nb, r48, r49, rwb⟩, ⟨wk, r50⟩, ⟨dp, r51⟩⟩ := id hr2
    refine g_aload_n E (pn := 932) dL_law_931 rfl rfl ?_
    refine g_aload_n E (pn := 933) dL_law_932 rfl rfl ?_
    refine g_iload_n E (pn := 934) dL_law_933 rfl rfl ?_
    refine g_iconst E (pn := 935) (nI 1) dL_law_934 rfl (by decide) ?_
    refine g_iadd E (pn := 936) dL_law_935 rfl ?_
    refine g_topi (nI (6 * cc + 1)) (nI_add _ _) ?_
    refine g_sld E hX hbl hbA (by omega) (show 6 * cc + 1 < L by omega) (pn := 937) dL_law_936 rfl ?_
    refine g_conV (kc := 34) (ci := 7) (fs := oMod g (qN q ni ng)) [.int (xs (6 * cc + 1))] E hJ (con_X8_net ri.1 r47) dL_law_937 (pn := 940) rfl cal_X8_net ml_L_111 ⟨(Nat.le_of_ble_eq_true rfl), (Nat.le_of_ble_eq_true rfl)⟩ rfl (by decide) ri.1 rfl rfl rfl (Nat.le_of_ble_eq_true rfl) hf ?_
    rintro _ M3 ⟨rfl, hor3⟩
    rcases hor3 with ⟨v3, rfl⟩ | ⟨v3, tp2, rfl, ht2⟩
    · have hO := RX_rf hr2
      obtain ⟨⟨m2, hm2, hr3⟩, hf3⟩ := hO
      have hc3 := CI_fr hf3 hc2
      refine g_st (st2 := [.int _, .int _]) rfl ?_
      refine g_same E 1152 dL_law_940 (by decide) ?_
      exact kc _ sn sT ni ng W B P m2 hc3 hr3 ho (by omega)
    · rw [v1] at v3; cases v3
  · obtain ⟨hc2, hf2⟩ := CI_n hc u1 u2
    have hr2 := RX_fr hf2 hr
    obtain ⟨q, ri, r35, r36, ⟨tp, r47, rtp⟩, ⟨nw, nb, r48, r49, rwb⟩, ⟨wk, r50⟩, ⟨dp, r51⟩⟩ := id hr2
    refine g_aload_n E (pn := 932) dL_law_931 rfl rfl ?_
    refine g_aload_n E (pn := 933) dL_law_932 rfl rfl ?_
    refine g_iload_n E (pn := 934) dL_law_933 rfl rfl ?_
    refine g_iconst E (pn := 935) (nI 1) dL_law_934 rfl (by decide) ?_
    refine g_iadd E (pn := 936) dL_law_935 rfl ?_
    refine g_topi (nI (6 * cc + 1)) (nI_add _ _) ?_
    refine g_sld E hX hbl hbA (by omega) (show 6 * cc + 1 < L by omega) (pn := 937) dL_law_936 rfl ?_
    refine g_conV (kc := 34) (ci := 7) (fs := oMod g (qN q ni ng)) [.int (xs (6 * cc + 1))] E hJ (con_X8_net ri.1 r47) dL_law_937 (pn := 940) rfl cal_X8_net ml_L_111 ⟨(Nat.le_of_ble_eq_true rfl), (Nat.le_of_ble_eq_true rfl)⟩ rfl (by decide) ri.1 rfl rfl rfl (Nat.le_of_ble_eq_true rfl) hf ?_
    rintro _ M3 ⟨rfl, hor3⟩
    rcases hor3 with ⟨v3, rfl⟩ | ⟨v3, tp2, rfl, ht2⟩
    · rw [v1] at v3; cases v3
    · have hO := RX_net (n2 := (xs (6 * cc + 1)).toNatClampNeg) ri r35 r36 ⟨nw, nb, r48, r49, rwb⟩ ⟨wk, r50⟩ ⟨dp, r51⟩ ht2
      obtain ⟨⟨m2, hm2, hr3⟩, hf3⟩ := hO
      have hc3 := CI_fr hf3 hc2
      refine g_st (st2 := [.int _, .int _]) rfl ?_
      refine g_same E 1152 dL_law_940 (by decide) ?_
      exact kc _ sn sT (xs (6 * cc + 1)).toNatClampNeg 0 W B (fun _ => 0) m2 hc3 hr3 ⟨ho.1, nOK_net ho.2 v1⟩ (by omega)
set_option maxRecDepth 100000 in
theorem law_22 (E : gE g RL code 4 p s m #[.ref b] c A) (hJ : jS g A s) (hX : va_X b L xs s s.heap) (hbl : b < s.heap.size) (hbA : ¬ A b) (hL : L ≤ 3072) (h6 : 6 * cc + 6 ≤ L) (hf : k ≤ room_1.cells ∧ n ≤ room_1.slots) (kc : lCont g p e s m below meth c A Q b cc k n) {M : jMem} {sn sT : Nat → Nat} {ni ng : Nat} {W : Nat → Nat → Int} {B P : Nat → Int} {mm : Nat} (hc : CI g M sn sT ni ng W B P) (hr : RX g M sn sT ni ng W B P mm) (ho : SO sn sT ni ng W B P) (hm : mm ≤ 256 * cc) : GJ g 4 p e room_1 s m #[.ref b] below meth c A Q 945 [some (.ref b), some (.ref (jA g 0)), some (.ref (jA g 34)), some (.int (nI (6 * cc)))] [] (jW g M) k n := by
  refine g_aload_n E (pn := 946) dL_law_945 rfl rfl ?_
  refine g_aload_n E (pn := 947) dL_law_946 rfl rfl ?_
  refine g_iload_n E (pn := 948) dL_law_947 rfl rfl ?_
  refine g_iconst E (pn := 949) (nI 1) dL_law_948 rfl (by decide) ?_
  refine g_iadd E (pn := 950) dL_law_949 rfl ?_
  refine g_topi (nI (6 * cc + 1)) (nI_add _ _) ?_
  refine g_sld E hX hbl hbA (by omega) (show 6 * cc + 1 < L by omega) (pn := 951) dL_law_950 rfl ?_
  refine g_aload_n E (pn := 952) dL_law_951 rfl rfl ?_
  refine g_iload_n E (pn := 953) dL_law_952 rfl rfl ?_
  refine g_iconst E (pn := 954) (nI 2) dL_law_953 rfl (by decide) ?_
  refine g_iadd E (pn := 955) dL_law_954 rfl ?_
  refine g_topi (nI (6 * cc + 2)) (nI_add _ _) ?_
  refine g_sld E hX hbl hbA (by omega) (show 6 * cc + 2 < L by omega) (pn := 956) dL_law_955 rfl ?_
  refine g_conV (kc := 0) (ci := 6) (fs := oX g) [.int (xs (6 * cc + 1)), .int (xs (6 * cc + 2))] E hJ (con_X7_put hc.1 hc.2.2.2.2.2.2.2 ho.2) dL_law_956 (pn := 959) rfl cal_X7_put ml_L_112 ⟨(Nat.le_of_ble_eq_true rfl), (Nat.le_of_ble_eq_true rfl)⟩ rfl (by decide) hc.1 rfl rfl rfl (Nat.le_of_ble_eq_true rfl) hf ?_
  rintro _ M2 ⟨rfl, u2, hor⟩
  refine g_st (st2 := [.int _]) rfl ?_
  rcases hor with ⟨v1, u1⟩ | ⟨v1, u1⟩
  · obtain ⟨hc2, hf2⟩ := CI_n hc u1 u2
    have hr2 := RX_fr hf2 hr
    obtain ⟨q, ri, r35, r36, ⟨tp, r47, rtp⟩, ⟨nw, nb, r48, r49, rwb⟩, ⟨wk, r50⟩, ⟨dp, r51⟩⟩ := id hr2
    refine g_aload_n E (pn := 960) dL_law_959 rfl rfl ?_
    refine g_aload_n E (pn := 961) dL_law_960 rfl rfl ?_
    refine g_iload_n E (pn := 962) dL_law_961 rfl rfl ?_
    refine g_iconst E (pn := 963) (nI 1) dL_law_962 rfl (by decide) ?_
    refine g_iadd E (pn := 964) dL_law_963 rfl ?_
    refine g_topi (nI (6 * cc + 1)) (nI_add _ _) ?_
    refine g_sld E hX hbl hbA (by omega) (show 6 * cc + 1 < L by omega) (pn := 965) dL_law_964 rfl ?_
    refine g_aload_n E (pn := 966) dL_law_965 rfl rfl ?_
    refine g_iload_n E (pn := 967) dL_law_966 rfl rfl ?_
    refine g_iconst E (pn := 968) (nI 2) dL_law_967 rfl (by decide) ?_
    refine g_iadd E (pn := 969) dL_law_968 rfl ?_
    refine g_topi (nI (6 * cc + 2)) (nI_add _ _) ?_
    refine g_sld E hX hbl hbA (by omega) (show 6 * cc + 2 < L by omega) (pn := 970) dL_law_969 rfl ?_
    refine g_conV (kc := 34) (ci := 7) (fs := oMod g (qN q ni ng)) [.int (xs (6 * cc + 1)), .int (xs (6 * cc + 2))] E hJ (con_X8_put ri.1 r47 ho.2.1.2.1 ho.2.1.2.2 rtp) dL_law_970 (pn := 973) rfl cal_X8_put ml_L_115 ⟨(Nat.le_of_ble_eq_true rfl), (Nat.le_of_ble_eq_true rfl)⟩ rfl (by decide) ri.1 rfl rfl rfl (Nat.le_of_ble_eq_true rfl) hf ?_
    rintro _ M3 ⟨rfl, hor3⟩
    rcases hor3 with ⟨v3, rfl⟩ | ⟨v3, rfl⟩
    · have hO := RX_rf hr2
      obtain ⟨⟨m2, hm2, hr3⟩, hf3⟩ := hO
      have hc3 := CI_fr hf3 hc2
      refine g_st (st2 := [.int _, .int _]) rfl ?_
      refine g_same E 1152 dL_law_973 (by decide) ?_
      exact kc _ sn sT ni ng W B P m2 hc3 hr3 ho (by omega)
    · rw [v1] at v3; cases v3
  · obtain ⟨hc2, hf2⟩ := CI_n hc u1 u2
    have hr2 := RX_fr hf2 hr
    obtain ⟨q, ri, r35, r36, ⟨tp, r47, rtp⟩, ⟨nw, nb, r48, r49, rwb⟩, ⟨wk, r50⟩, ⟨dp, r51⟩⟩ := id hr2
    refine g_aload_n E (pn := 960) dL_law_959 rfl rfl ?_
    refine g_aload_n E (pn := 961) dL_law_960 rfl rfl ?_
    refine g_iload_n E (pn := 962) dL_law_961 rfl rfl ?_
    refine g_iconst E (pn := 963) (nI 1) dL_law_962 rfl (by decide) ?_
    refine g_iadd E (pn := 964) dL_law_963 rfl ?_
    refine g_topi (nI (6 * cc + 1)) (nI_add _ _) ?_
    refine g_sld E hX hbl hbA (by omega) (show 6 * cc + 1 < L by omega) (pn := 965) dL_law_964 rfl ?_
    refine g_aload_n E (pn := 966) dL_law_965 rfl rfl ?_
    refine g_iload_n E (pn := 967) dL_law_966 rfl rfl ?_
    refine g_iconst E (pn := 968) (nI 2) dL_law_967 rfl (by decide) ?_
    refine g_iadd E (pn := 969) dL_law_968 rfl ?_
    refine g_topi (nI (6 * cc + 2)) (nI_add _ _) ?_
    refine g_sld E hX hbl hbA (by omega) (show 6 * cc + 2 < L by omega) (pn := 970) dL_law_969 rfl ?_
    refine g_conV (kc := 34) (ci := 7) (fs := oMod g (qN q ni ng)) [.int (xs (6 * cc + 1)), .int (xs (6 * cc + 2))] E hJ (con_X8_put ri.1 r47 ho.2.1.2.1 ho.2.1.2.2 rtp) dL_law_970 (pn := 973) rfl cal_X8_put ml_L_115 ⟨(Nat.le_of_ble_eq_true rfl), (Nat.le_of_ble_eq_true rfl)⟩ rfl (by decide) ri.1 rfl rfl rfl (Nat.le_of_ble_eq_true rfl) hf ?_
    rintro _ M3 ⟨rfl, hor3⟩
    rcases hor3 with ⟨v3, rfl⟩ | ⟨v3, rfl⟩
    · rw [v1] at v3; cases v3
    · have hO := RX_put (o := (xs (6 * cc + 1)).toNatClampNeg) (w := xs (6 * cc + 2)) ri r35 r36 rtp ⟨nw, nb, r48, r49, rwb⟩ ⟨wk, r50⟩ ⟨dp, r51⟩
      obtain ⟨⟨m2, hm2, hr3⟩, hf3⟩ := hO
      have hc3 := CI_fr hf3 hc2
      refine g_st (st2 := [.int _, .int _]) rfl ?_
      refine g_same E 1152 dL_law_973 (by decide) ?_
      exact kc _ sn sT ni ng W B (fun j => if j = (xs (6 * cc + 1)).toNatClampNeg then (xs (6 * cc + 2)).toInt else P j) m2 hc3 hr3 ⟨ho.1, nOK_put ho.2 (Bool.and_eq_true_iff.mp v1).2⟩ (by omega)
set_option maxRecDepth 100000 in
theorem law_23 (E : gE g RL code 4 p s m #[.ref b] c A) (hJ : jS g A s) (hX : va_X b L xs s s.heap) (hbl : b < s.heap.size) (hbA : ¬ A b) (hL : L ≤ 3072) (h6 : 6 * cc + 6 ≤ L) (hf : k ≤ room_1.cells ∧ n ≤ room_1.slots) (kc : lCont g p e s m below meth c A Q b cc k n) {M : jMem} {sn sT : Nat → Nat} {ni ng : Nat} {W : Nat → Nat → Int} {B P : Nat → Int} {mm : Nat} (hc : CI g M sn sT ni ng W B P) (hr : RX g M sn sT ni ng W B P mm) (ho : SO sn sT ni ng W B P) (hm : mm ≤ 256 * cc) : GJ g 4 p e room_1 s m #[.ref b] below meth c A Q 978 [some (.ref b), some (.ref (jA g 0)), some (.ref (jA g 34)), some (.int (nI (6 * cc)))] [] (jW g M) k n := by
  refine g_aload_n E (pn := 979) dL_law_978 rfl rfl ?_
  refine g_aload_n E (pn := 980) dL_law_979 rfl rfl ?_
  refine g_iload_n E (pn := 981) dL_law_980 rfl rfl ?_
  refine g_iconst E (pn := 982) (nI 1) dL_law_981 rfl (by decide) ?_
  refine g_iadd E (pn := 983) dL_law_982 rfl ?_
  refine g_topi (nI (6 * cc + 1)) (nI_add _ _) ?_
  refine g_sld E hX hbl hbA (by omega) (show 6 * cc + 1 < L by omega) (pn := 984) dL_law_983 rfl ?_
  refine g_conV (kc := 0) (ci := 6) (fs := oX g) [.int (xs (6 * cc + 1))] E hJ (con_X7_add hc.1 hc.2.2.2.2.2.2.2 ho.2) dL_law_984 (pn := 987) rfl cal_X7_add ml_L_116 ⟨(Nat.le_of_ble_eq_true rfl), (Nat.le_of_ble_eq_true rfl)⟩ rfl (by decide) hc.1 rfl rfl rfl (Nat.le_of_ble_eq_true rfl) hf ?_
  rintro _ M2 ⟨rfl, u2, hor⟩
  refine g_st (st2 := [.int _]) rfl ?_
  rcases hor with ⟨v1, u1⟩ | ⟨v1, u1⟩
  · obtain ⟨hc2, hf2⟩ := CI_n hc u1 u2
    have hr2 := RX_fr hf2 hr
    obtain ⟨q, ri, r35, r36, ⟨tp, r47, rtp⟩, ⟨nw, nb, r48, r49, rwb⟩, ⟨wk, r50⟩, ⟨dp, r51⟩⟩ := id hr2
    refine g_aload_n E (pn := 988) dL_law_987 rfl rfl ?_
    refine g_aload_n E (pn := 989) dL_law_988 rfl rfl ?_
    refine g_iload_n E (pn := 990) dL_law_989 rfl rfl ?_
    refine g_iconst E (pn := 991) (nI 1) dL_law_990 rfl (by decide) ?_
    refine g_iadd E (pn := 992) dL_law_991 rfl ?_
    refine g_topi (nI (6 * cc + 1)) (nI_add _ _) ?_
    refine g_sld E hX hbl hbA (by omega) (show 6 * cc + 1 < L by omega) (pn := 993) dL_law_992 rfl ?_
    refine g_conV (kc := 34) (ci := 7) (fs := oMod g (qN q ni ng)) [.int (xs (6 * cc + 1))] E hJ (con_X8_add ri.1 r47 r48 r49 ho.2.1.2.2) dL_law_993 (pn := 996) rfl cal_X8_add ml_L_119 ⟨(Nat.le_of_ble_eq_true rfl), (Nat.le_of_ble_eq_true rfl)⟩ rfl (by decide) ri.1 rfl rfl rfl (Nat.le_of_ble_eq_true rfl) hf ?_
    rintro _ M3 ⟨rfl, hor3⟩
    rcases hor3 with ⟨v3, rfl⟩ | ⟨v3, tp2, nw2, rfl, w1, w2, w3⟩
    · have hO := RX_rf hr2
      obtain ⟨⟨m2, hm2, hr3⟩, hf3⟩ := hO
      have hc3 := CI_fr hf3 hc2
      refine g_st (st2 := [.int _, .int _]) rfl ?_
      refine g_same E 1152 dL_law_996 (by decide) ?_
      exact kc _ sn sT ni ng W B P m2 hc3 hr3 ho (by omega)
    · rcases v1 with v1 | v1
      · rw [v1] at v3; cases v3.1
      · omega
  · obtain ⟨hc2, hf2⟩ := CI_n hc u1 u2
    have hr2 := RX_fr hf2 hr
    obtain ⟨q, ri, r35, r36, ⟨tp, r47, rtp⟩, ⟨nw, nb, r48, r49, rwb⟩, ⟨wk, r50⟩, ⟨dp, r51⟩⟩ := id hr2
    refine g_aload_n E (pn := 988) dL_law_987 rfl rfl ?_
    refine g_aload_n E (pn := 989) dL_law_988 rfl rfl ?_
    refine g_iload_n E (pn := 990) dL_law_989 rfl rfl ?_
    refine g_iconst E (pn := 991) (nI 1) dL_law_990 rfl (by decide) ?_
    refine g_iadd E (pn := 992) dL_law_991 rfl ?_
    refine g_topi (nI (6 * cc + 1)) (nI_add _ _) ?_
    refine g_sld E hX hbl hbA (by omega) (show 6 * cc + 1 < L by omega) (pn := 993) dL_law_992 rfl ?_
    refine g_conV (kc := 34) (ci := 7) (fs := oMod g (qN q ni ng)) [.int (xs (6 * cc + 1))] E hJ (con_X8_add ri.1 r47 r48 r49 ho.2.1.2.2) dL_law_993 (pn := 996) rfl cal_X8_add ml_L_119 ⟨(Nat.le_of_ble_eq_true rfl), (Nat.le_of_ble_eq_true rfl)⟩ rfl (by decide) ri.1 rfl rfl rfl (Nat.le_of_ble_eq_true rfl) hf ?_
    rintro _ M3 ⟨rfl, hor3⟩
    rcases hor3 with ⟨v3, rfl⟩ | ⟨v3, tp2, nw2, rfl, w1, w2, w3⟩
    · rcases v3 with v3 | v3
      · rw [v1.1] at v3; cases v3
      · omega
    · have hO := RX_add (b := xs (6 * cc + 1)) ri r35 r36 rtp ho.2.2.2.2 (isW_rg (by omega) v1.1) rwb ⟨wk, r50⟩ ⟨dp, r51⟩ w1 w2 w3
      obtain ⟨⟨m2, hm2, hr3⟩, hf3⟩ := hO
      have hc3 := CI_fr hf3 hc2
      refine g_st (st2 := [.int _, .int _]) rfl ?_
      refine g_same E 1152 dL_law_996 (by decide) ?_
      exact kc _ sn sT ni (ng + 1) (fun o => if o = ng then P else W o) (fun o => if o = ng then (xs (6 * cc + 1)).toInt else B o) (fun _ => 0) m2 hc3 hr3 ⟨ho.1, nOK_add ho.2 v1.1 v1.2⟩ (by omega)
set_option maxRecDepth 100000 in
theorem law_24 (E : gE g RL code 4 p s m #[.ref b] c A) (hJ : jS g A s) (hX : va_X b L xs s s.heap) (hbl : b < s.heap.size) (hbA : ¬ A b) (hL : L ≤ 3072) (h6 : 6 * cc + 6 ≤ L) (hf : k ≤ room_1.cells ∧ n ≤ room_1.slots) (kc : lCont g p e s m below meth c A Q b cc k n) {M : jMem} {sn sT : Nat → Nat} {ni ng : Nat} {W : Nat → Nat → Int} {B P : Nat → Int} {mm : Nat} (hc : CI g M sn sT ni ng W B P) (hr : RX g M sn sT ni ng W B P mm) (ho : SO sn sT ni ng W B P) (hm : mm ≤ 256 * cc) : GJ g 4 p e room_1 s m #[.ref b] below meth c A Q 1001 [some (.ref b), some (.ref (jA g 0)), some (.ref (jA g 34)), some (.int (nI (6 * cc)))] [] (jW g M) k n := by
  refine g_aload_n E (pn := 1002) dL_law_1001 rfl rfl ?_
  refine g_aload_n E (pn := 1003) dL_law_1002 rfl rfl ?_
  refine g_iload_n E (pn := 1004) dL_law_1003 rfl rfl ?_
  refine g_iconst E (pn := 1005) (nI 1) dL_law_1004 rfl (by decide) ?_
  refine g_iadd E (pn := 1006) dL_law_1005 rfl ?_
  refine g_topi (nI (6 * cc + 1)) (nI_add _ _) ?_
  refine g_sld E hX hbl hbA (by omega) (show 6 * cc + 1 < L by omega) (pn := 1007) dL_law_1006 rfl ?_
  refine g_aload_n E (pn := 1008) dL_law_1007 rfl rfl ?_
  refine g_iload_n E (pn := 1009) dL_law_1008 rfl rfl ?_
  refine g_iconst E (pn := 1010) (nI 2) dL_law_1009 rfl (by decide) ?_
  refine g_iadd E (pn := 1011) dL_law_1010 rfl ?_
  refine g_topi (nI (6 * cc + 2)) (nI_add _ _) ?_
  refine g_sld E hX hbl hbA (by omega) (show 6 * cc + 2 < L by omega) (pn := 1012) dL_law_1011 rfl ?_
  refine g_conV (kc := 0) (ci := 6) (fs := oX g) [.int (xs (6 * cc + 1)), .int (xs (6 * cc + 2))] E hJ (con_X7_tell hc.1 hc.2.1 hc.2.2.1 hc.2.2.2.2.2.2.2 ho.2) dL_law_1012 (pn := 1015) rfl cal_X7_tell ml_L_120 ⟨(Nat.le_of_ble_eq_true rfl), (Nat.le_of_ble_eq_true rfl)⟩ rfl (by decide) hc.1 rfl rfl rfl (Nat.le_of_ble_eq_true rfl) hf ?_
  rintro _ M2 ⟨rfl, rfl⟩
  obtain ⟨hc2, hf2⟩ := CI_set (sn2 := (sp_tell sn sT ni ng W B (xs (6 * cc + 1)) (xs (6 * cc + 2))).2.1) (sT2 := (sp_tell sn sT ni ng W B (xs (6 * cc + 1)) (xs (6 * cc + 2))).2.2) hc
  refine g_st (st2 := [.int _]) rfl ?_
  have hr2 := RX_fr hf2 hr
  obtain ⟨q, ri, r35, r36, ⟨tp, r47, rtp⟩, ⟨nw, nb, r48, r49, rwb⟩, ⟨wk, r50⟩, ⟨dp, r51⟩⟩ := id hr2
  refine g_aload_n E (pn := 1016) dL_law_1015 rfl rfl ?_
  refine g_aload_n E (pn := 1017) dL_law_1016 rfl rfl ?_
  refine g_iload_n E (pn := 1018) dL_law_1017 rfl rfl ?_
  refine g_iconst E (pn := 1019) (nI 1) dL_law_1018 rfl (by decide) ?_
  refine g_iadd E (pn := 1020) dL_law_1019 rfl ?_
  refine g_topi (nI (6 * cc + 1)) (nI_add _ _) ?_
  refine g_sld E hX hbl hbA (by omega) (show 6 * cc + 1 < L by omega) (pn := 1021) dL_law_1020 rfl ?_
  refine g_aload_n E (pn := 1022) dL_law_1021 rfl rfl ?_
  refine g_iload_n E (pn := 1023) dL_law_1022 rfl rfl ?_
  refine g_iconst E (pn := 1024) (nI 2) dL_law_1023 rfl (by decide) ?_
  refine g_iadd E (pn := 1025) dL_law_1024 rfl ?_
  refine g_topi (nI (6 * cc + 2)) (nI_add _ _) ?_
  refine g_sld E hX hbl hbA (by omega) (show 6 * cc + 2 < L by omega) (pn := 1026) dL_law_1025 rfl ?_
  refine g_conV (kc := 34) (ci := 7) (fs := oMod g (qN q ni ng)) [.int (xs (6 * cc + 1)), .int (xs (6 * cc + 2))] E hJ (con_X8_tell ri.1 r35 r36 r50 r48 r49 ho.2.1.2.1 ho.2.1.2.2 rwb) dL_law_1026 (pn := 1029) rfl cal_X8_tell ml_L_123 ⟨(Nat.le_of_ble_eq_true rfl), (Nat.le_of_ble_eq_true rfl)⟩ rfl (by decide) ri.1 rfl rfl rfl (Nat.le_of_ble_eq_true rfl) hf ?_
  rintro _ M3 ⟨rfl, wk2, rfl⟩
  have hO := RX_tell (wk2 := wk2) (sn2 := (sp_tell sn sT ni ng W B (xs (6 * cc + 1)) (xs (6 * cc + 2))).2.1) (sT2 := (sp_tell sn sT ni ng W B (xs (6 * cc + 1)) (xs (6 * cc + 2))).2.2) hr2
  obtain ⟨⟨m2, hm2, hr3⟩, hf3⟩ := hO
  have hc3 := CI_fr hf3 hc2
  refine g_st (st2 := [.int _, .int _]) rfl ?_
  refine g_same E 1152 dL_law_1029 (by decide) ?_
  exact kc _ (sp_tell sn sT ni ng W B (xs (6 * cc + 1)) (xs (6 * cc + 2))).2.1 (sp_tell sn sT ni ng W B (xs (6 * cc + 1)) (xs (6 * cc + 2))).2.2 ni ng W B P m2 hc3 hr3 ⟨sl_tell ho.1 ho.2 _ _, ho.2⟩ (by omega)
set_option maxRecDepth 100000 in
theorem law_25 (E : gE g RL code 4 p s m #[.ref b] c A) (hJ : jS g A s) (hX : va_X b L xs s s.heap) (hbl : b < s.heap.size) (hbA : ¬ A b) (hL : L ≤ 3072) (h6 : 6 * cc + 6 ≤ L) (hf : k ≤ room_1.cells ∧ n ≤ room_1.slots) (kc : lCont g p e s m below meth c A Q b cc k n) {M : jMem} {sn sT : Nat → Nat} {ni ng : Nat} {W : Nat → Nat → Int} {B P : Nat → Int} {mm : Nat} (hc : CI g M sn sT ni ng W B P) (hr : RX g M sn sT ni ng W B P mm) (ho : SO sn sT ni ng W B P) (hm : mm ≤ 256 * cc) : GJ g 4 p e room_1 s m #[.ref b] below meth c A Q 1034 [some (.ref b), some (.ref (jA g 0)), some (.ref (jA g 34)), some (.int (nI (6 * cc)))] [] (jW g M) k n := by
  refine g_aload_n E (pn := 1035) dL_law_1034 rfl rfl ?_
  refine g_aload_n E (pn := 1036) dL_law_1035 rfl rfl ?_
  refine g_iload_n E (pn := 1037) dL_law_1036 rfl rfl ?_
  refine g_iconst E (pn := 1038) (nI 1) dL_law_1037 rfl (by decide) ?_
  refine g_iadd E (pn := 1039) dL_law_1038 rfl ?_
  refine g_topi (nI (6 * cc + 1)) (nI_add _ _) ?_
  refine g_sld E hX hbl hbA (by omega) (show 6 * cc + 1 < L by omega) (pn := 1040) dL_law_1039 rfl ?_
  refine g_conV (kc := 0) (ci := 6) (fs := oX g) [.int (xs (6 * cc + 1))] E hJ (con_X7_unlike hc.1 hc.2.1 hc.2.2.1 ho.1 hc.2.2.2.2.2.2.2 ho.2) dL_law_1040 (pn := 1043) rfl cal_X7_unlike ml_L_124 ⟨(Nat.le_of_ble_eq_true rfl), (Nat.le_of_ble_eq_true rfl)⟩ rfl (by decide) hc.1 rfl rfl rfl (Nat.le_of_ble_eq_true rfl) hf ?_
  rintro _ M2 ⟨rfl, rfl⟩
  have hc2 := hc
  have hf2 : ∀ j, 34 ≤ j → M2 j = M2 j := fun _ _ => rfl
  refine g_st (st2 := [.int _]) rfl ?_
  have hr2 := RX_fr hf2 hr
  obtain ⟨q, ri, r35, r36, ⟨tp, r47, rtp⟩, ⟨nw, nb, r48, r49, rwb⟩, ⟨wk, r50⟩, ⟨dp, r51⟩⟩ := id hr2
  refine g_aload_n E (pn := 1044) dL_law_1043 rfl rfl ?_
  refine g_aload_n E (pn := 1045) dL_law_1044 rfl rfl ?_
  refine g_iload_n E (pn := 1046) dL_law_1045 rfl rfl ?_
  refine g_iconst E (pn := 1047) (nI 1) dL_law_1046 rfl (by decide) ?_
  refine g_iadd E (pn := 1048) dL_law_1047 rfl ?_
  refine g_topi (nI (6 * cc + 1)) (nI_add _ _) ?_
  refine g_sld E hX hbl hbA (by omega) (show 6 * cc + 1 < L by omega) (pn := 1049) dL_law_1048 rfl ?_
  refine g_conV (kc := 34) (ci := 7) (fs := oMod g (qN q ni ng)) [.int (xs (6 * cc + 1))] E hJ (con_X8_unlike ri.1 r35 r36 ho.1 r50 r48 r49 ho.2.1.2.1 ho.2.1.2.2 rwb) dL_law_1049 (pn := 1052) rfl cal_X8_unlike ml_L_127 ⟨(Nat.le_of_ble_eq_true rfl), (Nat.le_of_ble_eq_true rfl)⟩ rfl (by decide) ri.1 rfl rfl rfl (Nat.le_of_ble_eq_true rfl) hf ?_
  rintro _ M3 ⟨rfl, wk2, rfl⟩
  have hO := RX_50 (wk2 := wk2) hr2
  obtain ⟨⟨m2, hm2, hr3⟩, hf3⟩ := hO
  have hc3 := CI_fr hf3 hc2
  refine g_st (st2 := [.int _, .int _]) rfl ?_
  refine g_same E 1152 dL_law_1052 (by decide) ?_
  exact kc _ sn sT ni ng W B P m2 hc3 hr3 ho (by omega)
set_option maxRecDepth 100000 in
theorem law_26 (E : gE g RL code 4 p s m #[.ref b] c A) (hJ : jS g A s) (hX : va_X b L xs s s.heap) (hbl : b < s.heap.size) (hbA : ¬ A b) (hL : L ≤ 3072) (h6 : 6 * cc + 6 ≤ L) (hf : k ≤ room_1.cells ∧ n ≤ room_1.slots) (kc : lCont g p e s m below meth c A Q b cc k n) {M : jMem} {sn sT : Nat → Nat} {ni ng : Nat} {W : Nat → Nat → Int} {B P : Nat → Int} {mm : Nat} (hc : CI g M sn sT ni ng W B P) (hr : RX g M sn sT ni ng W B P mm) (ho : SO sn sT ni ng W B P) (hm : mm ≤ 256 * cc) : GJ g 4 p e room_1 s m #[.ref b] below meth c A Q 1057 [some (.ref b), some (.ref (jA g 0)), some (.ref (jA g 34)), some (.int (nI (6 * cc)))] [] (jW g M) k n := by
  refine g_aload_n E (pn := 1058) dL_law_1057 rfl rfl ?_
  refine g_aload_n E (pn := 1059) dL_law_1058 rfl rfl ?_
  refine g_iload_n E (pn := 1060) dL_law_1059 rfl rfl ?_
  refine g_iconst E (pn := 1061) (nI 1) dL_law_1060 rfl (by decide) ?_
  refine g_iadd E (pn := 1062) dL_law_1061 rfl ?_
  refine g_topi (nI (6 * cc + 1)) (nI_add _ _) ?_
  refine g_sld E hX hbl hbA (by omega) (show 6 * cc + 1 < L by omega) (pn := 1063) dL_law_1062 rfl ?_
  refine g_conV (kc := 0) (ci := 6) (fs := oX g) [.int (xs (6 * cc + 1))] E hJ (con_X7_depth hc.1 hc.2.2.2.2.2.2.2 ho.2) dL_law_1063 (pn := 1066) rfl cal_X7_depth ml_L_128 ⟨(Nat.le_of_ble_eq_true rfl), (Nat.le_of_ble_eq_true rfl)⟩ rfl (by decide) hc.1 rfl rfl rfl (Nat.le_of_ble_eq_true rfl) hf ?_
  rintro _ M2 ⟨rfl, rfl⟩
  have hc2 := hc
  have hf2 : ∀ j, 34 ≤ j → M2 j = M2 j := fun _ _ => rfl
  refine g_st (st2 := [.int _]) rfl ?_
  have hr2 := RX_fr hf2 hr
  obtain ⟨q, ri, r35, r36, ⟨tp, r47, rtp⟩, ⟨nw, nb, r48, r49, rwb⟩, ⟨wk, r50⟩, ⟨dp, r51⟩⟩ := id hr2
  refine g_aload_n E (pn := 1067) dL_law_1066 rfl rfl ?_
  refine g_aload_n E (pn := 1068) dL_law_1067 rfl rfl ?_
  refine g_iload_n E (pn := 1069) dL_law_1068 rfl rfl ?_
  refine g_iconst E (pn := 1070) (nI 1) dL_law_1069 rfl (by decide) ?_
  refine g_iadd E (pn := 1071) dL_law_1070 rfl ?_
  refine g_topi (nI (6 * cc + 1)) (nI_add _ _) ?_
  refine g_sld E hX hbl hbA (by omega) (show 6 * cc + 1 < L by omega) (pn := 1072) dL_law_1071 rfl ?_
  refine g_conV (kc := 34) (ci := 7) (fs := oMod g (qN q ni ng)) [.int (xs (6 * cc + 1))] E hJ (con_X8_depth ri.1 r51 r48 ho.2.1.2.1 ho.2.1.2.2 rwb) dL_law_1072 (pn := 1075) rfl cal_X8_depth ml_L_131 ⟨(Nat.le_of_ble_eq_true rfl), (Nat.le_of_ble_eq_true rfl)⟩ rfl (by decide) ri.1 rfl rfl rfl (Nat.le_of_ble_eq_true rfl) hf ?_
  rintro _ M3 ⟨rfl, dp2, rfl⟩
  have hO := RX_51 (dp2 := dp2) hr2
  obtain ⟨⟨m2, hm2, hr3⟩, hf3⟩ := hO
  have hc3 := CI_fr hf3 hc2
  refine g_st (st2 := [.int _, .int _]) rfl ?_
  refine g_same E 1152 dL_law_1075 (by decide) ?_
  exact kc _ sn sT ni ng W B P m2 hc3 hr3 ho (by omega)
set_option maxRecDepth 100000 in
theorem law_27 (E : gE g RL code 4 p s m #[.ref b] c A) (hJ : jS g A s) (hX : va_X b L xs s s.heap) (hbl : b < s.heap.size) (hbA : ¬ A b) (hL : L ≤ 3072) (h6 : 6 * cc + 6 ≤ L) (hf : k ≤ room_1.cells ∧ n ≤ room_1.slots) (kc : lCont g p e s m below meth c A Q b cc k n) {M : jMem} {sn sT : Nat → Nat} {ni ng : Nat} {W : Nat → Nat → Int} {B P : Nat → Int} {mm : Nat} (hc : CI g M sn sT ni ng W B P) (hr : RX g M sn sT ni ng W B P mm) (ho : SO sn sT ni ng W B P) (hm : mm ≤ 256 * cc) : GJ g 4 p e room_1 s m #[.ref b] below meth c A Q 1080 [some (.ref b), some (.ref (jA g 0)), some (.ref (jA g 34)), some (.int (nI (6 * cc)))] [] (jW g M) k n := by
  refine g_aload_n E (pn := 1081) dL_law_1080 rfl rfl ?_
  refine g_aload_n E (pn := 1082) dL_law_1081 rfl rfl ?_
  refine g_iload_n E (pn := 1083) dL_law_1082 rfl rfl ?_
  refine g_iconst E (pn := 1084) (nI 1) dL_law_1083 rfl (by decide) ?_
  refine g_iadd E (pn := 1085) dL_law_1084 rfl ?_
  refine g_topi (nI (6 * cc + 1)) (nI_add _ _) ?_
  refine g_sld E hX hbl hbA (by omega) (show 6 * cc + 1 < L by omega) (pn := 1086) dL_law_1085 rfl ?_
  refine g_aload_n E (pn := 1087) dL_law_1086 rfl rfl ?_
  refine g_iload_n E (pn := 1088) dL_law_1087 rfl rfl ?_
  refine g_iconst E (pn := 1089) (nI 2) dL_law_1088 rfl (by decide) ?_
  refine g_iadd E (pn := 1090) dL_law_1089 rfl ?_
  refine g_topi (nI (6 * cc + 2)) (nI_add _ _) ?_
  refine g_sld E hX hbl hbA (by omega) (show 6 * cc + 2 < L by omega) (pn := 1091) dL_law_1090 rfl ?_
  refine g_bool E (p1 := 1094) (p2 := 1095) (p3 := 1098) (p4 := 1099) dL_law_1091 rfl (by decide) dL_law_1094 rfl dL_law_1095 (by decide) dL_law_1098 rfl ?_
  refine g_conV (kc := 0) (ci := 6) (fs := oX g) [.int (xs (6 * cc + 1)), .int (jB (!decide (xs (6 * cc + 2) = 0)))] E hJ (con_X7_idle hc.1 hc.2.2.2.2.2.2.2 ho.2) dL_law_1099 (pn := 1102) rfl cal_X7_idle ml_L_132 ⟨(Nat.le_of_ble_eq_true rfl), (Nat.le_of_ble_eq_true rfl)⟩ rfl (by decide) hc.1 rfl rfl rfl (Nat.le_of_ble_eq_true rfl) hf ?_
  rintro _ M2 ⟨rfl, u1, u2⟩
  obtain ⟨hc2, hf2⟩ := CI_n hc u1 u2
  refine g_st (st2 := [.int _]) rfl ?_
  have hr2 := RX_fr hf2 hr
  obtain ⟨q, ri, r35, r36, ⟨tp, r47, rtp⟩, ⟨nw, nb, r48, r49, rwb⟩, ⟨wk, r50⟩, ⟨dp, r51⟩⟩ := id hr2
  refine g_aload_n E (pn := 1103) dL_law_1102 rfl rfl ?_
  refine g_aload_n E (pn := 1104) dL_law_1103 rfl rfl ?_
  refine g_iload_n E (pn := 1105) dL_law_1104 rfl rfl ?_
  refine g_iconst E (pn := 1106) (nI 1) dL_law_1105 rfl (by decide) ?_
  refine g_iadd E (pn := 1107) dL_law_1106 rfl ?_
  refine g_topi (nI (6 * cc + 1)) (nI_add _ _) ?_
  refine g_sld E hX hbl hbA (by omega) (show 6 * cc + 1 < L by omega) (pn := 1108) dL_law_1107 rfl ?_
  refine g_aload_n E (pn := 1109) dL_law_1108 rfl rfl ?_
  refine g_iload_n E (pn := 1110) dL_law_1109 rfl rfl ?_
  refine g_iconst E (pn := 1111) (nI 2) dL_law_1110 rfl (by decide) ?_
  refine g_iadd E (pn := 1112) dL_law_1111 rfl ?_
  refine g_topi (nI (6 * cc + 2)) (nI_add _ _) ?_
  refine g_sld E hX hbl hbA (by omega) (show 6 * cc + 2 < L by omega) (pn := 1113) dL_law_1112 rfl ?_
  refine g_bool E (p1 := 1116) (p2 := 1117) (p3 := 1120) (p4 := 1121) dL_law_1113 rfl (by decide) dL_law_1116 rfl dL_law_1117 (by decide) dL_law_1120 rfl ?_
  refine g_conV (kc := 34) (ci := 7) (fs := oMod g (qN q ni ng)) [.int (xs (6 * cc + 1)), .int (jB (!decide (xs (6 * cc + 2) = 0)))] E hJ (con_X8_idle ri.1 r50 r48 r49 ho.2.1.2.1 ho.2.1.2.2 rwb) dL_law_1121 (pn := 1124) rfl cal_X8_idle ml_L_135 ⟨(Nat.le_of_ble_eq_true rfl), (Nat.le_of_ble_eq_true rfl)⟩ rfl (by decide) ri.1 rfl rfl rfl (Nat.le_of_ble_eq_true rfl) hf ?_
  rintro _ M3 ⟨rfl, wk2, rfl⟩
  have hO := RX_50 (wk2 := wk2) hr2
  obtain ⟨⟨m2, hm2, hr3⟩, hf3⟩ := hO
  have hc3 := CI_fr hf3 hc2
  refine g_st (st2 := [.int _, .int _]) rfl ?_
  refine g_same E 1152 dL_law_1124 (by decide) ?_
  exact kc _ sn sT ni ng W B P m2 hc3 hr3 ho (by omega)
set_option maxRecDepth 100000 in
theorem law_28 (E : gE g RL code 4 p s m #[.ref b] c A) (hJ : jS g A s) (hX : va_X b L xs s s.heap) (hbl : b < s.heap.size) (hbA : ¬ A b) (hL : L ≤ 3072) (h6 : 6 * cc + 6 ≤ L) (hf : k ≤ room_1.cells ∧ n ≤ room_1.slots) (kc : lCont g p e s m below meth c A Q b cc k n) {M : jMem} {sn sT : Nat → Nat} {ni ng : Nat} {W : Nat → Nat → Int} {B P : Nat → Int} {mm : Nat} (hc : CI g M sn sT ni ng W B P) (hr : RX g M sn sT ni ng W B P mm) (ho : SO sn sT ni ng W B P) (hm : mm ≤ 256 * cc) : GJ g 4 p e room_1 s m #[.ref b] below meth c A Q 1129 [some (.ref b), some (.ref (jA g 0)), some (.ref (jA g 34)), some (.int (nI (6 * cc)))] [] (jW g M) k n := by
  refine g_aload_n E (pn := 1130) dL_law_1129 rfl rfl ?_
  refine g_aload_n E (pn := 1131) dL_law_1130 rfl rfl ?_
  refine g_iload_n E (pn := 1132) dL_law_1131 rfl rfl ?_
  refine g_iconst E (pn := 1133) (nI 1) dL_law_1132 rfl (by decide) ?_
  refine g_iadd E (pn := 1134) dL_law_1133 rfl ?_
  refine g_topi (nI (6 * cc + 1)) (nI_add _ _) ?_
  refine g_sld E hX hbl hbA (by omega) (show 6 * cc + 1 < L by omega) (pn := 1135) dL_law_1134 rfl ?_
  refine g_conV (kc := 0) (ci := 6) (fs := oX g) [.int (xs (6 * cc + 1))] E hJ (con_X7_count hc.1 hc.2.2.2.2.2.2.2) dL_law_1135 (pn := 1138) rfl cal_X7_count ml_L_136 ⟨(Nat.le_of_ble_eq_true rfl), (Nat.le_of_ble_eq_true rfl)⟩ rfl (by decide) hc.1 rfl rfl rfl (Nat.le_of_ble_eq_true rfl) hf ?_
  rintro _ M2 ⟨rfl, rfl⟩
  have hc2 := hc
  have hf2 : ∀ j, 34 ≤ j → M2 j = M2 j := fun _ _ => rfl
  refine g_st (st2 := [.int _]) rfl ?_
  have hr2 := RX_fr hf2 hr
  obtain ⟨q, ri, r35, r36, ⟨tp, r47, rtp⟩, ⟨nw, nb, r48, r49, rwb⟩, ⟨wk, r50⟩, ⟨dp, r51⟩⟩ := id hr2
  refine g_aload_n E (pn := 1139) dL_law_1138 rfl rfl ?_
  refine g_aload_n E (pn := 1140) dL_law_1139 rfl rfl ?_
  refine g_iload_n E (pn := 1141) dL_law_1140 rfl rfl ?_
  refine g_iconst E (pn := 1142) (nI 1) dL_law_1141 rfl (by decide) ?_
  refine g_iadd E (pn := 1143) dL_law_1142 rfl ?_
  refine g_topi (nI (6 * cc + 1)) (nI_add _ _) ?_
  refine g_sld E hX hbl hbA (by omega) (show 6 * cc + 1 < L by omega) (pn := 1144) dL_law_1143 rfl ?_
  refine g_conV (kc := 34) (ci := 7) (fs := oMod g (qN q ni ng)) [.int (xs (6 * cc + 1))] E hJ (con_X8_count ri.1) dL_law_1144 (pn := 1147) rfl cal_X8_count ml_L_139 ⟨(Nat.le_of_ble_eq_true rfl), (Nat.le_of_ble_eq_true rfl)⟩ rfl (by decide) ri.1 rfl rfl rfl (Nat.le_of_ble_eq_true rfl) hf ?_
  rintro _ M3 ⟨rfl, rfl⟩
  have hO := RX_rf hr2
  obtain ⟨⟨m2, hm2, hr3⟩, hf3⟩ := hO
  have hc3 := CI_fr hf3 hc2
  refine g_st (st2 := [.int _, .int _]) rfl ?_
  refine g_same E 1152 dL_law_1147 (by decide) ?_
  exact kc _ sn sT ni ng W B P m2 hc3 hr3 ho (by omega)
end LAW
