set_option maxRecDepth 100000 in
set_option maxHeartbeats 1000000 in
/-- table -/
theorem law_0 {X : CX} {T : TC} {B : Nat} (C : Cx X "EvenScatterLaw" code room_1 T B 4) {b L x j : Nat} {xs : Nat → Int32} (hs : Scr X b L xs) (hL : L ≤ 2560) (hj : j + 5 ≤ L) {st : St} {z : Nat} {S : MS} {I : MI} {J : MJ} {R : MR} (hJ : Jn x st z S I R) (nx : Nx X b x j) : V X (40 + j) (100000 + 321 * j) z S I J R 160 [some (.ref b), some (.ref x), some (.ref (x + 15)), some (.int (nI j))] [] := by
  obtain ⟨hR, hM, hm, hO⟩ := hJ
  have hxx : S x = (5, 0) := by obtain ⟨sa, hX, -⟩ := hR; exact hX.1
  refine v_aload_n C dL_law_160 rfl ?_
  refine v_aload_n C dL_law_161 rfl ?_
  refine v_iload_n C dL_law_162 rfl ?_
  refine v_iconstN 1 C dL_law_163 ?_
  first | refine v_iaddN C dL_law_164 ?_ | refine v_iadd C dL_law_164 ?_
  refine v_sld C hs (by omega) (by omega) dL_law_165 ?_
  refine v_aload_n C dL_law_166 rfl ?_
  refine v_iload_n C dL_law_167 rfl ?_
  refine v_iconstN 2 C dL_law_168 ?_
  first | refine v_iaddN C dL_law_169 ?_ | refine v_iadd C dL_law_169 ?_
  refine v_sld C hs (by omega) (by omega) dL_law_170 ?_
  refine v_callV2_1 C (m_X4_table T B) lk_L_13 ⟨wt_120, wt_121⟩ 4 rfl dL_law_171 ⟨Nat.le_of_ble_eq_true rfl, Nat.le_of_ble_eq_true rfl⟩ (Nat.le_of_ble_eq_true rfl) ⟨by show 40 + j + 5 ≤ 600000; omega, by show 100000 + 321 * j + 1605 ≤ 7302250; omega⟩ (by assumption) (cTo_4 (by assumption)) ?_
  refine c_X4_table (st := st) hR hO (fun z1 S1 I1 J1 R1 r1 k1 => ?_)
  have hM1 := MoS_kp k1 hM
  have hm1 := Rm_kp k1 hm
  have hxM1 := hM1.1
  refine v_widen (k := 40 + (j + 5)) (n := 100000 + 321 * (j + 5)) (by show 40 + j + 5 ≤ 40 + (j + 5); omega) (by show 100000 + 321 * j + 1605 ≤ 100000 + 321 * (j + 5); omega) ?_
  refine v_aload_n C dL_law_174 rfl ?_
  refine v_aload_n C dL_law_175 rfl ?_
  refine v_iload_n C dL_law_176 rfl ?_
  refine v_iconstN 1 C dL_law_177 ?_
  first | refine v_iaddN C dL_law_178 ?_ | refine v_iadd C dL_law_178 ?_
  refine v_sld C hs (by omega) (by omega) dL_law_179 ?_
  refine v_aload_n C dL_law_180 rfl ?_
  refine v_iload_n C dL_law_181 rfl ?_
  refine v_iconstN 2 C dL_law_182 ?_
  first | refine v_iaddN C dL_law_183 ?_ | refine v_iadd C dL_law_183 ?_
  refine v_sld C hs (by omega) (by omega) dL_law_184 ?_
  refine v_callV2_1 C (m_X5_table T B) lk_L_17 ⟨wt_600, wt_601⟩ 5 rfl dL_law_185 ⟨Nat.le_of_ble_eq_true rfl, Nat.le_of_ble_eq_true rfl⟩ (Nat.le_of_ble_eq_true rfl) ⟨by show 40 + (j + 5) + 0 ≤ 600000; omega, by show 100000 + 321 * (j + 5) + 0 ≤ 7302250; omega⟩ (by assumption) (cTo_5 (by assumption)) ?_
  refine c_X5_table (st := st) hM1 hm1 hO (fun I2 J2 r2 f2 g2 => ?_)
  have hJ2 := Jn_next r1 hM1 r2 f2 (ok_table hO _ _)
  refine v_widen (k := 40 + (j + 5)) (n := 100000 + 321 * (j + 5)) (by show 40 + (j + 5) + 0 ≤ 40 + (j + 5); omega) (by show 100000 + 321 * (j + 5) + 0 ≤ 100000 + 321 * (j + 5); omega) ?_
  refine v_icmp_eq C 1176 dL_law_188 (by decide) (fun h188 => ?_) (fun h188 => ?_)
  · exact nx _ _ _ _ _ _ hJ2
  · exact absurd rfl h188
set_option maxRecDepth 100000 in
set_option maxHeartbeats 1000000 in
/-- row -/
theorem law_1 {X : CX} {T : TC} {B : Nat} (C : Cx X "EvenScatterLaw" code room_1 T B 4) {b L x j : Nat} {xs : Nat → Int32} (hs : Scr X b L xs) (hL : L ≤ 2560) (hj : j + 5 ≤ L) {st : St} {z : Nat} {S : MS} {I : MI} {J : MJ} {R : MR} (hJ : Jn x st z S I R) (nx : Nx X b x j) : V X (40 + j) (100000 + 321 * j) z S I J R 193 [some (.ref b), some (.ref x), some (.ref (x + 15)), some (.int (nI j))] [] := by
  obtain ⟨hR, hM, hm, hO⟩ := hJ
  have hxx : S x = (5, 0) := by obtain ⟨sa, hX, -⟩ := hR; exact hX.1
  refine v_aload_n C dL_law_193 rfl ?_
  refine v_aload_n C dL_law_194 rfl ?_
  refine v_iload_n C dL_law_195 rfl ?_
  refine v_iconstN 1 C dL_law_196 ?_
  first | refine v_iaddN C dL_law_197 ?_ | refine v_iadd C dL_law_197 ?_
  refine v_sld C hs (by omega) (by omega) dL_law_198 ?_
  refine v_aload_n C dL_law_199 rfl ?_
  refine v_iload_n C dL_law_200 rfl ?_
  refine v_iconstN 2 C dL_law_201 ?_
  first | refine v_iaddN C dL_law_202 ?_ | refine v_iadd C dL_law_202 ?_
  refine v_sld C hs (by omega) (by omega) dL_law_203 ?_
  refine v_aload_n C dL_law_204 rfl ?_
  refine v_iload_n C dL_law_205 rfl ?_
  refine v_iconstN 3 C dL_law_206 ?_
  first | refine v_iaddN C dL_law_207 ?_ | refine v_iadd C dL_law_207 ?_
  refine v_sld C hs (by omega) (by omega) dL_law_208 ?_
  refine v_aload_n C dL_law_209 rfl ?_
  refine v_iload_n C dL_law_210 rfl ?_
  refine v_iconstN 4 C dL_law_211 ?_
  first | refine v_iaddN C dL_law_212 ?_ | refine v_iadd C dL_law_212 ?_
  refine v_sld C hs (by omega) (by omega) dL_law_213 ?_
  refine v_callV4_1 C (m_X4_row T B) lk_L_18 ⟨wt_189, wt_190⟩ 4 rfl dL_law_214 ⟨Nat.le_of_ble_eq_true rfl, Nat.le_of_ble_eq_true rfl⟩ (Nat.le_of_ble_eq_true rfl) ⟨by show 40 + j + 0 ≤ 600000; omega, by show 100000 + 321 * j + 0 ≤ 7302250; omega⟩ (by assumption) (cTo_4 (by assumption)) ?_
  refine c_X4_row (st := st) hR hO (fun z1 S1 I1 J1 R1 r1 k1 => ?_)
  have hM1 := MoS_kp k1 hM
  have hm1 := Rm_kp k1 hm
  have hxM1 := hM1.1
  refine v_widen (k := 40 + (j + 5)) (n := 100000 + 321 * (j + 5)) (by show 40 + j + 0 ≤ 40 + (j + 5); omega) (by show 100000 + 321 * j + 0 ≤ 100000 + 321 * (j + 5); omega) ?_
  refine v_aload_n C dL_law_217 rfl ?_
  refine v_aload_n C dL_law_218 rfl ?_
  refine v_iload_n C dL_law_219 rfl ?_
  refine v_iconstN 1 C dL_law_220 ?_
  first | refine v_iaddN C dL_law_221 ?_ | refine v_iadd C dL_law_221 ?_
  refine v_sld C hs (by omega) (by omega) dL_law_222 ?_
  refine v_aload_n C dL_law_223 rfl ?_
  refine v_iload_n C dL_law_224 rfl ?_
  refine v_iconstN 2 C dL_law_225 ?_
  first | refine v_iaddN C dL_law_226 ?_ | refine v_iadd C dL_law_226 ?_
  refine v_sld C hs (by omega) (by omega) dL_law_227 ?_
  refine v_aload_n C dL_law_228 rfl ?_
  refine v_iload_n C dL_law_229 rfl ?_
  refine v_iconstN 3 C dL_law_230 ?_
  first | refine v_iaddN C dL_law_231 ?_ | refine v_iadd C dL_law_231 ?_
  refine v_sld C hs (by omega) (by omega) dL_law_232 ?_
  refine v_aload_n C dL_law_233 rfl ?_
  refine v_iload_n C dL_law_234 rfl ?_
  refine v_iconstN 4 C dL_law_235 ?_
  first | refine v_iaddN C dL_law_236 ?_ | refine v_iadd C dL_law_236 ?_
  refine v_sld C hs (by omega) (by omega) dL_law_237 ?_
  refine v_callV4_1 C (m_X5_row T B) lk_L_22 ⟨wt_615, wt_616⟩ 5 rfl dL_law_238 ⟨Nat.le_of_ble_eq_true rfl, Nat.le_of_ble_eq_true rfl⟩ (Nat.le_of_ble_eq_true rfl) ⟨by show 40 + (j + 5) + 0 ≤ 600000; omega, by show 100000 + 321 * (j + 5) + 0 ≤ 7302250; omega⟩ (by assumption) (cTo_5 (by assumption)) ?_
  refine c_X5_row (st := st) hM1 hm1 hO (fun I2 J2 r2 f2 g2 => ?_)
  have hJ2 := Jn_next r1 hM1 r2 f2 (ok_row hO _ _ _ _)
  refine v_widen (k := 40 + (j + 5)) (n := 100000 + 321 * (j + 5)) (by show 40 + (j + 5) + 0 ≤ 40 + (j + 5); omega) (by show 100000 + 321 * (j + 5) + 0 ≤ 100000 + 321 * (j + 5); omega) ?_
  refine v_icmp_eq C 1176 dL_law_241 (by decide) (fun h241 => ?_) (fun h241 => ?_)
  · exact nx _ _ _ _ _ _ hJ2
  · exact absurd rfl h241
set_option maxRecDepth 100000 in
set_option maxHeartbeats 1000000 in
/-- ladder -/
theorem law_2 {X : CX} {T : TC} {B : Nat} (C : Cx X "EvenScatterLaw" code room_1 T B 4) {b L x j : Nat} {xs : Nat → Int32} (hs : Scr X b L xs) (hL : L ≤ 2560) (hj : j + 5 ≤ L) {st : St} {z : Nat} {S : MS} {I : MI} {J : MJ} {R : MR} (hJ : Jn x st z S I R) (nx : Nx X b x j) : V X (40 + j) (100000 + 321 * j) z S I J R 246 [some (.ref b), some (.ref x), some (.ref (x + 15)), some (.int (nI j))] [] := by
  obtain ⟨hR, hM, hm, hO⟩ := hJ
  have hxx : S x = (5, 0) := by obtain ⟨sa, hX, -⟩ := hR; exact hX.1
  refine v_aload_n C dL_law_246 rfl ?_
  refine v_aload_n C dL_law_247 rfl ?_
  refine v_iload_n C dL_law_248 rfl ?_
  refine v_iconstN 1 C dL_law_249 ?_
  first | refine v_iaddN C dL_law_250 ?_ | refine v_iadd C dL_law_250 ?_
  refine v_sld C hs (by omega) (by omega) dL_law_251 ?_
  refine v_callV1_1 C (m_X4_ladder T B) lk_L_23 ⟨wt_218, wt_219⟩ 4 rfl dL_law_252 ⟨Nat.le_of_ble_eq_true rfl, Nat.le_of_ble_eq_true rfl⟩ (Nat.le_of_ble_eq_true rfl) ⟨by show 40 + j + 5 ≤ 600000; omega, by show 100000 + 321 * j + 1605 ≤ 7302250; omega⟩ (by assumption) (cTo_4 (by assumption)) ?_
  refine c_X4_ladder (st := st) hR hO (fun z1 S1 I1 J1 R1 r1 k1 => ?_)
  have hM1 := MoS_kp k1 hM
  have hm1 := Rm_kp k1 hm
  have hxM1 := hM1.1
  refine v_widen (k := 40 + (j + 5)) (n := 100000 + 321 * (j + 5)) (by show 40 + j + 5 ≤ 40 + (j + 5); omega) (by show 100000 + 321 * j + 1605 ≤ 100000 + 321 * (j + 5); omega) ?_
  refine v_aload_n C dL_law_255 rfl ?_
  refine v_aload_n C dL_law_256 rfl ?_
  refine v_iload_n C dL_law_257 rfl ?_
  refine v_iconstN 1 C dL_law_258 ?_
  first | refine v_iaddN C dL_law_259 ?_ | refine v_iadd C dL_law_259 ?_
  refine v_sld C hs (by omega) (by omega) dL_law_260 ?_
  refine v_callV1_1 C (m_X5_ladder T B) lk_L_27 ⟨wt_630, wt_631⟩ 5 rfl dL_law_261 ⟨Nat.le_of_ble_eq_true rfl, Nat.le_of_ble_eq_true rfl⟩ (Nat.le_of_ble_eq_true rfl) ⟨by show 40 + (j + 5) + 0 ≤ 600000; omega, by show 100000 + 321 * (j + 5) + 0 ≤ 7302250; omega⟩ (by assumption) (cTo_5 (by assumption)) ?_
  refine c_X5_ladder (st := st) hM1 hm1 hO (fun I2 J2 r2 f2 g2 => ?_)
  have hJ2 := Jn_next r1 hM1 r2 f2 (ok_ladder hO _)
  refine v_widen (k := 40 + (j + 5)) (n := 100000 + 321 * (j + 5)) (by show 40 + (j + 5) + 0 ≤ 40 + (j + 5); omega) (by show 100000 + 321 * (j + 5) + 0 ≤ 100000 + 321 * (j + 5); omega) ?_
  refine v_icmp_eq C 1176 dL_law_264 (by decide) (fun h264 => ?_) (fun h264 => ?_)
  · exact nx _ _ _ _ _ _ hJ2
  · exact absurd rfl h264
set_option maxRecDepth 100000 in
set_option maxHeartbeats 1000000 in
/-- direction -/
theorem law_3 {X : CX} {T : TC} {B : Nat} (C : Cx X "EvenScatterLaw" code room_1 T B 4) {b L x j : Nat} {xs : Nat → Int32} (hs : Scr X b L xs) (hL : L ≤ 2560) (hj : j + 5 ≤ L) {st : St} {z : Nat} {S : MS} {I : MI} {J : MJ} {R : MR} (hJ : Jn x st z S I R) (nx : Nx X b x j) : V X (40 + j) (100000 + 321 * j) z S I J R 269 [some (.ref b), some (.ref x), some (.ref (x + 15)), some (.int (nI j))] [] := by
  obtain ⟨hR, hM, hm, hO⟩ := hJ
  have hxx : S x = (5, 0) := by obtain ⟨sa, hX, -⟩ := hR; exact hX.1
  refine v_aload_n C dL_law_269 rfl ?_
  refine v_aload_n C dL_law_270 rfl ?_
  refine v_iload_n C dL_law_271 rfl ?_
  refine v_iconstN 1 C dL_law_272 ?_
  first | refine v_iaddN C dL_law_273 ?_ | refine v_iadd C dL_law_273 ?_
  refine v_sld C hs (by omega) (by omega) dL_law_274 ?_
  refine v_aload_n C dL_law_275 rfl ?_
  refine v_iload_n C dL_law_276 rfl ?_
  refine v_iconstN 2 C dL_law_277 ?_
  first | refine v_iaddN C dL_law_278 ?_ | refine v_iadd C dL_law_278 ?_
  refine v_sld C hs (by omega) (by omega) dL_law_279 ?_
  refine v_aload_n C dL_law_280 rfl ?_
  refine v_iload_n C dL_law_281 rfl ?_
  refine v_iconstN 3 C dL_law_282 ?_
  first | refine v_iaddN C dL_law_283 ?_ | refine v_iadd C dL_law_283 ?_
  refine v_sld C hs (by omega) (by omega) dL_law_284 ?_
  first | refine v_i2lN C dL_law_285 (by omega) ?_ | refine v_i2l C dL_law_285 ?_
  refine v_bipushN 32 (by decide) C dL_law_286 ?_
  refine v_lshl C dL_law_288 ?_
  refine v_aload_n C dL_law_289 rfl ?_
  refine v_iload_n C dL_law_290 rfl ?_
  refine v_iconstN 4 C dL_law_291 ?_
  first | refine v_iaddN C dL_law_292 ?_ | refine v_iadd C dL_law_292 ?_
  refine v_sld C hs (by omega) (by omega) dL_law_293 ?_
  first | refine v_i2lN C dL_law_294 (by omega) ?_ | refine v_i2l C dL_law_294 ?_
  refine v_ldc2 C dL_law_295 wt_796 ?_
  refine v_eql (x' := lN 4294967295) (by decide +kernel) ?_
  refine v_land C dL_law_298 ?_
  refine v_lor C dL_law_299 ?_
  refine v_callV3_1 C (m_X4_direction T B) lk_L_30 ⟨wt_222, wt_223⟩ 4 rfl dL_law_300 ⟨Nat.le_of_ble_eq_true rfl, Nat.le_of_ble_eq_true rfl⟩ (Nat.le_of_ble_eq_true rfl) ⟨by show 40 + j + 1 ≤ 600000; omega, by show 100000 + 321 * j + 9 ≤ 7302250; omega⟩ (by assumption) (cTo_4 (by assumption)) ?_
  refine c_X4_direction (st := st) hR hO (fun z1 S1 I1 J1 R1 r1 k1 => ?_)
  have hM1 := MoS_kp k1 hM
  have hm1 := Rm_kp k1 hm
  have hxM1 := hM1.1
  refine v_widen (k := 40 + (j + 5)) (n := 100000 + 321 * (j + 5)) (by show 40 + j + 1 ≤ 40 + (j + 5); omega) (by show 100000 + 321 * j + 9 ≤ 100000 + 321 * (j + 5); omega) ?_
  refine v_aload_n C dL_law_303 rfl ?_
  refine v_aload_n C dL_law_304 rfl ?_
  refine v_iload_n C dL_law_305 rfl ?_
  refine v_iconstN 1 C dL_law_306 ?_
  first | refine v_iaddN C dL_law_307 ?_ | refine v_iadd C dL_law_307 ?_
  refine v_sld C hs (by omega) (by omega) dL_law_308 ?_
  refine v_aload_n C dL_law_309 rfl ?_
  refine v_iload_n C dL_law_310 rfl ?_
  refine v_iconstN 2 C dL_law_311 ?_
  first | refine v_iaddN C dL_law_312 ?_ | refine v_iadd C dL_law_312 ?_
  refine v_sld C hs (by omega) (by omega) dL_law_313 ?_
  refine v_aload_n C dL_law_314 rfl ?_
  refine v_iload_n C dL_law_315 rfl ?_
  refine v_iconstN 3 C dL_law_316 ?_
  first | refine v_iaddN C dL_law_317 ?_ | refine v_iadd C dL_law_317 ?_
  refine v_sld C hs (by omega) (by omega) dL_law_318 ?_
  first | refine v_i2lN C dL_law_319 (by omega) ?_ | refine v_i2l C dL_law_319 ?_
  refine v_bipushN 32 (by decide) C dL_law_320 ?_
  refine v_lshl C dL_law_322 ?_
  refine v_aload_n C dL_law_323 rfl ?_
  refine v_iload_n C dL_law_324 rfl ?_
  refine v_iconstN 4 C dL_law_325 ?_
  first | refine v_iaddN C dL_law_326 ?_ | refine v_iadd C dL_law_326 ?_
  refine v_sld C hs (by omega) (by omega) dL_law_327 ?_
  first | refine v_i2lN C dL_law_328 (by omega) ?_ | refine v_i2l C dL_law_328 ?_
  refine v_ldc2 C dL_law_329 wt_796 ?_
  refine v_eql (x' := lN 4294967295) (by decide +kernel) ?_
  refine v_land C dL_law_332 ?_
  refine v_lor C dL_law_333 ?_
  refine v_callV3_1 C (m_X5_direction T B) lk_L_34 ⟨wt_634, wt_635⟩ 5 rfl dL_law_334 ⟨Nat.le_of_ble_eq_true rfl, Nat.le_of_ble_eq_true rfl⟩ (Nat.le_of_ble_eq_true rfl) ⟨by show 40 + (j + 5) + 0 ≤ 600000; omega, by show 100000 + 321 * (j + 5) + 0 ≤ 7302250; omega⟩ (by assumption) (cTo_5 (by assumption)) ?_
  refine c_X5_direction (st := st) hM1 hm1 hO (fun I2 J2 r2 f2 g2 => ?_)
  have hJ2 := Jn_next r1 hM1 r2 f2 (ok_direction hO _ _ _)
  refine v_widen (k := 40 + (j + 5)) (n := 100000 + 321 * (j + 5)) (by show 40 + (j + 5) + 0 ≤ 40 + (j + 5); omega) (by show 100000 + 321 * (j + 5) + 0 ≤ 100000 + 321 * (j + 5); omega) ?_
  refine v_icmp_eq C 1176 dL_law_337 (by decide) (fun h337 => ?_) (fun h337 => ?_)
  · exact nx _ _ _ _ _ _ hJ2
  · exact absurd rfl h337
set_option maxRecDepth 100000 in
set_option maxHeartbeats 1000000 in
/-- turned -/
theorem law_4 {X : CX} {T : TC} {B : Nat} (C : Cx X "EvenScatterLaw" code room_1 T B 4) {b L x j : Nat} {xs : Nat → Int32} (hs : Scr X b L xs) (hL : L ≤ 2560) (hj : j + 5 ≤ L) {st : St} {z : Nat} {S : MS} {I : MI} {J : MJ} {R : MR} (hJ : Jn x st z S I R) (nx : Nx X b x j) : V X (40 + j) (100000 + 321 * j) z S I J R 342 [some (.ref b), some (.ref x), some (.ref (x + 15)), some (.int (nI j))] [] := by
  obtain ⟨hR, hM, hm, hO⟩ := hJ
  have hxx : S x = (5, 0) := by obtain ⟨sa, hX, -⟩ := hR; exact hX.1
  refine v_aload_n C dL_law_342 rfl ?_
  refine v_aload_n C dL_law_343 rfl ?_
  refine v_iload_n C dL_law_344 rfl ?_
  refine v_iconstN 1 C dL_law_345 ?_
  first | refine v_iaddN C dL_law_346 ?_ | refine v_iadd C dL_law_346 ?_
  refine v_sld C hs (by omega) (by omega) dL_law_347 ?_
  refine v_callV1_1 C (m_X4_turned T B) lk_L_35 ⟨wt_246, wt_247⟩ 4 rfl dL_law_348 ⟨Nat.le_of_ble_eq_true rfl, Nat.le_of_ble_eq_true rfl⟩ (Nat.le_of_ble_eq_true rfl) ⟨by show 40 + j + 5 ≤ 600000; omega, by show 100000 + 321 * j + 1605 ≤ 7302250; omega⟩ (by assumption) (cTo_4 (by assumption)) ?_
  refine c_X4_turned (st := st) hR hO (fun z1 S1 I1 J1 R1 r1 k1 => ?_)
  have hM1 := MoS_kp k1 hM
  have hm1 := Rm_kp k1 hm
  have hxM1 := hM1.1
  refine v_widen (k := 40 + (j + 5)) (n := 100000 + 321 * (j + 5)) (by show 40 + j + 5 ≤ 40 + (j + 5); omega) (by show 100000 + 321 * j + 1605 ≤ 100000 + 321 * (j + 5); omega) ?_
  refine v_aload_n C dL_law_351 rfl ?_
  refine v_aload_n C dL_law_352 rfl ?_
  refine v_iload_n C dL_law_353 rfl ?_
  refine v_iconstN 1 C dL_law_354 ?_
  first | refine v_iaddN C dL_law_355 ?_ | refine v_iadd C dL_law_355 ?_
  refine v_sld C hs (by omega) (by omega) dL_law_356 ?_
  refine v_callV1_1 C (m_X5_turned T B) lk_L_38 ⟨wt_639, wt_640⟩ 5 rfl dL_law_357 ⟨Nat.le_of_ble_eq_true rfl, Nat.le_of_ble_eq_true rfl⟩ (Nat.le_of_ble_eq_true rfl) ⟨by show 40 + (j + 5) + 0 ≤ 600000; omega, by show 100000 + 321 * (j + 5) + 0 ≤ 7302250; omega⟩ (by assumption) (cTo_5 (by assumption)) ?_
  refine c_X5_turned (st := st) hM1 hm1 hO (fun I2 J2 r2 f2 g2 => ?_)
  have hJ2 := Jn_next r1 hM1 r2 f2 (ok_turned hO _)
  refine v_widen (k := 40 + (j + 5)) (n := 100000 + 321 * (j + 5)) (by show 40 + (j + 5) + 0 ≤ 40 + (j + 5); omega) (by show 100000 + 321 * (j + 5) + 0 ≤ 100000 + 321 * (j + 5); omega) ?_
  refine v_icmp_eq C 1176 dL_law_360 (by decide) (fun h360 => ?_) (fun h360 => ?_)
  · exact nx _ _ _ _ _ _ hJ2
  · exact absurd rfl h360
set_option maxRecDepth 100000 in
set_option maxHeartbeats 1000000 in
/-- mask -/
theorem law_5 {X : CX} {T : TC} {B : Nat} (C : Cx X "EvenScatterLaw" code room_1 T B 4) {b L x j : Nat} {xs : Nat → Int32} (hs : Scr X b L xs) (hL : L ≤ 2560) (hj : j + 5 ≤ L) {st : St} {z : Nat} {S : MS} {I : MI} {J : MJ} {R : MR} (hJ : Jn x st z S I R) (nx : Nx X b x j) : V X (40 + j) (100000 + 321 * j) z S I J R 365 [some (.ref b), some (.ref x), some (.ref (x + 15)), some (.int (nI j))] [] := by
  obtain ⟨hR, hM, hm, hO⟩ := hJ
  have hxx : S x = (5, 0) := by obtain ⟨sa, hX, -⟩ := hR; exact hX.1
  refine v_aload_n C dL_law_365 rfl ?_
  refine v_aload_n C dL_law_366 rfl ?_
  refine v_iload_n C dL_law_367 rfl ?_
  refine v_iconstN 1 C dL_law_368 ?_
  first | refine v_iaddN C dL_law_369 ?_ | refine v_iadd C dL_law_369 ?_
  refine v_sld C hs (by omega) (by omega) dL_law_370 ?_
  refine v_aload_n C dL_law_371 rfl ?_
  refine v_iload_n C dL_law_372 rfl ?_
  refine v_iconstN 2 C dL_law_373 ?_
  first | refine v_iaddN C dL_law_374 ?_ | refine v_iadd C dL_law_374 ?_
  refine v_sld C hs (by omega) (by omega) dL_law_375 ?_
  refine v_aload_n C dL_law_376 rfl ?_
  refine v_iload_n C dL_law_377 rfl ?_
  refine v_iconstN 3 C dL_law_378 ?_
  first | refine v_iaddN C dL_law_379 ?_ | refine v_iadd C dL_law_379 ?_
  refine v_sld C hs (by omega) (by omega) dL_law_380 ?_
  refine v_callV3_1 C (m_X4_mask T B) lk_L_39 ⟨wt_261, wt_262⟩ 4 rfl dL_law_381 ⟨Nat.le_of_ble_eq_true rfl, Nat.le_of_ble_eq_true rfl⟩ (Nat.le_of_ble_eq_true rfl) ⟨by show 40 + j + 0 ≤ 600000; omega, by show 100000 + 321 * j + 0 ≤ 7302250; omega⟩ (by assumption) (cTo_4 (by assumption)) ?_
  refine c_X4_mask (st := st) hR hO (fun z1 S1 I1 J1 R1 r1 k1 => ?_)
  have hM1 := MoS_kp k1 hM
  have hm1 := Rm_kp k1 hm
  have hxM1 := hM1.1
  refine v_widen (k := 40 + (j + 5)) (n := 100000 + 321 * (j + 5)) (by show 40 + j + 0 ≤ 40 + (j + 5); omega) (by show 100000 + 321 * j + 0 ≤ 100000 + 321 * (j + 5); omega) ?_
  refine v_aload_n C dL_law_384 rfl ?_
  refine v_aload_n C dL_law_385 rfl ?_
  refine v_iload_n C dL_law_386 rfl ?_
  refine v_iconstN 1 C dL_law_387 ?_
  first | refine v_iaddN C dL_law_388 ?_ | refine v_iadd C dL_law_388 ?_
  refine v_sld C hs (by omega) (by omega) dL_law_389 ?_
  refine v_aload_n C dL_law_390 rfl ?_
  refine v_iload_n C dL_law_391 rfl ?_
  refine v_iconstN 2 C dL_law_392 ?_
  first | refine v_iaddN C dL_law_393 ?_ | refine v_iadd C dL_law_393 ?_
  refine v_sld C hs (by omega) (by omega) dL_law_394 ?_
  refine v_aload_n C dL_law_395 rfl ?_
  refine v_iload_n C dL_law_396 rfl ?_
  refine v_iconstN 3 C dL_law_397 ?_
  first | refine v_iaddN C dL_law_398 ?_ | refine v_iadd C dL_law_398 ?_
  refine v_sld C hs (by omega) (by omega) dL_law_399 ?_
  refine v_callV3_1 C (m_X5_mask T B) lk_L_43 ⟨wt_643, wt_644⟩ 5 rfl dL_law_400 ⟨Nat.le_of_ble_eq_true rfl, Nat.le_of_ble_eq_true rfl⟩ (Nat.le_of_ble_eq_true rfl) ⟨by show 40 + (j + 5) + 0 ≤ 600000; omega, by show 100000 + 321 * (j + 5) + 0 ≤ 7302250; omega⟩ (by assumption) (cTo_5 (by assumption)) ?_
  refine c_X5_mask (st := st) hM1 hm1 hO (fun I2 J2 r2 f2 g2 => ?_)
  have hJ2 := Jn_next r1 hM1 r2 f2 (ok_mask hO _ _ _)
  refine v_widen (k := 40 + (j + 5)) (n := 100000 + 321 * (j + 5)) (by show 40 + (j + 5) + 0 ≤ 40 + (j + 5); omega) (by show 100000 + 321 * (j + 5) + 0 ≤ 100000 + 321 * (j + 5); omega) ?_
  refine v_icmp_eq C 1176 dL_law_403 (by decide) (fun h403 => ?_) (fun h403 => ?_)
  · exact nx _ _ _ _ _ _ hJ2
  · exact absurd rfl h403
set_option maxRecDepth 100000 in
set_option maxHeartbeats 1000000 in
/-- grid -/
theorem law_6 {X : CX} {T : TC} {B : Nat} (C : Cx X "EvenScatterLaw" code room_1 T B 4) {b L x j : Nat} {xs : Nat → Int32} (hs : Scr X b L xs) (hL : L ≤ 2560) (hj : j + 5 ≤ L) {st : St} {z : Nat} {S : MS} {I : MI} {J : MJ} {R : MR} (hJ : Jn x st z S I R) (nx : Nx X b x j) : V X (40 + j) (100000 + 321 * j) z S I J R 408 [some (.ref b), some (.ref x), some (.ref (x + 15)), some (.int (nI j))] [] := by
  obtain ⟨hR, hM, hm, hO⟩ := hJ
  have hxx : S x = (5, 0) := by obtain ⟨sa, hX, -⟩ := hR; exact hX.1
  refine v_aload_n C dL_law_408 rfl ?_
  refine v_aload_n C dL_law_409 rfl ?_
  refine v_iload_n C dL_law_410 rfl ?_
  refine v_iconstN 1 C dL_law_411 ?_
  first | refine v_iaddN C dL_law_412 ?_ | refine v_iadd C dL_law_412 ?_
  refine v_sld C hs (by omega) (by omega) dL_law_413 ?_
  refine v_aload_n C dL_law_414 rfl ?_
  refine v_iload_n C dL_law_415 rfl ?_
  refine v_iconstN 2 C dL_law_416 ?_
  first | refine v_iaddN C dL_law_417 ?_ | refine v_iadd C dL_law_417 ?_
  refine v_sld C hs (by omega) (by omega) dL_law_418 ?_
  refine v_callV2_1 C (m_X4_grid T B) lk_L_44 ⟨wt_265, wt_266⟩ 4 rfl dL_law_419 ⟨Nat.le_of_ble_eq_true rfl, Nat.le_of_ble_eq_true rfl⟩ (Nat.le_of_ble_eq_true rfl) ⟨by show 40 + j + 5 ≤ 600000; omega, by show 100000 + 321 * j + 1605 ≤ 7302250; omega⟩ (by assumption) (cTo_4 (by assumption)) ?_
  refine c_X4_grid (st := st) hR hO (fun z1 S1 I1 J1 R1 r1 k1 => ?_)
  have hM1 := MoS_kp k1 hM
  have hm1 := Rm_kp k1 hm
  have hxM1 := hM1.1
  refine v_widen (k := 40 + (j + 5)) (n := 100000 + 321 * (j + 5)) (by show 40 + j + 5 ≤ 40 + (j + 5); omega) (by show 100000 + 321 * j + 1605 ≤ 100000 + 321 * (j + 5); omega) ?_
  refine v_aload_n C dL_law_422 rfl ?_
  refine v_aload_n C dL_law_423 rfl ?_
  refine v_iload_n C dL_law_424 rfl ?_
  refine v_iconstN 1 C dL_law_425 ?_
  first | refine v_iaddN C dL_law_426 ?_ | refine v_iadd C dL_law_426 ?_
  refine v_sld C hs (by omega) (by omega) dL_law_427 ?_
  refine v_aload_n C dL_law_428 rfl ?_
  refine v_iload_n C dL_law_429 rfl ?_
  refine v_iconstN 2 C dL_law_430 ?_
  first | refine v_iaddN C dL_law_431 ?_ | refine v_iadd C dL_law_431 ?_
  refine v_sld C hs (by omega) (by omega) dL_law_432 ?_
  refine v_callV2_1 C (m_X5_grid T B) lk_L_47 ⟨wt_647, wt_648⟩ 5 rfl dL_law_433 ⟨Nat.le_of_ble_eq_true rfl, Nat.le_of_ble_eq_true rfl⟩ (Nat.le_of_ble_eq_true rfl) ⟨by show 40 + (j + 5) + 0 ≤ 600000; omega, by show 100000 + 321 * (j + 5) + 0 ≤ 7302250; omega⟩ (by assumption) (cTo_5 (by assumption)) ?_
  refine c_X5_grid (st := st) hM1 hm1 hO (fun I2 J2 r2 f2 g2 => ?_)
  have hJ2 := Jn_next r1 hM1 r2 f2 (ok_grid hO _ _)
  refine v_widen (k := 40 + (j + 5)) (n := 100000 + 321 * (j + 5)) (by show 40 + (j + 5) + 0 ≤ 40 + (j + 5); omega) (by show 100000 + 321 * (j + 5) + 0 ≤ 100000 + 321 * (j + 5); omega) ?_
  refine v_icmp_eq C 1176 dL_law_436 (by decide) (fun h436 => ?_) (fun h436 => ?_)
  · exact nx _ _ _ _ _ _ hJ2
  · exact absurd rfl h436
set_option maxRecDepth 100000 in
set_option maxHeartbeats 1000000 in
/-- step -/
theorem law_7 {X : CX} {T : TC} {B : Nat} (C : Cx X "EvenScatterLaw" code room_1 T B 4) {b L x j : Nat} {xs : Nat → Int32} (hs : Scr X b L xs) (hL : L ≤ 2560) (hj : j + 5 ≤ L) {st : St} {z : Nat} {S : MS} {I : MI} {J : MJ} {R : MR} (hJ : Jn x st z S I R) (nx : Nx X b x j) : V X (40 + j) (100000 + 321 * j) z S I J R 441 [some (.ref b), some (.ref x), some (.ref (x + 15)), some (.int (nI j))] [] := by
  obtain ⟨hR, hM, hm, hO⟩ := hJ
  have hxx : S x = (5, 0) := by obtain ⟨sa, hX, -⟩ := hR; exact hX.1
  refine v_aload_n C dL_law_441 rfl ?_
  refine v_aload_n C dL_law_442 rfl ?_
  refine v_iload_n C dL_law_443 rfl ?_
  refine v_iconstN 1 C dL_law_444 ?_
  first | refine v_iaddN C dL_law_445 ?_ | refine v_iadd C dL_law_445 ?_
  refine v_sld C hs (by omega) (by omega) dL_law_446 ?_
  refine v_aload_n C dL_law_447 rfl ?_
  refine v_iload_n C dL_law_448 rfl ?_
  refine v_iconstN 2 C dL_law_449 ?_
  first | refine v_iaddN C dL_law_450 ?_ | refine v_iadd C dL_law_450 ?_
  refine v_sld C hs (by omega) (by omega) dL_law_451 ?_
  refine v_aload_n C dL_law_452 rfl ?_
  refine v_iload_n C dL_law_453 rfl ?_
  refine v_iconstN 3 C dL_law_454 ?_
  first | refine v_iaddN C dL_law_455 ?_ | refine v_iadd C dL_law_455 ?_
  refine v_sld C hs (by omega) (by omega) dL_law_456 ?_
  refine v_callV3_1 C (m_X4_step T B) lk_L_48 ⟨wt_269, wt_270⟩ 4 rfl dL_law_457 ⟨Nat.le_of_ble_eq_true rfl, Nat.le_of_ble_eq_true rfl⟩ (Nat.le_of_ble_eq_true rfl) ⟨by show 40 + j + 0 ≤ 600000; omega, by show 100000 + 321 * j + 0 ≤ 7302250; omega⟩ (by assumption) (cTo_4 (by assumption)) ?_
  refine c_X4_step (st := st) hR hO (fun z1 S1 I1 J1 R1 r1 k1 => ?_)
  have hM1 := MoS_kp k1 hM
  have hm1 := Rm_kp k1 hm
  have hxM1 := hM1.1
  refine v_widen (k := 40 + (j + 5)) (n := 100000 + 321 * (j + 5)) (by show 40 + j + 0 ≤ 40 + (j + 5); omega) (by show 100000 + 321 * j + 0 ≤ 100000 + 321 * (j + 5); omega) ?_
  refine v_aload_n C dL_law_460 rfl ?_
  refine v_aload_n C dL_law_461 rfl ?_
  refine v_iload_n C dL_law_462 rfl ?_
  refine v_iconstN 1 C dL_law_463 ?_
  first | refine v_iaddN C dL_law_464 ?_ | refine v_iadd C dL_law_464 ?_
  refine v_sld C hs (by omega) (by omega) dL_law_465 ?_
  refine v_aload_n C dL_law_466 rfl ?_
  refine v_iload_n C dL_law_467 rfl ?_
  refine v_iconstN 2 C dL_law_468 ?_
  first | refine v_iaddN C dL_law_469 ?_ | refine v_iadd C dL_law_469 ?_
  refine v_sld C hs (by omega) (by omega) dL_law_470 ?_
  refine v_aload_n C dL_law_471 rfl ?_
  refine v_iload_n C dL_law_472 rfl ?_
  refine v_iconstN 3 C dL_law_473 ?_
  first | refine v_iaddN C dL_law_474 ?_ | refine v_iadd C dL_law_474 ?_
  refine v_sld C hs (by omega) (by omega) dL_law_475 ?_
  refine v_callV3_1 C (m_X5_step T B) lk_L_51 ⟨wt_651, wt_652⟩ 5 rfl dL_law_476 ⟨Nat.le_of_ble_eq_true rfl, Nat.le_of_ble_eq_true rfl⟩ (Nat.le_of_ble_eq_true rfl) ⟨by show 40 + (j + 5) + 0 ≤ 600000; omega, by show 100000 + 321 * (j + 5) + 0 ≤ 7302250; omega⟩ (by assumption) (cTo_5 (by assumption)) ?_
  refine c_X5_step (st := st) hM1 hm1 hO (fun I2 J2 r2 f2 g2 => ?_)
  have hJ2 := Jn_next r1 hM1 r2 f2 (ok_step hO _ _ _)
  refine v_widen (k := 40 + (j + 5)) (n := 100000 + 321 * (j + 5)) (by show 40 + (j + 5) + 0 ≤ 40 + (j + 5); omega) (by show 100000 + 321 * (j + 5) + 0 ≤ 100000 + 321 * (j + 5); omega) ?_
  refine v_icmp_eq C 1176 dL_law_479 (by decide) (fun h479 => ?_) (fun h479 => ?_)
  · exact nx _ _ _ _ _ _ hJ2
  · exact absurd rfl h479
set_option maxRecDepth 100000 in
set_option maxHeartbeats 1000000 in
/-- lots -/
theorem law_8 {X : CX} {T : TC} {B : Nat} (C : Cx X "EvenScatterLaw" code room_1 T B 4) {b L x j : Nat} {xs : Nat → Int32} (hs : Scr X b L xs) (hL : L ≤ 2560) (hj : j + 5 ≤ L) {st : St} {z : Nat} {S : MS} {I : MI} {J : MJ} {R : MR} (hJ : Jn x st z S I R) (nx : Nx X b x j) : V X (40 + j) (100000 + 321 * j) z S I J R 484 [some (.ref b), some (.ref x), some (.ref (x + 15)), some (.int (nI j))] [] := by
  obtain ⟨hR, hM, hm, hO⟩ := hJ
  have hxx : S x = (5, 0) := by obtain ⟨sa, hX, -⟩ := hR; exact hX.1
  refine v_aload_n C dL_law_484 rfl ?_
  refine v_aload_n C dL_law_485 rfl ?_
  refine v_iload_n C dL_law_486 rfl ?_
  refine v_iconstN 1 C dL_law_487 ?_
  first | refine v_iaddN C dL_law_488 ?_ | refine v_iadd C dL_law_488 ?_
  refine v_sld C hs (by omega) (by omega) dL_law_489 ?_
  refine v_aload_n C dL_law_490 rfl ?_
  refine v_iload_n C dL_law_491 rfl ?_
  refine v_iconstN 2 C dL_law_492 ?_
  first | refine v_iaddN C dL_law_493 ?_ | refine v_iadd C dL_law_493 ?_
  refine v_sld C hs (by omega) (by omega) dL_law_494 ?_
  refine v_aload_n C dL_law_495 rfl ?_
  refine v_iload_n C dL_law_496 rfl ?_
  refine v_iconstN 3 C dL_law_497 ?_
  first | refine v_iaddN C dL_law_498 ?_ | refine v_iadd C dL_law_498 ?_
  refine v_sld C hs (by omega) (by omega) dL_law_499 ?_
  first | refine v_i2lN C dL_law_500 (by omega) ?_ | refine v_i2l C dL_law_500 ?_
  refine v_bipushN 32 (by decide) C dL_law_501 ?_
  refine v_lshl C dL_law_503 ?_
  refine v_aload_n C dL_law_504 rfl ?_
  refine v_iload_n C dL_law_505 rfl ?_
  refine v_iconstN 4 C dL_law_506 ?_
  first | refine v_iaddN C dL_law_507 ?_ | refine v_iadd C dL_law_507 ?_
  refine v_sld C hs (by omega) (by omega) dL_law_508 ?_
  first | refine v_i2lN C dL_law_509 (by omega) ?_ | refine v_i2l C dL_law_509 ?_
  refine v_ldc2 C dL_law_510 wt_796 ?_
  refine v_eql (x' := lN 4294967295) (by decide +kernel) ?_
  refine v_land C dL_law_513 ?_
  refine v_lor C dL_law_514 ?_
  refine v_callV3_1 C (m_X4_lots T B) lk_L_52 ⟨wt_277, wt_278⟩ 4 rfl dL_law_515 ⟨Nat.le_of_ble_eq_true rfl, Nat.le_of_ble_eq_true rfl⟩ (Nat.le_of_ble_eq_true rfl) ⟨by show 40 + j + 5 ≤ 600000; omega, by show 100000 + 321 * j + 1605 ≤ 7302250; omega⟩ (by assumption) (cTo_4 (by assumption)) ?_
  refine c_X4_lots (st := st) hR hO (fun z1 S1 I1 J1 R1 r1 k1 => ?_)
  have hM1 := MoS_kp k1 hM
  have hm1 := Rm_kp k1 hm
  have hxM1 := hM1.1
  refine v_widen (k := 40 + (j + 5)) (n := 100000 + 321 * (j + 5)) (by show 40 + j + 5 ≤ 40 + (j + 5); omega) (by show 100000 + 321 * j + 1605 ≤ 100000 + 321 * (j + 5); omega) ?_
  refine v_aload_n C dL_law_518 rfl ?_
  refine v_aload_n C dL_law_519 rfl ?_
  refine v_iload_n C dL_law_520 rfl ?_
  refine v_iconstN 1 C dL_law_521 ?_
  first | refine v_iaddN C dL_law_522 ?_ | refine v_iadd C dL_law_522 ?_
  refine v_sld C hs (by omega) (by omega) dL_law_523 ?_
  refine v_aload_n C dL_law_524 rfl ?_
  refine v_iload_n C dL_law_525 rfl ?_
  refine v_iconstN 2 C dL_law_526 ?_
  first | refine v_iaddN C dL_law_527 ?_ | refine v_iadd C dL_law_527 ?_
  refine v_sld C hs (by omega) (by omega) dL_law_528 ?_
  refine v_aload_n C dL_law_529 rfl ?_
  refine v_iload_n C dL_law_530 rfl ?_
  refine v_iconstN 3 C dL_law_531 ?_
  first | refine v_iaddN C dL_law_532 ?_ | refine v_iadd C dL_law_532 ?_
  refine v_sld C hs (by omega) (by omega) dL_law_533 ?_
  first | refine v_i2lN C dL_law_534 (by omega) ?_ | refine v_i2l C dL_law_534 ?_
  refine v_bipushN 32 (by decide) C dL_law_535 ?_
  refine v_lshl C dL_law_537 ?_
  refine v_aload_n C dL_law_538 rfl ?_
  refine v_iload_n C dL_law_539 rfl ?_
  refine v_iconstN 4 C dL_law_540 ?_
  first | refine v_iaddN C dL_law_541 ?_ | refine v_iadd C dL_law_541 ?_
  refine v_sld C hs (by omega) (by omega) dL_law_542 ?_
  first | refine v_i2lN C dL_law_543 (by omega) ?_ | refine v_i2l C dL_law_543 ?_
  refine v_ldc2 C dL_law_544 wt_796 ?_
  refine v_eql (x' := lN 4294967295) (by decide +kernel) ?_
  refine v_land C dL_law_547 ?_
  refine v_lor C dL_law_548 ?_
  refine v_callV3_1 C (m_X5_lots T B) lk_L_55 ⟨wt_655, wt_656⟩ 5 rfl dL_law_549 ⟨Nat.le_of_ble_eq_true rfl, Nat.le_of_ble_eq_true rfl⟩ (Nat.le_of_ble_eq_true rfl) ⟨by show 40 + (j + 5) + 0 ≤ 600000; omega, by show 100000 + 321 * (j + 5) + 0 ≤ 7302250; omega⟩ (by assumption) (cTo_5 (by assumption)) ?_
  refine c_X5_lots (st := st) hM1 hm1 hO (fun I2 J2 r2 f2 g2 => ?_)
  have hJ2 := Jn_next r1 hM1 r2 f2 (ok_lots hO _ _ _)
  refine v_widen (k := 40 + (j + 5)) (n := 100000 + 321 * (j + 5)) (by show 40 + (j + 5) + 0 ≤ 40 + (j + 5); omega) (by show 100000 + 321 * (j + 5) + 0 ≤ 100000 + 321 * (j + 5); omega) ?_
  refine v_icmp_eq C 1176 dL_law_552 (by decide) (fun h552 => ?_) (fun h552 => ?_)
  · exact nx _ _ _ _ _ _ hJ2
  · exact absurd rfl h552
set_option maxRecDepth 100000 in
set_option maxHeartbeats 1000000 in
/-- scatter -/
theorem law_9 {X : CX} {T : TC} {B : Nat} (C : Cx X "EvenScatterLaw" code room_1 T B 4) {b L x j : Nat} {xs : Nat → Int32} (hs : Scr X b L xs) (hL : L ≤ 2560) (hj : j + 5 ≤ L) {st : St} {z : Nat} {S : MS} {I : MI} {J : MJ} {R : MR} (hJ : Jn x st z S I R) (nx : Nx X b x j) : V X (40 + j) (100000 + 321 * j) z S I J R 557 [some (.ref b), some (.ref x), some (.ref (x + 15)), some (.int (nI j))] [] := by
  obtain ⟨hR, hM, hm, hO⟩ := hJ
  have hxx : S x = (5, 0) := by obtain ⟨sa, hX, -⟩ := hR; exact hX.1
  refine v_aload_n C dL_law_557 rfl ?_
  refine v_aload_n C dL_law_558 rfl ?_
  refine v_iload_n C dL_law_559 rfl ?_
  refine v_iconstN 1 C dL_law_560 ?_
  first | refine v_iaddN C dL_law_561 ?_ | refine v_iadd C dL_law_561 ?_
  refine v_sld C hs (by omega) (by omega) dL_law_562 ?_
  refine v_aload_n C dL_law_563 rfl ?_
  refine v_iload_n C dL_law_564 rfl ?_
  refine v_iconstN 2 C dL_law_565 ?_
  first | refine v_iaddN C dL_law_566 ?_ | refine v_iadd C dL_law_566 ?_
  refine v_sld C hs (by omega) (by omega) dL_law_567 ?_
  refine v_callV2_1 C (m_X4_scatter T B) lk_L_56 ⟨wt_287, wt_288⟩ 4 rfl dL_law_568 ⟨Nat.le_of_ble_eq_true rfl, Nat.le_of_ble_eq_true rfl⟩ (Nat.le_of_ble_eq_true rfl) ⟨by show 40 + j + 0 ≤ 600000; omega, by show 100000 + 321 * j + 0 ≤ 7302250; omega⟩ (by assumption) (cTo_4 (by assumption)) ?_
  refine c_X4_scatter (st := st) hR hO (fun z1 S1 I1 J1 R1 r1 k1 => ?_)
  have hM1 := MoS_kp k1 hM
  have hm1 := Rm_kp k1 hm
  have hxM1 := hM1.1
  refine v_widen (k := 40 + (j + 5)) (n := 100000 + 321 * (j + 5)) (by show 40 + j + 0 ≤ 40 + (j + 5); omega) (by show 100000 + 321 * j + 0 ≤ 100000 + 321 * (j + 5); omega) ?_
  refine v_aload_n C dL_law_571 rfl ?_
  refine v_aload_n C dL_law_572 rfl ?_
  refine v_iload_n C dL_law_573 rfl ?_
  refine v_iconstN 1 C dL_law_574 ?_
  first | refine v_iaddN C dL_law_575 ?_ | refine v_iadd C dL_law_575 ?_
  refine v_sld C hs (by omega) (by omega) dL_law_576 ?_
  refine v_aload_n C dL_law_577 rfl ?_
  refine v_iload_n C dL_law_578 rfl ?_
  refine v_iconstN 2 C dL_law_579 ?_
  first | refine v_iaddN C dL_law_580 ?_ | refine v_iadd C dL_law_580 ?_
  refine v_sld C hs (by omega) (by omega) dL_law_581 ?_
  refine v_callV2_1 C (m_X5_scatter T B) lk_L_59 ⟨wt_661, wt_662⟩ 5 rfl dL_law_582 ⟨Nat.le_of_ble_eq_true rfl, Nat.le_of_ble_eq_true rfl⟩ (Nat.le_of_ble_eq_true rfl) ⟨by show 40 + (j + 5) + 0 ≤ 600000; omega, by show 100000 + 321 * (j + 5) + 0 ≤ 7302250; omega⟩ (by assumption) (cTo_5 (by assumption)) ?_
  refine c_X5_scatter (st := st) hM1 hm1 hO (fun I2 J2 r2 f2 g2 => ?_)
  have hJ2 := Jn_next r1 hM1 r2 f2 (ok_scatter hO _ _)
  refine v_widen (k := 40 + (j + 5)) (n := 100000 + 321 * (j + 5)) (by show 40 + (j + 5) + 0 ≤ 40 + (j + 5); omega) (by show 100000 + 321 * (j + 5) + 0 ≤ 100000 + 321 * (j + 5); omega) ?_
  refine v_icmp_eq C 1176 dL_law_585 (by decide) (fun h585 => ?_) (fun h585 => ?_)
  · exact nx _ _ _ _ _ _ hJ2
  · exact absurd rfl h585
set_option maxRecDepth 100000 in
set_option maxHeartbeats 1000000 in
/-- part -/
theorem law_10 {X : CX} {T : TC} {B : Nat} (C : Cx X "EvenScatterLaw" code room_1 T B 4) {b L x j : Nat} {xs : Nat → Int32} (hs : Scr X b L xs) (hL : L ≤ 2560) (hj : j + 5 ≤ L) {st : St} {z : Nat} {S : MS} {I : MI} {J : MJ} {R : MR} (hJ : Jn x st z S I R) (nx : Nx X b x j) : V X (40 + j) (100000 + 321 * j) z S I J R 590 [some (.ref b), some (.ref x), some (.ref (x + 15)), some (.int (nI j))] [] := by
  obtain ⟨hR, hM, hm, hO⟩ := hJ
  have hxx : S x = (5, 0) := by obtain ⟨sa, hX, -⟩ := hR; exact hX.1
  refine v_aload_n C dL_law_590 rfl ?_
  refine v_aload_n C dL_law_591 rfl ?_
  refine v_iload_n C dL_law_592 rfl ?_
  refine v_iconstN 1 C dL_law_593 ?_
  first | refine v_iaddN C dL_law_594 ?_ | refine v_iadd C dL_law_594 ?_
  refine v_sld C hs (by omega) (by omega) dL_law_595 ?_
  refine v_aload_n C dL_law_596 rfl ?_
  refine v_iload_n C dL_law_597 rfl ?_
  refine v_iconstN 2 C dL_law_598 ?_
  first | refine v_iaddN C dL_law_599 ?_ | refine v_iadd C dL_law_599 ?_
  refine v_sld C hs (by omega) (by omega) dL_law_600 ?_
  refine v_aload_n C dL_law_601 rfl ?_
  refine v_iload_n C dL_law_602 rfl ?_
  refine v_iconstN 3 C dL_law_603 ?_
  first | refine v_iaddN C dL_law_604 ?_ | refine v_iadd C dL_law_604 ?_
  refine v_sld C hs (by omega) (by omega) dL_law_605 ?_
  refine v_callV3_1 C (m_X4_part T B) lk_L_60 ⟨wt_291, wt_292⟩ 4 rfl dL_law_606 ⟨Nat.le_of_ble_eq_true rfl, Nat.le_of_ble_eq_true rfl⟩ (Nat.le_of_ble_eq_true rfl) ⟨by show 40 + j + 0 ≤ 600000; omega, by show 100000 + 321 * j + 0 ≤ 7302250; omega⟩ (by assumption) (cTo_4 (by assumption)) ?_
  refine c_X4_part (st := st) hR hO (fun z1 S1 I1 J1 R1 r1 k1 => ?_)
  have hM1 := MoS_kp k1 hM
  have hm1 := Rm_kp k1 hm
  have hxM1 := hM1.1
  refine v_widen (k := 40 + (j + 5)) (n := 100000 + 321 * (j + 5)) (by show 40 + j + 0 ≤ 40 + (j + 5); omega) (by show 100000 + 321 * j + 0 ≤ 100000 + 321 * (j + 5); omega) ?_
  refine v_aload_n C dL_law_609 rfl ?_
  refine v_aload_n C dL_law_610 rfl ?_
  refine v_iload_n C dL_law_611 rfl ?_
  refine v_iconstN 1 C dL_law_612 ?_
  first | refine v_iaddN C dL_law_613 ?_ | refine v_iadd C dL_law_613 ?_
  refine v_sld C hs (by omega) (by omega) dL_law_614 ?_
  refine v_aload_n C dL_law_615 rfl ?_
  refine v_iload_n C dL_law_616 rfl ?_
  refine v_iconstN 2 C dL_law_617 ?_
  first | refine v_iaddN C dL_law_618 ?_ | refine v_iadd C dL_law_618 ?_
  refine v_sld C hs (by omega) (by omega) dL_law_619 ?_
  refine v_aload_n C dL_law_620 rfl ?_
  refine v_iload_n C dL_law_621 rfl ?_
  refine v_iconstN 3 C dL_law_622 ?_
  first | refine v_iaddN C dL_law_623 ?_ | refine v_iadd C dL_law_623 ?_
  refine v_sld C hs (by omega) (by omega) dL_law_624 ?_
  refine v_callV3_1 C (m_X5_part T B) lk_L_63 ⟨wt_665, wt_666⟩ 5 rfl dL_law_625 ⟨Nat.le_of_ble_eq_true rfl, Nat.le_of_ble_eq_true rfl⟩ (Nat.le_of_ble_eq_true rfl) ⟨by show 40 + (j + 5) + 0 ≤ 600000; omega, by show 100000 + 321 * (j + 5) + 0 ≤ 7302250; omega⟩ (by assumption) (cTo_5 (by assumption)) ?_
  refine c_X5_part (st := st) hM1 hm1 hO (fun I2 J2 r2 f2 g2 => ?_)
  have hJ2 := Jn_next r1 hM1 r2 f2 (ok_part hO _ _ _)
  refine v_widen (k := 40 + (j + 5)) (n := 100000 + 321 * (j + 5)) (by show 40 + (j + 5) + 0 ≤ 40 + (j + 5); omega) (by show 100000 + 321 * (j + 5) + 0 ≤ 100000 + 321 * (j + 5); omega) ?_
  refine v_icmp_eq C 1176 dL_law_628 (by decide) (fun h628 => ?_) (fun h628 => ?_)
  · exact nx _ _ _ _ _ _ hJ2
  · exact absurd rfl h628
set_option maxRecDepth 100000 in
set_option maxHeartbeats 1000000 in
/-- next -/
theorem law_11 {X : CX} {T : TC} {B : Nat} (C : Cx X "EvenScatterLaw" code room_1 T B 4) {b L x j : Nat} {xs : Nat → Int32} (hs : Scr X b L xs) (hL : L ≤ 2560) (hj : j + 5 ≤ L) {st : St} {z : Nat} {S : MS} {I : MI} {J : MJ} {R : MR} (hJ : Jn x st z S I R) (nx : Nx X b x j) : V X (40 + j) (100000 + 321 * j) z S I J R 633 [some (.ref b), some (.ref x), some (.ref (x + 15)), some (.int (nI j))] [] := by
  obtain ⟨hR, hM, hm, hO⟩ := hJ
  have hxx : S x = (5, 0) := by obtain ⟨sa, hX, -⟩ := hR; exact hX.1
  refine v_aload_n C dL_law_633 rfl ?_
  refine v_aload_n C dL_law_634 rfl ?_
  refine v_iload_n C dL_law_635 rfl ?_
  refine v_iconstN 1 C dL_law_636 ?_
  first | refine v_iaddN C dL_law_637 ?_ | refine v_iadd C dL_law_637 ?_
  refine v_sld C hs (by omega) (by omega) dL_law_638 ?_
  refine v_callV1_1 C (m_X4_next T B) lk_L_64 ⟨wt_299, wt_300⟩ 4 rfl dL_law_639 ⟨Nat.le_of_ble_eq_true rfl, Nat.le_of_ble_eq_true rfl⟩ (Nat.le_of_ble_eq_true rfl) ⟨by show 40 + j + 0 ≤ 600000; omega, by show 100000 + 321 * j + 0 ≤ 7302250; omega⟩ (by assumption) (cTo_4 (by assumption)) ?_
  refine c_X4_next (st := st) hR hO (fun z1 S1 I1 J1 R1 r1 k1 => ?_)
  have hM1 := MoS_kp k1 hM
  have hm1 := Rm_kp k1 hm
  have hxM1 := hM1.1
  refine v_widen (k := 40 + (j + 5)) (n := 100000 + 321 * (j + 5)) (by show 40 + j + 0 ≤ 40 + (j + 5); omega) (by show 100000 + 321 * j + 0 ≤ 100000 + 321 * (j + 5); omega) ?_
  refine v_aload_n C dL_law_642 rfl ?_
  refine v_aload_n C dL_law_643 rfl ?_
  refine v_iload_n C dL_law_644 rfl ?_
  refine v_iconstN 1 C dL_law_645 ?_
  first | refine v_iaddN C dL_law_646 ?_ | refine v_iadd C dL_law_646 ?_
  refine v_sld C hs (by omega) (by omega) dL_law_647 ?_
  refine v_callV1_1 C (m_X5_next T B) lk_L_67 ⟨wt_676, wt_677⟩ 5 rfl dL_law_648 ⟨Nat.le_of_ble_eq_true rfl, Nat.le_of_ble_eq_true rfl⟩ (Nat.le_of_ble_eq_true rfl) ⟨by show 40 + (j + 5) + 0 ≤ 600000; omega, by show 100000 + 321 * (j + 5) + 0 ≤ 7302250; omega⟩ (by assumption) (cTo_5 (by assumption)) ?_
  refine c_X5_next (st := st) hM1 hm1 hO (fun I2 J2 r2 f2 g2 => ?_)
  have hJ2 := Jn_next r1 hM1 r2 f2 (ok_next hO _)
  refine v_widen (k := 40 + (j + 5)) (n := 100000 + 321 * (j + 5)) (by show 40 + (j + 5) + 0 ≤ 40 + (j + 5); omega) (by show 100000 + 321 * (j + 5) + 0 ≤ 100000 + 321 * (j + 5); omega) ?_
  refine v_icmp_eq C 1176 dL_law_651 (by decide) (fun h651 => ?_) (fun h651 => ?_)
  · exact nx _ _ _ _ _ _ hJ2
  · exact absurd rfl h651
set_option maxRecDepth 100000 in
set_option maxHeartbeats 1000000 in
/-- skip -/
theorem law_12 {X : CX} {T : TC} {B : Nat} (C : Cx X "EvenScatterLaw" code room_1 T B 4) {b L x j : Nat} {xs : Nat → Int32} (hs : Scr X b L xs) (hL : L ≤ 2560) (hj : j + 5 ≤ L) {st : St} {z : Nat} {S : MS} {I : MI} {J : MJ} {R : MR} (hJ : Jn x st z S I R) (nx : Nx X b x j) : V X (40 + j) (100000 + 321 * j) z S I J R 656 [some (.ref b), some (.ref x), some (.ref (x + 15)), some (.int (nI j))] [] := by
  obtain ⟨hR, hM, hm, hO⟩ := hJ
  have hxx : S x = (5, 0) := by obtain ⟨sa, hX, -⟩ := hR; exact hX.1
  refine v_aload_n C dL_law_656 rfl ?_
  refine v_aload_n C dL_law_657 rfl ?_
  refine v_iload_n C dL_law_658 rfl ?_
  refine v_iconstN 1 C dL_law_659 ?_
  first | refine v_iaddN C dL_law_660 ?_ | refine v_iadd C dL_law_660 ?_
  refine v_sld C hs (by omega) (by omega) dL_law_661 ?_
  refine v_aload_n C dL_law_662 rfl ?_
  refine v_iload_n C dL_law_663 rfl ?_
  refine v_iconstN 2 C dL_law_664 ?_
  first | refine v_iaddN C dL_law_665 ?_ | refine v_iadd C dL_law_665 ?_
  refine v_sld C hs (by omega) (by omega) dL_law_666 ?_
  refine v_callV2_1 C (m_X4_skip T B) lk_L_68 ⟨wt_308, wt_309⟩ 4 rfl dL_law_667 ⟨Nat.le_of_ble_eq_true rfl, Nat.le_of_ble_eq_true rfl⟩ (Nat.le_of_ble_eq_true rfl) ⟨by show 40 + j + 0 ≤ 600000; omega, by show 100000 + 321 * j + 0 ≤ 7302250; omega⟩ (by assumption) (cTo_4 (by assumption)) ?_
  refine c_X4_skip (st := st) hR hO (fun z1 S1 I1 J1 R1 r1 k1 => ?_)
  have hM1 := MoS_kp k1 hM
  have hm1 := Rm_kp k1 hm
  have hxM1 := hM1.1
  refine v_widen (k := 40 + (j + 5)) (n := 100000 + 321 * (j + 5)) (by show 40 + j + 0 ≤ 40 + (j + 5); omega) (by show 100000 + 321 * j + 0 ≤ 100000 + 321 * (j + 5); omega) ?_
  refine v_aload_n C dL_law_670 rfl ?_
  refine v_aload_n C dL_law_671 rfl ?_
  refine v_iload_n C dL_law_672 rfl ?_
  refine v_iconstN 1 C dL_law_673 ?_
  first | refine v_iaddN C dL_law_674 ?_ | refine v_iadd C dL_law_674 ?_
  refine v_sld C hs (by omega) (by omega) dL_law_675 ?_
  refine v_aload_n C dL_law_676 rfl ?_
  refine v_iload_n C dL_law_677 rfl ?_
  refine v_iconstN 2 C dL_law_678 ?_
  first | refine v_iaddN C dL_law_679 ?_ | refine v_iadd C dL_law_679 ?_
  refine v_sld C hs (by omega) (by omega) dL_law_680 ?_
  refine v_callV2_1 C (m_X5_skip T B) lk_L_71 ⟨wt_681, wt_682⟩ 5 rfl dL_law_681 ⟨Nat.le_of_ble_eq_true rfl, Nat.le_of_ble_eq_true rfl⟩ (Nat.le_of_ble_eq_true rfl) ⟨by show 40 + (j + 5) + 0 ≤ 600000; omega, by show 100000 + 321 * (j + 5) + 0 ≤ 7302250; omega⟩ (by assumption) (cTo_5 (by assumption)) ?_
  refine c_X5_skip (st := st) hM1 hm1 hO (fun I2 J2 r2 f2 g2 => ?_)
  have hJ2 := Jn_next r1 hM1 r2 f2 (ok_skip hO _ _)
  refine v_widen (k := 40 + (j + 5)) (n := 100000 + 321 * (j + 5)) (by show 40 + (j + 5) + 0 ≤ 40 + (j + 5); omega) (by show 100000 + 321 * (j + 5) + 0 ≤ 100000 + 321 * (j + 5); omega) ?_
  refine v_icmp_eq C 1176 dL_law_684 (by decide) (fun h684 => ?_) (fun h684 => ?_)
  · exact nx _ _ _ _ _ _ hJ2
  · exact absurd rfl h684
set_option maxRecDepth 100000 in
set_option maxHeartbeats 1000000 in
/-- side -/
theorem law_13 {X : CX} {T : TC} {B : Nat} (C : Cx X "EvenScatterLaw" code room_1 T B 4) {b L x j : Nat} {xs : Nat → Int32} (hs : Scr X b L xs) (hL : L ≤ 2560) (hj : j + 5 ≤ L) {st : St} {z : Nat} {S : MS} {I : MI} {J : MJ} {R : MR} (hJ : Jn x st z S I R) (nx : Nx X b x j) : V X (40 + j) (100000 + 321 * j) z S I J R 689 [some (.ref b), some (.ref x), some (.ref (x + 15)), some (.int (nI j))] [] := by
  obtain ⟨hR, hM, hm, hO⟩ := hJ
  have hxx : S x = (5, 0) := by obtain ⟨sa, hX, -⟩ := hR; exact hX.1
  refine v_aload_n C dL_law_689 rfl ?_
  refine v_aload_n C dL_law_690 rfl ?_
  refine v_iload_n C dL_law_691 rfl ?_
  refine v_iconstN 1 C dL_law_692 ?_
  first | refine v_iaddN C dL_law_693 ?_ | refine v_iadd C dL_law_693 ?_
  refine v_sld C hs (by omega) (by omega) dL_law_694 ?_
  refine v_aload_n C dL_law_695 rfl ?_
  refine v_iload_n C dL_law_696 rfl ?_
  refine v_iconstN 2 C dL_law_697 ?_
  first | refine v_iaddN C dL_law_698 ?_ | refine v_iadd C dL_law_698 ?_
  refine v_sld C hs (by omega) (by omega) dL_law_699 ?_
  refine v_aload_n C dL_law_700 rfl ?_
  refine v_iload_n C dL_law_701 rfl ?_
  refine v_iconstN 3 C dL_law_702 ?_
  first | refine v_iaddN C dL_law_703 ?_ | refine v_iadd C dL_law_703 ?_
  refine v_sld C hs (by omega) (by omega) dL_law_704 ?_
  refine v_callV3_1 C (m_X4_side T B) lk_L_72 ⟨wt_312, wt_313⟩ 4 rfl dL_law_705 ⟨Nat.le_of_ble_eq_true rfl, Nat.le_of_ble_eq_true rfl⟩ (Nat.le_of_ble_eq_true rfl) ⟨by show 40 + j + 0 ≤ 600000; omega, by show 100000 + 321 * j + 0 ≤ 7302250; omega⟩ (by assumption) (cTo_4 (by assumption)) ?_
  refine c_X4_side (st := st) hR hO (fun z1 S1 I1 J1 R1 r1 k1 => ?_)
  have hM1 := MoS_kp k1 hM
  have hm1 := Rm_kp k1 hm
  have hxM1 := hM1.1
  refine v_widen (k := 40 + (j + 5)) (n := 100000 + 321 * (j + 5)) (by show 40 + j + 0 ≤ 40 + (j + 5); omega) (by show 100000 + 321 * j + 0 ≤ 100000 + 321 * (j + 5); omega) ?_
  refine v_aload_n C dL_law_708 rfl ?_
  refine v_aload_n C dL_law_709 rfl ?_
  refine v_iload_n C dL_law_710 rfl ?_
  refine v_iconstN 1 C dL_law_711 ?_
  first | refine v_iaddN C dL_law_712 ?_ | refine v_iadd C dL_law_712 ?_
  refine v_sld C hs (by omega) (by omega) dL_law_713 ?_
  refine v_aload_n C dL_law_714 rfl ?_
  refine v_iload_n C dL_law_715 rfl ?_
  refine v_iconstN 2 C dL_law_716 ?_
  first | refine v_iaddN C dL_law_717 ?_ | refine v_iadd C dL_law_717 ?_
  refine v_sld C hs (by omega) (by omega) dL_law_718 ?_
  refine v_aload_n C dL_law_719 rfl ?_
  refine v_iload_n C dL_law_720 rfl ?_
  refine v_iconstN 3 C dL_law_721 ?_
  first | refine v_iaddN C dL_law_722 ?_ | refine v_iadd C dL_law_722 ?_
  refine v_sld C hs (by omega) (by omega) dL_law_723 ?_
  refine v_callV3_1 C (m_X5_side T B) lk_L_75 ⟨wt_685, wt_686⟩ 5 rfl dL_law_724 ⟨Nat.le_of_ble_eq_true rfl, Nat.le_of_ble_eq_true rfl⟩ (Nat.le_of_ble_eq_true rfl) ⟨by show 40 + (j + 5) + 0 ≤ 600000; omega, by show 100000 + 321 * (j + 5) + 0 ≤ 7302250; omega⟩ (by assumption) (cTo_5 (by assumption)) ?_
  refine c_X5_side (st := st) hM1 hm1 hO (fun I2 J2 r2 f2 g2 => ?_)
  have hJ2 := Jn_next r1 hM1 r2 f2 (ok_side hO _ _ _)
  refine v_widen (k := 40 + (j + 5)) (n := 100000 + 321 * (j + 5)) (by show 40 + (j + 5) + 0 ≤ 40 + (j + 5); omega) (by show 100000 + 321 * (j + 5) + 0 ≤ 100000 + 321 * (j + 5); omega) ?_
  refine v_icmp_eq C 1176 dL_law_727 (by decide) (fun h727 => ?_) (fun h727 => ?_)
  · exact nx _ _ _ _ _ _ hJ2
  · exact absurd rfl h727
