def s_X5_square : Sp := fun av z S I J R Post => ∃ (M : Nat), ∃ (st : St), ∃ (s w : Int32), av = [.ref M, .int s, .int w] ∧ (MoS S R M) ∧ (Rm M st I) ∧ (Ok st) ∧ (Mq M (o_square st s w).2 I J (fun I' J' => Post 0 (o_square st s w).1 none z S I' J' R))
theorem c_X5_square {M : Nat} {st : St} {s w : Int32} {z : Nat} {S : MS} {I : MI} {J : MJ} {R : MR} {Post : PT} (hM : MoS S R M) (hR : Rm M st I) (hO : Ok st) (hp : Mq M (o_square st s w).2 I J (fun I' J' => Post 0 (o_square st s w).1 none z S I' J' R)) : s_X5_square [.ref M, .int s, .int w] z S I J R Post := ⟨M, st, s, w, rfl, hM, hR, hO, hp⟩
set_option maxRecDepth 100000 in
set_option maxHeartbeats 4000000 in
theorem m_X5_square (T : TC) (B : Nat) : Mt T B yX5_square cX5_square 19 (some .long) 2 (rmL 3 0 0) s_X5_square := by
  refine Mt_of rfl (by rintro _ _ _ _ _ _ _ ⟨_, _, _, _, rfl, -⟩; exact Nat.le_of_ble_eq_true rfl) ?_
  intro X av z S I J R Post h C Q hI
  obtain ⟨M, st, s, w, rfl, hM, hR, hO, hp⟩ := h
  have hn12 := hO.1
  obtain ⟨hn, htl, hms, htr, hrf⟩ := id hR
  obtain ⟨hS0, hr1, hr2, hr3, hr4, hr5, hr6, hr7, hr8, hr9, hr10, hr11, hr12, hr14, hr15, hr16, hr17, hr18, hr19, hr20, hs1, hs2, hs3, hs4, hs5, hs6, hs7, hs8, hs9, hs10, hs11, hs12, hs13, hs14, hs15, hs16, hs17, hs18, hs19⟩ := id hM
  unfold o_square at hp
  rcases Oo_or s st.1 (by omega) with ho | ⟨k, hk, rfl⟩
  · rw [onS_o ho] at hp
    refine v_aload_n C dX5_square_0 rfl ?_
    refine v_iload_n C dX5_square_1 rfl ?_
    refine v_callV1_1 C (m_X5_isScatter T B) lk_X5_80 ⟨wt_624, ws_22⟩ 5 rfl dX5_square_2 ⟨Nat.le_of_ble_eq_true rfl, Nat.le_of_ble_eq_true rfl⟩ (Nat.le_of_ble_eq_true rfl) ⟨Nat.le_of_ble_eq_true rfl, Nat.le_of_ble_eq_true rfl⟩ (by assumption) (cTo_5 (by assumption)) ?_
    refine c_isS_o hM hn hn12 ho ?_
    first | refine v_if_neN C 14 dX5_square_5 (by omega) (by decide) (fun h5 => ?_) (fun h5 => ?_) | refine v_if_ne C 14 dX5_square_5 (by decide) (fun h5 => ?_) (fun h5 => ?_)
    · exact absurd h5 (by decide)
    · refine v_aload_n C dX5_square_8 rfl ?_
      refine v_iconst (v := -1) C dX5_square_9 (by decide) ?_
      refine v_callV1_2 C (m_X5_refuseLong T B) lk_X5_143 ⟨wt_739, ws_28⟩ 5 rfl dX5_square_10 ⟨Nat.le_of_ble_eq_true rfl, Nat.le_of_ble_eq_true rfl⟩ (Nat.le_of_ble_eq_true rfl) ⟨Nat.le_of_ble_eq_true rfl, Nat.le_of_ble_eq_true rfl⟩ (by assumption) (cTo_5 (by assumption)) ?_
      refine c_X5_refuseLong (k := 1) hM (by decide) (by decide) ?_
      refine v_lret C Q dX5_square_13 (Nat.le_of_ble_eq_true rfl) (Nat.le_of_ble_eq_true rfl) ?_
      have w := Mq_rf (k := 1) hR (by decide) hp
      exact w
  · have hMs := hms k (by omega)
    have hMs0 := hMs
    obtain ⟨hk1, hk2, hk3, hk4, hk5, hk6, hk7, hk8, hk9⟩ := hMs
    have hOk := hO.2.1 k hk
    obtain ⟨o1, o2, o3, o4, o5, o6, o7, o8, o9, o10, o11, o12⟩ := id hOk
    rw [onS_k hk (by omega)] at hp
    rcases Oo_or w 2 (by omega) with hq | ⟨v, hv, rfl⟩
    · rw [onS_o hq] at hp
      refine v_aload_n C dX5_square_0 rfl ?_
      refine v_iload_n C dX5_square_1 rfl ?_
      refine v_callV1_1 C (m_X5_isScatter T B) lk_X5_80 ⟨wt_624, ws_22⟩ 5 rfl dX5_square_2 ⟨Nat.le_of_ble_eq_true rfl, Nat.le_of_ble_eq_true rfl⟩ (Nat.le_of_ble_eq_true rfl) ⟨Nat.le_of_ble_eq_true rfl, Nat.le_of_ble_eq_true rfl⟩ (by assumption) (cTo_5 (by assumption)) ?_
      refine c_isS_k hM hn hn12 hk ?_
      first | refine v_if_neN C 14 dX5_square_5 (by omega) (by decide) (fun h5 => ?_) (fun h5 => ?_) | refine v_if_ne C 14 dX5_square_5 (by decide) (fun h5 => ?_) (fun h5 => ?_)
      · refine v_iload_n C dX5_square_14 rfl ?_
        refine v_i2l C dX5_square_15 ?_
        refine v_lconst (v := lN 0) C dX5_square_16 rfl ?_
        refine v_lconst (v := lN 1) C dX5_square_17 rfl ?_
        refine v_callS3_1 C (m_X5_in T B) lk_X5_76 wt_627 dX5_square_18 ⟨Nat.le_of_ble_eq_true rfl, Nat.le_of_ble_eq_true rfl⟩ (Nat.le_of_ble_eq_true rfl) ⟨Nat.le_of_ble_eq_true rfl, Nat.le_of_ble_eq_true rfl⟩ ?_
        refine c_inN_o (n := 1) (by decide) hq ?_
        first | refine v_if_neN C 31 dX5_square_21 (by omega) (by decide) (fun h21 => ?_) (fun h21 => ?_) | refine v_if_ne C 31 dX5_square_21 (by decide) (fun h21 => ?_) (fun h21 => ?_)
        · exact absurd h21 (by decide)
        · refine v_aload_n C dX5_square_24 rfl ?_
          refine v_bipush (v := -2) C dX5_square_25 (by decide) ?_
          refine v_callV1_2 C (m_X5_refuseLong T B) lk_X5_143 ⟨wt_739, ws_28⟩ 5 rfl dX5_square_27 ⟨Nat.le_of_ble_eq_true rfl, Nat.le_of_ble_eq_true rfl⟩ (Nat.le_of_ble_eq_true rfl) ⟨Nat.le_of_ble_eq_true rfl, Nat.le_of_ble_eq_true rfl⟩ (by assumption) (cTo_5 (by assumption)) ?_
          refine c_X5_refuseLong (k := 2) hM (by decide) (by decide) ?_
          refine v_lret C Q dX5_square_30 (Nat.le_of_ble_eq_true rfl) (Nat.le_of_ble_eq_true rfl) ?_
          have w := Mq_rf (k := 2) hR (by decide) hp
          exact w
      · exact absurd h5 (by decide)
    · rw [onS_k hv (by omega)] at hp
      by_cases hmm : st.2.1 k 2 0 ≤ 3 ∧ st.2.1 k 4 0 ≤ 64
      · rw [if_pos hmm] at hp
        obtain ⟨b1, b2', b3⟩ := sq_bd o5 hmm.1 hmm.2
        have hPl := fun n j => prt_lt hOk n j
        unfold sqT at b1 hp
        generalize hd0 : st.2.1 k 2 0 = d at *
        generalize hc0 : st.2.1 k 4 0 = c at *
        generalize hP0 : prt (st.2.1 k) = P at *
        have fin : V X 0 0 z S I J R 240 [some (.ref M), some (.int (nI k)), some (.int (nI v)), some (.int (nI d)), some (.long (lN c)), none, some (.long (lN (sumN (ptS P c d) c))), none, some (.long (lN (sumN (fun n => sumN (prS P c d n) c) c))), none, none, none, none, none, none, none, none, none, none] [] := by
          generalize hpt : sumN (ptS P c d) c = pt at *
          generalize hprs : sumN (fun n => sumN (prS P c d n) c) c = prs at *
          have etop : lN (c ^ (2 * d + 1) * 2 ^ (d - 1)) - lN (pt * 3 ^ d) + lN (prs * 3 ^ d * 2 ^ (d - 1) * c ^ (d - 1)) = lN (2 ^ (d - 1) * c ^ (2 * d + 1)) - lN (3 ^ d * pt) + lN (3 ^ d * 2 ^ (d - 1) * (prs * c ^ (d - 1))) := by
            rw [Nat.mul_comm (c ^ (2 * d + 1)), Nat.mul_comm pt, show prs * 3 ^ d * 2 ^ (d - 1) * c ^ (d - 1) = 3 ^ d * 2 ^ (d - 1) * (prs * c ^ (d - 1)) from by
              rw [Nat.mul_assoc prs, Nat.mul_comm prs, Nat.mul_assoc]]
          refine v_ldc2 C dX5_square_240 wt_767 ?_
          refine v_eql (x' := lN 3) (by decide +kernel) ?_
          refine v_iload_n C dX5_square_243 rfl ?_
          refine v_callS2_2 C (m_X5_power T B) lk_X5_140 wt_751 dX5_square_244 ⟨Nat.le_of_ble_eq_true rfl, Nat.le_of_ble_eq_true rfl⟩ (Nat.le_of_ble_eq_true rfl) ⟨Nat.le_of_ble_eq_true rfl, Nat.le_of_ble_eq_true rfl⟩ ?_
          refine c_X5_power (by omega) ?_
          refine v_lstore C dX5_square_247 (by decide) ?_
          refine v_ldc2 C dX5_square_249 wt_768 ?_
          refine v_eql (x' := lN 2) (by decide +kernel) ?_
          refine v_iload_n C dX5_square_252 rfl ?_
          refine v_iconstN 1 C dX5_square_253 ?_
          first | refine v_isubN C dX5_square_254 (by omega) ?_ | refine v_isub C dX5_square_254 ?_
          refine v_callS2_2 C (m_X5_power T B) lk_X5_140 wt_751 dX5_square_255 ⟨Nat.le_of_ble_eq_true rfl, Nat.le_of_ble_eq_true rfl⟩ (Nat.le_of_ble_eq_true rfl) ⟨Nat.le_of_ble_eq_true rfl, Nat.le_of_ble_eq_true rfl⟩ ?_
          refine c_X5_power (by omega) ?_
          refine v_lstore C dX5_square_258 (by decide) ?_
          refine v_lload C dX5_square_260 rfl ?_
          refine v_iconstN 2 C dX5_square_262 ?_
          refine v_iload_n C dX5_square_263 rfl ?_
          first | refine v_imulN C dX5_square_264 ?_ | refine v_imul C dX5_square_264 ?_
          refine v_iconstN 1 C dX5_square_265 ?_
          first | refine v_iaddN C dX5_square_266 ?_ | refine v_iadd C dX5_square_266 ?_
          refine v_callS2_2 C (m_X5_power T B) lk_X5_140 wt_751 dX5_square_267 ⟨Nat.le_of_ble_eq_true rfl, Nat.le_of_ble_eq_true rfl⟩ (Nat.le_of_ble_eq_true rfl) ⟨Nat.le_of_ble_eq_true rfl, Nat.le_of_ble_eq_true rfl⟩ ?_
          refine c_X5_power (by omega) ?_
          refine v_lload C dX5_square_270 rfl ?_
          first | refine v_lmulN C dX5_square_272 ?_ | refine v_lmul C dX5_square_272 ?_
          refine v_lload C dX5_square_273 rfl ?_
          refine v_lload C dX5_square_275 rfl ?_
          first | refine v_lmulN C dX5_square_277 ?_ | refine v_lmul C dX5_square_277 ?_
          refine v_lsub C dX5_square_278 ?_
          refine v_lload C dX5_square_279 rfl ?_
          refine v_lload C dX5_square_281 rfl ?_
          first | refine v_lmulN C dX5_square_283 ?_ | refine v_lmul C dX5_square_283 ?_
          refine v_lload C dX5_square_284 rfl ?_
          first | refine v_lmulN C dX5_square_286 ?_ | refine v_lmul C dX5_square_286 ?_
          refine v_lload C dX5_square_287 rfl ?_
          refine v_iload_n C dX5_square_289 rfl ?_
          refine v_iconstN 1 C dX5_square_290 ?_
          first | refine v_isubN C dX5_square_291 (by omega) ?_ | refine v_isub C dX5_square_291 ?_
          refine v_callS2_2 C (m_X5_power T B) lk_X5_140 wt_751 dX5_square_292 ⟨Nat.le_of_ble_eq_true rfl, Nat.le_of_ble_eq_true rfl⟩ (Nat.le_of_ble_eq_true rfl) ⟨Nat.le_of_ble_eq_true rfl, Nat.le_of_ble_eq_true rfl⟩ ?_
          refine c_X5_power (by omega) ?_
          first | refine v_lmulN C dX5_square_295 ?_ | refine v_lmul C dX5_square_295 ?_
          refine v_ladd C dX5_square_296 ?_
          rw [etop]
          refine v_lstore C dX5_square_297 (by decide) ?_
          refine v_lload C dX5_square_299 rfl ?_
          refine v_lload C dX5_square_301 rfl ?_
          refine v_lload C dX5_square_303 rfl ?_
          first | refine v_lmulN C dX5_square_305 ?_ | refine v_lmul C dX5_square_305 ?_
          refine v_lload C dX5_square_306 rfl ?_
          refine v_iconstN 2 C dX5_square_308 ?_
          refine v_iload_n C dX5_square_309 rfl ?_
          first | refine v_imulN C dX5_square_310 ?_ | refine v_imul C dX5_square_310 ?_
          refine v_iconstN 1 C dX5_square_311 ?_
          first | refine v_iaddN C dX5_square_312 ?_ | refine v_iadd C dX5_square_312 ?_
          refine v_callS2_2 C (m_X5_power T B) lk_X5_140 wt_751 dX5_square_313 ⟨Nat.le_of_ble_eq_true rfl, Nat.le_of_ble_eq_true rfl⟩ (Nat.le_of_ble_eq_true rfl) ⟨Nat.le_of_ble_eq_true rfl, Nat.le_of_ble_eq_true rfl⟩ ?_
          refine c_X5_power (by omega) ?_
          first | refine v_lmulN C dX5_square_316 ?_ | refine v_lmul C dX5_square_316 ?_
          refine v_iload_n C dX5_square_317 rfl ?_
          first | refine v_if_neN C 325 dX5_square_318 (by omega) (by decide) (fun h318 => ?_) (fun h318 => ?_) | refine v_if_ne C 325 dX5_square_318 (by decide) (fun h318 => ?_) (fun h318 => ?_)
          · rw [show decide (v = 1) = decide (0 = 0) from by rw [decide_eq_true (show v = 1 by omega), decide_eq_true rfl]] at hp
            refine v_iconstN 0 C dX5_square_325 ?_
            refine v_callS3_2 C (m_X5_ratio T B) lk_X5_151 wt_754 dX5_square_326 ⟨Nat.le_of_ble_eq_true rfl, Nat.le_of_ble_eq_true rfl⟩ (Nat.le_of_ble_eq_true rfl) ⟨Nat.le_of_ble_eq_true rfl, Nat.le_of_ble_eq_true rfl⟩ ?_
            refine c_X5_ratio b1 b2' b3 (by omega) ?_
            refine v_lret C Q dX5_square_329 (Nat.le_of_ble_eq_true rfl) (Nat.le_of_ble_eq_true rfl) ?_
            have w := Mq_same hR hp
            exact w
          · rw [show decide (v = 1) = decide (1 = 0) from by rw [decide_eq_false (show ¬ v = 1 by omega), decide_eq_false (by decide)]] at hp
            refine v_iconstN 1 C dX5_square_321 ?_
            refine v_goto C 326 dX5_square_322 (by decide) ?_
            refine v_callS3_2 C (m_X5_ratio T B) lk_X5_151 wt_754 dX5_square_326 ⟨Nat.le_of_ble_eq_true rfl, Nat.le_of_ble_eq_true rfl⟩ (Nat.le_of_ble_eq_true rfl) ⟨Nat.le_of_ble_eq_true rfl, Nat.le_of_ble_eq_true rfl⟩ ?_
            refine c_X5_ratio b1 b2' b3 (by omega) ?_
            refine v_lret C Q dX5_square_329 (Nat.le_of_ble_eq_true rfl) (Nat.le_of_ble_eq_true rfl) ?_
            have w := Mq_same hR hp
            exact w
        have in3 : ∀ n q : Nat, n < c → q < c → ∀ j : Nat, j ≤ d →
            V X 0 0 z S I J R 149 [some (.ref M), some (.int (nI k)), some (.int (nI v)), some (.int (nI d)), some (.long (lN c)), none, some (.long (lN (sumN (ptS P c d) (n + 1)))), none, some (.long (lN (sumN (fun n => sumN (prS P c d n) c) n + sumN (prS P c d n) (q + 1)))), none, some (.int (nI n)), none, none, some (.int (nI (q + 1))), none, none, none, none, none] [] →
            V X 0 0 z S I J R 164 [some (.ref M), some (.int (nI k)), some (.int (nI v)), some (.int (nI d)), some (.long (lN c)), none, some (.long (lN (sumN (ptS P c d) (n + 1)))), none, some (.long (lN (sumN (fun n => sumN (prS P c d n) c) n + sumN (prS P c d n) q))), none, some (.int (nI n)), none, none, some (.int (nI q)), some (.long (lN (prodN (fun j => c - max (P n j) (P q j)) j))), none, some (.int (nI j)), none, none] [] := by
          intro n q hn hq
          refine lp_up d ?_
          intro j hj ih K
          have p1 := hPl n j
          have p2 := hPl q j
          have hmx : max (P n j) (P q j) ≤ c := Nat.max_le.mpr ⟨by omega, by omega⟩
          have nx : j < d → ∀ e : Nat, e = max (P n j) (P q j) → V X 0 0 z S I J R 210 [some (.ref M), some (.int (nI k)), some (.int (nI v)), some (.int (nI d)), some (.long (lN c)), none, some (.long (lN (sumN (ptS P c d) (n + 1)))), none, some (.long (lN (sumN (fun n => sumN (prS P c d n) c) n + sumN (prS P c d n) q))), none, some (.int (nI n)), none, none, some (.int (nI q)), none, none, some (.int (nI j)), none, none] [.int (nI e), .long (lN c), .long (lN (prodN (fun j => c - max (P n j) (P q j)) j))] := by
            intro hlt e he
            subst he
            first | refine v_i2lN C dX5_square_210 (by omega) ?_ | refine v_i2l C dX5_square_210 ?_
            refine v_lsub C dX5_square_211 ?_
            rw [lN_sub hmx]
            first | refine v_lmulN C dX5_square_212 ?_ | refine v_lmul C dX5_square_212 ?_
            refine v_lstore C dX5_square_213 (by decide) ?_
            first | refine v_iincN 1 C dX5_square_215 rfl (by decide) ?_ | refine v_iinc C dX5_square_215 rfl rfl (by decide) ?_
            refine v_goto C 164 dX5_square_218 (by decide) ?_
            exact v_less (ih hlt K) (by repeat (first | exact trivial | refine And.intro rfl ?_))
          refine v_iload C dX5_square_164 rfl ?_
          refine v_iload_n C dX5_square_166 rfl ?_
          first | refine v_icmp_geN C 221 dX5_square_167 (by omega) (by omega) (by decide) (fun h167 => ?_) (fun h167 => ?_) | refine v_icmp_ge C 221 dX5_square_167 (by decide) (fun h167 => ?_) (fun h167 => ?_)
          · refine v_lload C dX5_square_221 rfl ?_
            refine v_lload C dX5_square_223 rfl ?_
            first | refine v_laddN C dX5_square_225 ?_ | refine v_ladd C dX5_square_225 ?_
            refine v_lstore C dX5_square_226 (by decide) ?_
            first | refine v_iincN 1 C dX5_square_228 rfl (by decide) ?_ | refine v_iinc C dX5_square_228 rfl rfl (by decide) ?_
            refine v_goto C 149 dX5_square_231 (by decide) ?_
            obtain rfl : j = d := by omega
            simp only [sumN] at K
            rw [← Nat.add_assoc] at K
            exact v_less K (by repeat (first | exact trivial | refine And.intro rfl ?_))
          · refine v_aload_n C dX5_square_170 rfl ?_
            refine v_iload_n C dX5_square_171 rfl ?_
            refine v_iload C dX5_square_172 rfl ?_
            refine v_iload C dX5_square_174 rfl ?_
            refine v_callV3_1 C (m_X5_partOf T B) lk_X5_109 ⟨wt_670, ws_23⟩ 5 rfl dX5_square_176 ⟨Nat.le_of_ble_eq_true rfl, Nat.le_of_ble_eq_true rfl⟩ (Nat.le_of_ble_eq_true rfl) ⟨Nat.le_of_ble_eq_true rfl, Nat.le_of_ble_eq_true rfl⟩ (by assumption) (cTo_5 (by assumption)) ?_
            refine c_X5_partOf hM hMs0 (by omega) hOk (by omega) (by omega) ?_
            rw [hP0]
            refine v_istore C dX5_square_179 (by decide) ?_
            refine v_aload_n C dX5_square_181 rfl ?_
            refine v_iload_n C dX5_square_182 rfl ?_
            refine v_iload C dX5_square_183 rfl ?_
            refine v_iload C dX5_square_185 rfl ?_
            refine v_callV3_1 C (m_X5_partOf T B) lk_X5_109 ⟨wt_670, ws_23⟩ 5 rfl dX5_square_187 ⟨Nat.le_of_ble_eq_true rfl, Nat.le_of_ble_eq_true rfl⟩ (Nat.le_of_ble_eq_true rfl) ⟨Nat.le_of_ble_eq_true rfl, Nat.le_of_ble_eq_true rfl⟩ (by assumption) (cTo_5 (by assumption)) ?_
            refine c_X5_partOf hM hMs0 (by omega) hOk (by omega) (by omega) ?_
            rw [hP0]
            refine v_istore C dX5_square_190 (by decide) ?_
            refine v_lload C dX5_square_192 rfl ?_
            refine v_lload C dX5_square_194 rfl ?_
            refine v_iload C dX5_square_196 rfl ?_
            refine v_iload C dX5_square_198 rfl ?_
            first | refine v_icmp_leN C 208 dX5_square_200 (by omega) (by omega) (by decide) (fun h200 => ?_) (fun h200 => ?_) | refine v_icmp_le C 208 dX5_square_200 (by decide) (fun h200 => ?_) (fun h200 => ?_)
            · refine v_iload C dX5_square_208 rfl ?_
              first
              | exact v_less (nx h167 _ (Nat.max_eq_right h200).symm) (by repeat (first | exact trivial | refine And.intro rfl ?_))
              | exact v_less (nx h167 _ (Nat.max_eq_left (by omega)).symm) (by repeat (first | exact trivial | refine And.intro rfl ?_))
            · refine v_iload C dX5_square_203 rfl ?_
              refine v_goto C 210 dX5_square_205 (by decide) ?_
              first
              | exact v_less (nx h167 _ (Nat.max_eq_right h200).symm) (by repeat (first | exact trivial | refine And.intro rfl ?_))
              | exact v_less (nx h167 _ (Nat.max_eq_left (by omega)).symm) (by repeat (first | exact trivial | refine And.intro rfl ?_))
        have in2 : ∀ n : Nat, n < c → ∀ q : Nat, q ≤ c →
            V X 0 0 z S I J R 84 [some (.ref M), some (.int (nI k)), some (.int (nI v)), some (.int (nI d)), some (.long (lN c)), none, some (.long (lN (sumN (ptS P c d) (n + 1)))), none, some (.long (lN (sumN (fun n => sumN (prS P c d n) c) (n + 1)))), none, some (.int (nI (n + 1))), none, none, none, none, none, none, none, none] [] →
            V X 0 0 z S I J R 149 [some (.ref M), some (.int (nI k)), some (.int (nI v)), some (.int (nI d)), some (.long (lN c)), none, some (.long (lN (sumN (ptS P c d) (n + 1)))), none, some (.long (lN (sumN (fun n => sumN (prS P c d n) c) n + sumN (prS P c d n) q))), none, some (.int (nI n)), none, none, some (.int (nI q)), none, none, none, none, none] [] := by
          intro n hn
          refine lp_up c ?_
          intro q hq ih K
          refine v_iload C dX5_square_149 rfl ?_
          first | refine v_i2lN C dX5_square_151 (by omega) ?_ | refine v_i2l C dX5_square_151 ?_
          refine v_lload C dX5_square_152 rfl ?_
          refine v_lcmp C dX5_square_154 ?_
          first | refine v_lcif_geN C 234 dX5_square_155 (by omega) (by omega) (by decide) (fun h155 => ?_) (fun h155 => ?_) | refine v_lcif_ge C 234 dX5_square_155 (by decide) (fun h155 => ?_) (fun h155 => ?_)
          · first | refine v_iincN 1 C dX5_square_234 rfl (by decide) ?_ | refine v_iinc C dX5_square_234 rfl rfl (by decide) ?_
            refine v_goto C 84 dX5_square_237 (by decide) ?_
            obtain rfl : q = c := by omega
            exact v_less K (by repeat (first | exact trivial | refine And.intro rfl ?_))
          · refine v_lconst (v := lN 1) C dX5_square_158 rfl ?_
            refine v_lstore C dX5_square_159 (by decide) ?_
            refine v_iconstN 0 C dX5_square_161 ?_
            refine v_istore C dX5_square_162 (by decide) ?_
            exact v_less (in3 n q hn (by omega) 0 (Nat.zero_le _) (ih (by omega) K)) (by repeat (first | exact trivial | refine And.intro rfl ?_))
        have in1 : ∀ n : Nat, n < c → ∀ j : Nat, j ≤ d →
            V X 0 0 z S I J R 84 [some (.ref M), some (.int (nI k)), some (.int (nI v)), some (.int (nI d)), some (.long (lN c)), none, some (.long (lN (sumN (ptS P c d) (n + 1)))), none, some (.long (lN (sumN (fun n => sumN (prS P c d n) c) (n + 1)))), none, some (.int (nI (n + 1))), none, none, none, none, none, none, none, none] [] →
            V X 0 0 z S I J R 99 [some (.ref M), some (.int (nI k)), some (.int (nI v)), some (.int (nI d)), some (.long (lN c)), none, some (.long (lN (sumN (ptS P c d) n))), none, some (.long (lN (sumN (fun n => sumN (prS P c d n) c) n))), none, some (.int (nI n)), some (.long (lN (prodN (fun j => c * c - P n j * P n j) j))), none, some (.int (nI j)), none, none, none, none, none] [] := by
          intro n hn
          refine lp_up d ?_
          intro j hj ih K
          have p1 := hPl n j
          have hsq : P n j * P n j ≤ c * c := Nat.mul_le_mul (by omega) (by omega)
          refine v_iload C dX5_square_99 rfl ?_
          refine v_iload_n C dX5_square_101 rfl ?_
          first | refine v_icmp_geN C 139 dX5_square_102 (by omega) (by omega) (by decide) (fun h102 => ?_) (fun h102 => ?_) | refine v_icmp_ge C 139 dX5_square_102 (by decide) (fun h102 => ?_) (fun h102 => ?_)
          · refine v_lload C dX5_square_139 rfl ?_
            refine v_lload C dX5_square_141 rfl ?_
            first | refine v_laddN C dX5_square_143 ?_ | refine v_ladd C dX5_square_143 ?_
            refine v_lstore C dX5_square_144 (by decide) ?_
            refine v_iconstN 0 C dX5_square_146 ?_
            refine v_istore C dX5_square_147 (by decide) ?_
            obtain rfl : j = d := by omega
            exact v_less (in2 n hn 0 (Nat.zero_le _) K) (by repeat (first | exact trivial | refine And.intro rfl ?_))
          · refine v_aload_n C dX5_square_105 rfl ?_
            refine v_iload_n C dX5_square_106 rfl ?_
            refine v_iload C dX5_square_107 rfl ?_
            refine v_iload C dX5_square_109 rfl ?_
            refine v_callV3_1 C (m_X5_partOf T B) lk_X5_109 ⟨wt_670, ws_23⟩ 5 rfl dX5_square_111 ⟨Nat.le_of_ble_eq_true rfl, Nat.le_of_ble_eq_true rfl⟩ (Nat.le_of_ble_eq_true rfl) ⟨Nat.le_of_ble_eq_true rfl, Nat.le_of_ble_eq_true rfl⟩ (by assumption) (cTo_5 (by assumption)) ?_
            refine c_X5_partOf hM hMs0 (by omega) hOk (by omega) (by omega) ?_
            rw [hP0]
            first | refine v_i2lN C dX5_square_114 (by omega) ?_ | refine v_i2l C dX5_square_114 ?_
            refine v_lstore C dX5_square_115 (by decide) ?_
            refine v_lload C dX5_square_117 rfl ?_
            refine v_lload C dX5_square_119 rfl ?_
            refine v_lload C dX5_square_121 rfl ?_
            first | refine v_lmulN C dX5_square_123 ?_ | refine v_lmul C dX5_square_123 ?_
            refine v_lload C dX5_square_124 rfl ?_
            refine v_lload C dX5_square_126 rfl ?_
            first | refine v_lmulN C dX5_square_128 ?_ | refine v_lmul C dX5_square_128 ?_
            refine v_lsub C dX5_square_129 ?_
            rw [lN_sub hsq]
            first | refine v_lmulN C dX5_square_130 ?_ | refine v_lmul C dX5_square_130 ?_
            refine v_lstore C dX5_square_131 (by decide) ?_
            first | refine v_iincN 1 C dX5_square_133 rfl (by decide) ?_ | refine v_iinc C dX5_square_133 rfl rfl (by decide) ?_
            refine v_goto C 99 dX5_square_136 (by decide) ?_
            exact v_less (ih h102 K) (by repeat (first | exact trivial | refine And.intro rfl ?_))
        have loop : ∀ n : Nat, n ≤ c → V X 0 0 z S I J R 84 [some (.ref M), some (.int (nI k)), some (.int (nI v)), some (.int (nI d)), some (.long (lN c)), none, some (.long (lN (sumN (ptS P c d) n))), none, some (.long (lN (sumN (fun n => sumN (prS P c d n) c) n))), none, some (.int (nI n)), none, none, none, none, none, none, none, none] [] := by
          refine lp_up c ?_
          intro n hn2 ih
          refine v_iload C dX5_square_84 rfl ?_
          first | refine v_i2lN C dX5_square_86 (by omega) ?_ | refine v_i2l C dX5_square_86 ?_
          refine v_lload C dX5_square_87 rfl ?_
          refine v_lcmp C dX5_square_89 ?_
          first | refine v_lcif_geN C 240 dX5_square_90 (by omega) (by omega) (by decide) (fun h90 => ?_) (fun h90 => ?_) | refine v_lcif_ge C 240 dX5_square_90 (by decide) (fun h90 => ?_) (fun h90 => ?_)
          · obtain rfl : n = c := by omega
            exact v_less fin (by repeat (first | exact trivial | refine And.intro rfl ?_))
          · refine v_lconst (v := lN 1) C dX5_square_93 rfl ?_
            refine v_lstore C dX5_square_94 (by decide) ?_
            refine v_iconstN 0 C dX5_square_96 ?_
            refine v_istore C dX5_square_97 (by decide) ?_
            exact v_less (in1 n (by omega) 0 (Nat.zero_le _) (ih (by omega))) (by repeat (first | exact trivial | refine And.intro rfl ?_))
        refine v_aload_n C dX5_square_0 rfl ?_
        refine v_iload_n C dX5_square_1 rfl ?_
        refine v_callV1_1 C (m_X5_isScatter T B) lk_X5_80 ⟨wt_624, ws_22⟩ 5 rfl dX5_square_2 ⟨Nat.le_of_ble_eq_true rfl, Nat.le_of_ble_eq_true rfl⟩ (Nat.le_of_ble_eq_true rfl) ⟨Nat.le_of_ble_eq_true rfl, Nat.le_of_ble_eq_true rfl⟩ (by assumption) (cTo_5 (by assumption)) ?_
        refine c_isS_k hM hn hn12 hk ?_
        first | refine v_if_neN C 14 dX5_square_5 (by omega) (by decide) (fun h5 => ?_) (fun h5 => ?_) | refine v_if_ne C 14 dX5_square_5 (by decide) (fun h5 => ?_) (fun h5 => ?_)
        · refine v_iload_n C dX5_square_14 rfl ?_
          refine v_i2l C dX5_square_15 ?_
          refine v_lconst (v := lN 0) C dX5_square_16 rfl ?_
          refine v_lconst (v := lN 1) C dX5_square_17 rfl ?_
          refine v_callS3_1 C (m_X5_in T B) lk_X5_76 wt_627 dX5_square_18 ⟨Nat.le_of_ble_eq_true rfl, Nat.le_of_ble_eq_true rfl⟩ (Nat.le_of_ble_eq_true rfl) ⟨Nat.le_of_ble_eq_true rfl, Nat.le_of_ble_eq_true rfl⟩ ?_
          refine c_inN_k (n := 1) (by decide) (Oo_not hv (by decide)) ?_
          first | refine v_if_neN C 31 dX5_square_21 (by omega) (by decide) (fun h21 => ?_) (fun h21 => ?_) | refine v_if_ne C 31 dX5_square_21 (by decide) (fun h21 => ?_) (fun h21 => ?_)
          · refine v_aload_n C dX5_square_31 rfl ?_
            refine g_5_2 C (by assumption) (by assumption) wt_535 dX5_square_32 ?_
            refine v_iload_n C dX5_square_35 rfl ?_
            first | refine v_ialdN C (by assumption) (by omega) (by omega) dX5_square_36 ?_ | refine v_iald C (by assumption) (by assumption) dX5_square_36 ?_
            rw [hk2]
            refine v_iconstN 3 C dX5_square_37 ?_
            first | refine v_icmp_gtN C 52 dX5_square_38 (by omega) (by omega) (by decide) (fun h38 => ?_) (fun h38 => ?_) | refine v_icmp_gt C 52 dX5_square_38 (by decide) (fun h38 => ?_) (fun h38 => ?_)
            · exact absurd h38 (by omega)
            · refine v_aload_n C dX5_square_41 rfl ?_
              refine g_5_4 C (by assumption) (by assumption) wt_537 dX5_square_42 ?_
              refine v_iload_n C dX5_square_45 rfl ?_
              first | refine v_ialdN C (by assumption) (by omega) (by omega) dX5_square_46 ?_ | refine v_iald C (by assumption) (by assumption) dX5_square_46 ?_
              rw [hk4]
              refine v_bipushN 64 (by decide) C dX5_square_47 ?_
              first | refine v_icmp_leN C 59 dX5_square_49 (by omega) (by omega) (by decide) (fun h49 => ?_) (fun h49 => ?_) | refine v_icmp_le C 59 dX5_square_49 (by decide) (fun h49 => ?_) (fun h49 => ?_)
              · refine v_aload_n C dX5_square_59 rfl ?_
                refine g_5_2 C (by assumption) (by assumption) wt_535 dX5_square_60 ?_
                refine v_iload_n C dX5_square_63 rfl ?_
                first | refine v_ialdN C (by assumption) (by omega) (by omega) dX5_square_64 ?_ | refine v_iald C (by assumption) (by assumption) dX5_square_64 ?_
                rw [hk2]
                refine v_istore_n C dX5_square_65 (by decide) ?_
                refine v_aload_n C dX5_square_66 rfl ?_
                refine g_5_4 C (by assumption) (by assumption) wt_537 dX5_square_67 ?_
                refine v_iload_n C dX5_square_70 rfl ?_
                first | refine v_ialdN C (by assumption) (by omega) (by omega) dX5_square_71 ?_ | refine v_iald C (by assumption) (by assumption) dX5_square_71 ?_
                rw [hk4]
                first | refine v_i2lN C dX5_square_72 (by omega) ?_ | refine v_i2l C dX5_square_72 ?_
                refine v_lstore C dX5_square_73 (by decide) ?_
                refine v_lconst (v := lN 0) C dX5_square_75 rfl ?_
                refine v_lstore C dX5_square_76 (by decide) ?_
                refine v_lconst (v := lN 0) C dX5_square_78 rfl ?_
                refine v_lstore C dX5_square_79 (by decide) ?_
                refine v_iconstN 0 C dX5_square_81 ?_
                refine v_istore C dX5_square_82 (by decide) ?_
                exact v_less (loop 0 (Nat.zero_le _)) (by repeat (first | exact trivial | refine And.intro rfl ?_))
              · exact absurd h49 (by omega)
          · exact absurd h21 (by decide)
        · exact absurd h5 (by decide)
      · rw [if_neg hmm] at hp
        refine v_aload_n C dX5_square_0 rfl ?_
        refine v_iload_n C dX5_square_1 rfl ?_
        refine v_callV1_1 C (m_X5_isScatter T B) lk_X5_80 ⟨wt_624, ws_22⟩ 5 rfl dX5_square_2 ⟨Nat.le_of_ble_eq_true rfl, Nat.le_of_ble_eq_true rfl⟩ (Nat.le_of_ble_eq_true rfl) ⟨Nat.le_of_ble_eq_true rfl, Nat.le_of_ble_eq_true rfl⟩ (by assumption) (cTo_5 (by assumption)) ?_
        refine c_isS_k hM hn hn12 hk ?_
        first | refine v_if_neN C 14 dX5_square_5 (by omega) (by decide) (fun h5 => ?_) (fun h5 => ?_) | refine v_if_ne C 14 dX5_square_5 (by decide) (fun h5 => ?_) (fun h5 => ?_)
        · refine v_iload_n C dX5_square_14 rfl ?_
          refine v_i2l C dX5_square_15 ?_
          refine v_lconst (v := lN 0) C dX5_square_16 rfl ?_
          refine v_lconst (v := lN 1) C dX5_square_17 rfl ?_
          refine v_callS3_1 C (m_X5_in T B) lk_X5_76 wt_627 dX5_square_18 ⟨Nat.le_of_ble_eq_true rfl, Nat.le_of_ble_eq_true rfl⟩ (Nat.le_of_ble_eq_true rfl) ⟨Nat.le_of_ble_eq_true rfl, Nat.le_of_ble_eq_true rfl⟩ ?_
          refine c_inN_k (n := 1) (by decide) (Oo_not hv (by decide)) ?_
          first | refine v_if_neN C 31 dX5_square_21 (by omega) (by decide) (fun h21 => ?_) (fun h21 => ?_) | refine v_if_ne C 31 dX5_square_21 (by decide) (fun h21 => ?_) (fun h21 => ?_)
          · refine v_aload_n C dX5_square_31 rfl ?_
            refine g_5_2 C (by assumption) (by assumption) wt_535 dX5_square_32 ?_
            refine v_iload_n C dX5_square_35 rfl ?_
            first | refine v_ialdN C (by assumption) (by omega) (by omega) dX5_square_36 ?_ | refine v_iald C (by assumption) (by assumption) dX5_square_36 ?_
            rw [hk2]
            refine v_iconstN 3 C dX5_square_37 ?_
            first | refine v_icmp_gtN C 52 dX5_square_38 (by omega) (by omega) (by decide) (fun h38 => ?_) (fun h38 => ?_) | refine v_icmp_gt C 52 dX5_square_38 (by decide) (fun h38 => ?_) (fun h38 => ?_)
            · refine v_aload_n C dX5_square_52 rfl ?_
              refine v_bipush (v := -6) C dX5_square_53 (by decide) ?_
              refine v_callV1_2 C (m_X5_refuseLong T B) lk_X5_143 ⟨wt_739, ws_28⟩ 5 rfl dX5_square_55 ⟨Nat.le_of_ble_eq_true rfl, Nat.le_of_ble_eq_true rfl⟩ (Nat.le_of_ble_eq_true rfl) ⟨Nat.le_of_ble_eq_true rfl, Nat.le_of_ble_eq_true rfl⟩ (by assumption) (cTo_5 (by assumption)) ?_
              refine c_X5_refuseLong (k := 6) hM (by decide) (by decide) ?_
              refine v_lret C Q dX5_square_58 (Nat.le_of_ble_eq_true rfl) (Nat.le_of_ble_eq_true rfl) ?_
              have w := Mq_rf (k := 6) hR (by decide) hp
              exact w
            · refine v_aload_n C dX5_square_41 rfl ?_
              refine g_5_4 C (by assumption) (by assumption) wt_537 dX5_square_42 ?_
              refine v_iload_n C dX5_square_45 rfl ?_
              first | refine v_ialdN C (by assumption) (by omega) (by omega) dX5_square_46 ?_ | refine v_iald C (by assumption) (by assumption) dX5_square_46 ?_
              rw [hk4]
              refine v_bipushN 64 (by decide) C dX5_square_47 ?_
              first | refine v_icmp_leN C 59 dX5_square_49 (by omega) (by omega) (by decide) (fun h49 => ?_) (fun h49 => ?_) | refine v_icmp_le C 59 dX5_square_49 (by decide) (fun h49 => ?_) (fun h49 => ?_)
              · exact absurd ⟨by omega, by omega⟩ hmm
              · refine v_aload_n C dX5_square_52 rfl ?_
                refine v_bipush (v := -6) C dX5_square_53 (by decide) ?_
                refine v_callV1_2 C (m_X5_refuseLong T B) lk_X5_143 ⟨wt_739, ws_28⟩ 5 rfl dX5_square_55 ⟨Nat.le_of_ble_eq_true rfl, Nat.le_of_ble_eq_true rfl⟩ (Nat.le_of_ble_eq_true rfl) ⟨Nat.le_of_ble_eq_true rfl, Nat.le_of_ble_eq_true rfl⟩ (by assumption) (cTo_5 (by assumption)) ?_
                refine c_X5_refuseLong (k := 6) hM (by decide) (by decide) ?_
                refine v_lret C Q dX5_square_58 (Nat.le_of_ble_eq_true rfl) (Nat.le_of_ble_eq_true rfl) ?_
                have w := Mq_rf (k := 6) hR (by decide) hp
                exact w
          · exact absurd h21 (by decide)
        · exact absurd h5 (by decide)
