def s_X5_waves : Sp := fun av z S I J R Post => ∃ (M : Nat), ∃ (st : St), ∃ (s w i : Int32), av = [.ref M, .int s, .int w, .int i] ∧ (MoS S R M) ∧ (Rm M st I) ∧ (Ok st) ∧ (Mq M (o_waves st s w i).2 I J (fun I' J' => Post 0 (o_waves st s w i).1 none z S I' J' R))
theorem c_X5_waves {M : Nat} {st : St} {s w i : Int32} {z : Nat} {S : MS} {I : MI} {J : MJ} {R : MR} {Post : PT} (hM : MoS S R M) (hR : Rm M st I) (hO : Ok st) (hp : Mq M (o_waves st s w i).2 I J (fun I' J' => Post 0 (o_waves st s w i).1 none z S I' J' R)) : s_X5_waves [.ref M, .int s, .int w, .int i] z S I J R Post := ⟨M, st, s, w, i, rfl, hM, hR, hO, hp⟩
set_option maxRecDepth 100000 in
set_option maxHeartbeats 2000000 in
theorem m_X5_waves (T : TC) (B : Nat) : Mt T B yX5_waves cX5_waves 7 (some .long) 2 (rmL 4 0 0) s_X5_waves := by
  refine Mt_of rfl (by rintro _ _ _ _ _ _ _ ⟨_, _, _, _, _, rfl, -⟩; exact Nat.le_of_ble_eq_true rfl) ?_
  intro X av z S I J R Post h C Q hI
  obtain ⟨M, st, s, w, i, rfl, hM, hR, hO, hp⟩ := h
  have hn12 := hO.1
  obtain ⟨hn, htl, hms, htr, hrf⟩ := id hR
  obtain ⟨hS0, hr1, hr2, hr3, hr4, hr5, hr6, hr7, hr8, hr9, hr10, hr11, hr12, hr14, hr15, hr16, hr17, hr18, hr19, hr20, hs1, hs2, hs3, hs4, hs5, hs6, hs7, hs8, hs9, hs10, hs11, hs12, hs13, hs14, hs15, hs16, hs17, hs18, hs19⟩ := id hM
  unfold o_waves at hp
  rcases Oo_or s st.1 (by omega) with ho | ⟨k, hk, rfl⟩
  · rw [onS_o ho] at hp
    refine v_aload_n C dX5_waves_0 rfl ?_
    refine v_iload_n C dX5_waves_1 rfl ?_
    refine v_callV1_1 C (m_X5_isScatter T B) lk_X5_80 ⟨wt_624, ws_22⟩ 5 rfl dX5_waves_2 ⟨Nat.le_of_ble_eq_true rfl, Nat.le_of_ble_eq_true rfl⟩ (Nat.le_of_ble_eq_true rfl) ⟨Nat.le_of_ble_eq_true rfl, Nat.le_of_ble_eq_true rfl⟩ (by assumption) (cTo_5 (by assumption)) ?_
    refine c_isS_o hM hn hn12 ho ?_
    first | refine v_if_neN C 14 dX5_waves_5 (by omega) (by decide) (fun h5 => ?_) (fun h5 => ?_) | refine v_if_ne C 14 dX5_waves_5 (by decide) (fun h5 => ?_) (fun h5 => ?_)
    · exact absurd h5 (by decide)
    · refine v_aload_n C dX5_waves_8 rfl ?_
      refine v_iconst (v := -1) C dX5_waves_9 (by decide) ?_
      refine v_callV1_2 C (m_X5_refuseLong T B) lk_X5_143 ⟨wt_739, ws_28⟩ 5 rfl dX5_waves_10 ⟨Nat.le_of_ble_eq_true rfl, Nat.le_of_ble_eq_true rfl⟩ (Nat.le_of_ble_eq_true rfl) ⟨Nat.le_of_ble_eq_true rfl, Nat.le_of_ble_eq_true rfl⟩ (by assumption) (cTo_5 (by assumption)) ?_
      refine c_X5_refuseLong (k := 1) hM (by decide) (by decide) ?_
      refine v_lret C Q dX5_waves_13 (Nat.le_of_ble_eq_true rfl) (Nat.le_of_ble_eq_true rfl) ?_
      have w := Mq_rf (k := 1) hR (by decide) hp
      exact w
  · have hMs := hms k (by omega)
    have hMs0 := hMs
    obtain ⟨hk1, hk2, hk3, hk4, hk5, hk6, hk7, hk8, hk9⟩ := hMs
    have hOk := hO.2.1 k hk
    obtain ⟨o1, o2, o3, o4, o5, o6, o7, o8, o9, o10, o11, o12⟩ := id hOk
    rw [onS_k hk (by omega)] at hp
    by_cases hkd : st.2.1 k 1 0 = 3
    · rw [if_pos hkd] at hp
      refine v_aload_n C dX5_waves_0 rfl ?_
      refine v_iload_n C dX5_waves_1 rfl ?_
      refine v_callV1_1 C (m_X5_isScatter T B) lk_X5_80 ⟨wt_624, ws_22⟩ 5 rfl dX5_waves_2 ⟨Nat.le_of_ble_eq_true rfl, Nat.le_of_ble_eq_true rfl⟩ (Nat.le_of_ble_eq_true rfl) ⟨Nat.le_of_ble_eq_true rfl, Nat.le_of_ble_eq_true rfl⟩ (by assumption) (cTo_5 (by assumption)) ?_
      refine c_isS_k hM hn hn12 hk ?_
      first | refine v_if_neN C 14 dX5_waves_5 (by omega) (by decide) (fun h5 => ?_) (fun h5 => ?_) | refine v_if_ne C 14 dX5_waves_5 (by decide) (fun h5 => ?_) (fun h5 => ?_)
      · refine v_aload_n C dX5_waves_14 rfl ?_
        refine g_5_1 C (by assumption) (by assumption) wt_534 dX5_waves_15 ?_
        refine v_iload_n C dX5_waves_18 rfl ?_
        first | refine v_ialdN C (by assumption) (by omega) (by omega) dX5_waves_19 ?_ | refine v_iald C (by assumption) (by assumption) dX5_waves_19 ?_
        rw [hk1]
        refine v_iconstN 3 C dX5_waves_20 ?_
        first | refine v_icmp_neN C 31 dX5_waves_21 (by omega) (by omega) (by decide) (fun h21 => ?_) (fun h21 => ?_) | refine v_icmp_ne C 31 dX5_waves_21 (by decide) (fun h21 => ?_) (fun h21 => ?_)
        · exact absurd hkd h21
        · refine v_aload_n C dX5_waves_24 rfl ?_
          refine v_bipush (v := -2) C dX5_waves_25 (by decide) ?_
          refine v_callV1_2 C (m_X5_refuseLong T B) lk_X5_143 ⟨wt_739, ws_28⟩ 5 rfl dX5_waves_27 ⟨Nat.le_of_ble_eq_true rfl, Nat.le_of_ble_eq_true rfl⟩ (Nat.le_of_ble_eq_true rfl) ⟨Nat.le_of_ble_eq_true rfl, Nat.le_of_ble_eq_true rfl⟩ (by assumption) (cTo_5 (by assumption)) ?_
          refine c_X5_refuseLong (k := 2) hM (by decide) (by decide) ?_
          refine v_lret C Q dX5_waves_30 (Nat.le_of_ble_eq_true rfl) (Nat.le_of_ble_eq_true rfl) ?_
          have w := Mq_rf (k := 2) hR (by decide) hp
          exact w
      · exact absurd h5 (by decide)
    · rw [if_neg hkd] at hp
      have hpw : I (M + 3) k = nI (st.2.1 k 3 0) := by rw [hk3]; unfold pwI; rw [if_neg hkd]
      by_cases e1 : w < 0 ∨ i < 0
      · rw [if_pos e1] at hp
        refine v_aload_n C dX5_waves_0 rfl ?_
        refine v_iload_n C dX5_waves_1 rfl ?_
        refine v_callV1_1 C (m_X5_isScatter T B) lk_X5_80 ⟨wt_624, ws_22⟩ 5 rfl dX5_waves_2 ⟨Nat.le_of_ble_eq_true rfl, Nat.le_of_ble_eq_true rfl⟩ (Nat.le_of_ble_eq_true rfl) ⟨Nat.le_of_ble_eq_true rfl, Nat.le_of_ble_eq_true rfl⟩ (by assumption) (cTo_5 (by assumption)) ?_
        refine c_isS_k hM hn hn12 hk ?_
        first | refine v_if_neN C 14 dX5_waves_5 (by omega) (by decide) (fun h5 => ?_) (fun h5 => ?_) | refine v_if_ne C 14 dX5_waves_5 (by decide) (fun h5 => ?_) (fun h5 => ?_)
        · refine v_aload_n C dX5_waves_14 rfl ?_
          refine g_5_1 C (by assumption) (by assumption) wt_534 dX5_waves_15 ?_
          refine v_iload_n C dX5_waves_18 rfl ?_
          first | refine v_ialdN C (by assumption) (by omega) (by omega) dX5_waves_19 ?_ | refine v_iald C (by assumption) (by assumption) dX5_waves_19 ?_
          rw [hk1]
          refine v_iconstN 3 C dX5_waves_20 ?_
          first | refine v_icmp_neN C 31 dX5_waves_21 (by omega) (by omega) (by decide) (fun h21 => ?_) (fun h21 => ?_) | refine v_icmp_ne C 31 dX5_waves_21 (by decide) (fun h21 => ?_) (fun h21 => ?_)
          · refine v_iload_n C dX5_waves_31 rfl ?_
            refine v_if_lt C 39 dX5_waves_32 (by decide) (fun h32 => ?_) (fun h32 => ?_)
            · refine v_aload_n C dX5_waves_39 rfl ?_
              refine v_bipush (v := -4) C dX5_waves_40 (by decide) ?_
              refine v_callV1_2 C (m_X5_refuseLong T B) lk_X5_143 ⟨wt_739, ws_28⟩ 5 rfl dX5_waves_42 ⟨Nat.le_of_ble_eq_true rfl, Nat.le_of_ble_eq_true rfl⟩ (Nat.le_of_ble_eq_true rfl) ⟨Nat.le_of_ble_eq_true rfl, Nat.le_of_ble_eq_true rfl⟩ (by assumption) (cTo_5 (by assumption)) ?_
              refine c_X5_refuseLong (k := 4) hM (by decide) (by decide) ?_
              refine v_lret C Q dX5_waves_45 (Nat.le_of_ble_eq_true rfl) (Nat.le_of_ble_eq_true rfl) ?_
              have w := Mq_rf (k := 4) hR (by decide) hp
              exact w
            · refine v_iload_n C dX5_waves_35 rfl ?_
              refine v_if_ge C 46 dX5_waves_36 (by decide) (fun h36 => ?_) (fun h36 => ?_)
              · exact absurd e1 (fun q => q.elim h32 (fun q => absurd q (Int32.not_lt.mpr h36)))
              · refine v_aload_n C dX5_waves_39 rfl ?_
                refine v_bipush (v := -4) C dX5_waves_40 (by decide) ?_
                refine v_callV1_2 C (m_X5_refuseLong T B) lk_X5_143 ⟨wt_739, ws_28⟩ 5 rfl dX5_waves_42 ⟨Nat.le_of_ble_eq_true rfl, Nat.le_of_ble_eq_true rfl⟩ (Nat.le_of_ble_eq_true rfl) ⟨Nat.le_of_ble_eq_true rfl, Nat.le_of_ble_eq_true rfl⟩ (by assumption) (cTo_5 (by assumption)) ?_
                refine c_X5_refuseLong (k := 4) hM (by decide) (by decide) ?_
                refine v_lret C Q dX5_waves_45 (Nat.le_of_ble_eq_true rfl) (Nat.le_of_ble_eq_true rfl) ?_
                have w := Mq_rf (k := 4) hR (by decide) hp
                exact w
          · exact absurd h21 hkd
        · exact absurd h5 (by decide)
      · rw [if_neg e1] at hp
        have w0 : ¬ w < 0 := fun q => e1 (Or.inl q)
        have i0 : ¬ i < 0 := fun q => e1 (Or.inr q)
        obtain ⟨L, hL, rfl⟩ := nI_of i0
        rw [vN_nI hL] at hp
        have hpd : st.2.1 k 3 0 * st.2.1 k 2 0 ≤ 48 := Nat.le_trans (Nat.mul_le_mul o4 o3) (by decide)
        by_cases e2 : 12 < st.2.1 k 3 0 * st.2.1 k 2 0
        · rw [if_pos e2] at hp
          refine v_aload_n C dX5_waves_0 rfl ?_
          refine v_iload_n C dX5_waves_1 rfl ?_
          refine v_callV1_1 C (m_X5_isScatter T B) lk_X5_80 ⟨wt_624, ws_22⟩ 5 rfl dX5_waves_2 ⟨Nat.le_of_ble_eq_true rfl, Nat.le_of_ble_eq_true rfl⟩ (Nat.le_of_ble_eq_true rfl) ⟨Nat.le_of_ble_eq_true rfl, Nat.le_of_ble_eq_true rfl⟩ (by assumption) (cTo_5 (by assumption)) ?_
          refine c_isS_k hM hn hn12 hk ?_
          first | refine v_if_neN C 14 dX5_waves_5 (by omega) (by decide) (fun h5 => ?_) (fun h5 => ?_) | refine v_if_ne C 14 dX5_waves_5 (by decide) (fun h5 => ?_) (fun h5 => ?_)
          · refine v_aload_n C dX5_waves_14 rfl ?_
            refine g_5_1 C (by assumption) (by assumption) wt_534 dX5_waves_15 ?_
            refine v_iload_n C dX5_waves_18 rfl ?_
            first | refine v_ialdN C (by assumption) (by omega) (by omega) dX5_waves_19 ?_ | refine v_iald C (by assumption) (by assumption) dX5_waves_19 ?_
            rw [hk1]
            refine v_iconstN 3 C dX5_waves_20 ?_
            first | refine v_icmp_neN C 31 dX5_waves_21 (by omega) (by omega) (by decide) (fun h21 => ?_) (fun h21 => ?_) | refine v_icmp_ne C 31 dX5_waves_21 (by decide) (fun h21 => ?_) (fun h21 => ?_)
            · refine v_iload_n C dX5_waves_31 rfl ?_
              refine v_if_lt C 39 dX5_waves_32 (by decide) (fun h32 => ?_) (fun h32 => ?_)
              · exact absurd h32 w0
              · refine v_iload_n C dX5_waves_35 rfl ?_
                first | refine v_if_geN C 46 dX5_waves_36 (by omega) (by decide) (fun h36 => ?_) (fun h36 => ?_) | refine v_if_ge C 46 dX5_waves_36 (by decide) (fun h36 => ?_) (fun h36 => ?_)
                · refine v_aload_n C dX5_waves_46 rfl ?_
                  refine g_5_3 C (by assumption) (by assumption) wt_536 dX5_waves_47 ?_
                  refine v_iload_n C dX5_waves_50 rfl ?_
                  first | refine v_ialdN C (by assumption) (by omega) (by omega) dX5_waves_51 ?_ | refine v_iald C (by assumption) (by assumption) dX5_waves_51 ?_
                  rw [hpw]
                  refine v_aload_n C dX5_waves_52 rfl ?_
                  refine g_5_2 C (by assumption) (by assumption) wt_535 dX5_waves_53 ?_
                  refine v_iload_n C dX5_waves_56 rfl ?_
                  first | refine v_ialdN C (by assumption) (by omega) (by omega) dX5_waves_57 ?_ | refine v_iald C (by assumption) (by assumption) dX5_waves_57 ?_
                  rw [hk2]
                  first | refine v_imulN C dX5_waves_58 ?_ | refine v_imul C dX5_waves_58 ?_
                  refine v_bipushN 12 (by decide) C dX5_waves_59 ?_
                  first | refine v_icmp_leN C 71 dX5_waves_61 (by omega) (by omega) (by decide) (fun h61 => ?_) (fun h61 => ?_) | refine v_icmp_le C 71 dX5_waves_61 (by decide) (fun h61 => ?_) (fun h61 => ?_)
                  · exact absurd h61 (by omega)
                  · refine v_aload_n C dX5_waves_64 rfl ?_
                    refine v_bipush (v := -6) C dX5_waves_65 (by decide) ?_
                    refine v_callV1_2 C (m_X5_refuseLong T B) lk_X5_143 ⟨wt_739, ws_28⟩ 5 rfl dX5_waves_67 ⟨Nat.le_of_ble_eq_true rfl, Nat.le_of_ble_eq_true rfl⟩ (Nat.le_of_ble_eq_true rfl) ⟨Nat.le_of_ble_eq_true rfl, Nat.le_of_ble_eq_true rfl⟩ (by assumption) (cTo_5 (by assumption)) ?_
                    refine c_X5_refuseLong (k := 6) hM (by decide) (by decide) ?_
                    refine v_lret C Q dX5_waves_70 (Nat.le_of_ble_eq_true rfl) (Nat.le_of_ble_eq_true rfl) ?_
                    have w := Mq_rf (k := 6) hR (by decide) hp
                    exact w
                · exact absurd h36 (fun q => q)
            · exact absurd h21 hkd
          · exact absurd h5 (by decide)
        · rw [if_neg e2] at hp
          have hwf : ∀ v, v < 2 ^ (st.2.1 k 3 0 * st.2.1 k 2 0) → (iZ (whW (st.2.1 k) v) = 0 ↔ wvL (fun n => sgn (prt (st.2.1 k) n) (crW (st.2.1 k) v) (st.2.1 k 2 0)) (st.2.1 k 4 0) = lN 0) := fun v hv => wf_is hOk hkd (by omega) hv
          have hsh : ∀ j, j < st.2.1 k 2 0 → st.2.1 k 3 0 * (st.2.1 k 2 0 - 1 - j) < 32 := fun j hj => by
            have := Nat.mul_le_mul_left (st.2.1 k 3 0) (show st.2.1 k 2 0 - 1 - j ≤ st.2.1 k 2 0 by omega)
            omega
          generalize hb : st.2.1 k 3 0 * st.2.1 k 2 0 = b at *
          have hb1 : 1 ≤ 2 ^ b := Nat.two_pow_pos b
          have hb2 : 2 ^ b ≤ 4096 := Nat.le_trans (Nat.pow_le_pow_right (by decide) (show b ≤ 12 by omega)) (by decide)
          generalize hr : nthW (wfW (st.2.1 k) w) (2 ^ b - 1) 1 L = r at hp
          have loop : ∀ v : Nat, v ≤ 2 ^ b → ∀ (n : Nat) (I' : MI), n ≤ L → FrS I I' (M + 18) (M + 18) → nthW (wfW (st.2.1 k) w) (2 ^ b - v) v (L - n) = r → V X 0 0 z S I' J R 77 [some (.ref M), some (.int (nI k)), some (.int w), some (.int (nI L)), some (.int (nI n)), some (.int (nI v)), none] [] := by
            refine lp_up (2 ^ b) ?_
            intro v hv ih n I' hn hF hrv
            have nx : v < 2 ^ b → nthW (wfW (st.2.1 k) w) (2 ^ b - v) v (L - n) = if wfW (st.2.1 k) w v = true then (if L - n = 0 then lN v else nthW (wfW (st.2.1 k) w) (2 ^ b - (v + 1)) (v + 1) (L - n - 1)) else nthW (wfW (st.2.1 k) w) (2 ^ b - (v + 1)) (v + 1) (L - n) := fun hlt => by
              rw [show 2 ^ b - v = (2 ^ b - (v + 1)) + 1 by omega]; rfl
            have inner : v < 2 ^ b → ∀ j : Nat, j ≤ st.2.1 k 2 0 → ∀ I2 : MI, FrS I I2 (M + 18) (M + 18) → (∀ i, i < j → I2 (M + 18) i = nI (crW (st.2.1 k) v i)) → V X 0 0 z S I2 J R 100 [some (.ref M), some (.int (nI k)), some (.int w), some (.int (nI L)), some (.int (nI n)), some (.int (nI v)), some (.int (nI j))] [] := by
              intro hlt
              rw [nx hlt] at hrv
              refine lp_up (st.2.1 k 2 0) ?_
              intro j hj ih2 I2 hF2 hA
              have c2 : I2 (M + 2) k = nI (st.2.1 k 2 0) := (hF2 _ _ (by omega)).trans hk2
              have c3 : I2 (M + 3) k = nI (st.2.1 k 3 0) := (hF2 _ _ (by omega)).trans hpw
              have c4 : I2 (M + 4) k = nI (st.2.1 k 4 0) := (hF2 _ _ (by omega)).trans hk4
              have cD : MsR I2 M k (st.2.1 k) := hMs0.up (fun q i h1 h2 => hF2 q i (by omega))
              have cand : (v / 2 ^ (st.2.1 k 3 0 * (st.2.1 k 2 0 - 1 - j)) &&& (st.2.1 k 4 0 - 1)) = crW (st.2.1 k) v j := by
                rw [o7 hkd]; exact Nat.and_two_pow_sub_one_eq_mod _ _
              refine v_iload C dX5_waves_100 rfl ?_
              refine v_aload_n C dX5_waves_102 rfl ?_
              refine g_5_2 C (by assumption) (by assumption) wt_535 dX5_waves_103 ?_
              refine v_iload_n C dX5_waves_106 rfl ?_
              first | refine v_ialdN C (by assumption) (by omega) (by omega) dX5_waves_107 ?_ | refine v_iald C (by assumption) (by assumption) dX5_waves_107 ?_
              rw [c2]
              first | refine v_icmp_geN C 154 dX5_waves_108 (by omega) (by omega) (by decide) (fun h108 => ?_) (fun h108 => ?_) | refine v_icmp_ge C 154 dX5_waves_108 (by decide) (fun h108 => ?_) (fun h108 => ?_)
              · refine v_iload C dX5_waves_154 rfl ?_
                refine v_callS1_1 C (m_X5_ones T B) lk_X5_164 wt_783 dX5_waves_156 ⟨Nat.le_of_ble_eq_true rfl, Nat.le_of_ble_eq_true rfl⟩ (Nat.le_of_ble_eq_true rfl) ⟨Nat.le_of_ble_eq_true rfl, Nat.le_of_ble_eq_true rfl⟩ ?_
                refine c_X5_ones (by omega) ?_
                refine v_iload_n C dX5_waves_159 rfl ?_
                refine v_icmp_gt C 186 dX5_waves_160 (by decide) (fun h160 => ?_) (fun h160 => ?_)
                · have hf : wfW (st.2.1 k) w v = false := by unfold wfW; rw [decide_eq_false (Int32.not_le.mpr h160), Bool.and_false]
                  rw [hf, if_neg (by decide)] at hrv
                  first | refine v_iincN 1 C dX5_waves_186 rfl (by decide) ?_ | refine v_iinc C dX5_waves_186 rfl rfl (by decide) ?_
                  refine v_goto C 77 dX5_waves_189 (by decide) ?_
                  first
                  | exact v_less (ih hlt n I2 hn hF2 hrv) (by repeat (first | exact trivial | refine And.intro rfl ?_))
                  | exact v_less (ih hlt (n + 1) I2 (by omega) hF2 hrv) (by repeat (first | exact trivial | refine And.intro rfl ?_))
                · refine v_aload_n C dX5_waves_163 rfl ?_
                  refine v_iload_n C dX5_waves_164 rfl ?_
                  refine v_callV1_2 C (m_X5_waveOf T B) lk_X5_161 ⟨wt_775, ws_31⟩ 5 rfl dX5_waves_165 ⟨Nat.le_of_ble_eq_true rfl, Nat.le_of_ble_eq_true rfl⟩ (Nat.le_of_ble_eq_true rfl) ⟨Nat.le_of_ble_eq_true rfl, Nat.le_of_ble_eq_true rfl⟩ (by assumption) (cTo_5 (by assumption)) ?_
                  refine c_X5_waveOf (h := crW (st.2.1 k) v) hM cD (by omega) hOk (fun i hi => hA i (by omega)) ?_
                  refine v_lconst (v := lN 0) C dX5_waves_168 rfl ?_
                  refine v_lcmp C dX5_waves_169 ?_
                  refine v_lcif_eq C 186 dX5_waves_170 (by decide) (fun h170 => ?_) (fun h170 => ?_)
                  · have hf : wfW (st.2.1 k) w v = false := by unfold wfW; rw [decide_eq_true ((hwf v hlt).mpr h170)]; rfl
                    rw [hf, if_neg (by decide)] at hrv
                    first | refine v_iincN 1 C dX5_waves_186 rfl (by decide) ?_ | refine v_iinc C dX5_waves_186 rfl rfl (by decide) ?_
                    refine v_goto C 77 dX5_waves_189 (by decide) ?_
                    first
                    | exact v_less (ih hlt n I2 hn hF2 hrv) (by repeat (first | exact trivial | refine And.intro rfl ?_))
                    | exact v_less (ih hlt (n + 1) I2 (by omega) hF2 hrv) (by repeat (first | exact trivial | refine And.intro rfl ?_))
                  · have hf : wfW (st.2.1 k) w v = true := by unfold wfW; rw [decide_eq_false (fun q => h170 ((hwf v hlt).mp q)), decide_eq_true (Int32.not_lt.mp h160)]; rfl
                    rw [hf, if_pos rfl] at hrv
                    refine v_iload C dX5_waves_173 rfl ?_
                    refine v_iload_n C dX5_waves_175 rfl ?_
                    first | refine v_icmp_neN C 183 dX5_waves_176 (by omega) (by omega) (by decide) (fun h176 => ?_) (fun h176 => ?_) | refine v_icmp_ne C 183 dX5_waves_176 (by decide) (fun h176 => ?_) (fun h176 => ?_)
                    · rw [if_neg (by omega)] at hrv
                      first | refine v_iincN 1 C dX5_waves_183 rfl (by decide) ?_ | refine v_iinc C dX5_waves_183 rfl rfl (by decide) ?_
                      first | refine v_iincN 1 C dX5_waves_186 rfl (by decide) ?_ | refine v_iinc C dX5_waves_186 rfl rfl (by decide) ?_
                      refine v_goto C 77 dX5_waves_189 (by decide) ?_
                      first
                      | exact v_less (ih hlt n I2 hn hF2 hrv) (by repeat (first | exact trivial | refine And.intro rfl ?_))
                      | exact v_less (ih hlt (n + 1) I2 (by omega) hF2 hrv) (by repeat (first | exact trivial | refine And.intro rfl ?_))
                    · rw [if_pos (by omega)] at hrv
                      refine v_iload C dX5_waves_179 rfl ?_
                      first | refine v_i2lN C dX5_waves_181 (by omega) ?_ | refine v_i2l C dX5_waves_181 ?_
                      refine v_lret C Q dX5_waves_182 (Nat.le_of_ble_eq_true rfl) (Nat.le_of_ble_eq_true rfl) ?_
                      subst hrv
                      have w9 := Mq_scr hR (hF2.wide (by omega) (by omega)) (fun _ _ _ => rfl) hp
                      exact w9
              · refine v_aload_n C dX5_waves_111 rfl ?_
                refine g_5_19 C (by assumption) (by assumption) wt_552 dX5_waves_112 ?_
                refine v_iload C dX5_waves_115 rfl ?_
                refine v_iload C dX5_waves_117 rfl ?_
                refine v_aload_n C dX5_waves_119 rfl ?_
                refine g_5_3 C (by assumption) (by assumption) wt_536 dX5_waves_120 ?_
                refine v_iload_n C dX5_waves_123 rfl ?_
                first | refine v_ialdN C (by assumption) (by omega) (by omega) dX5_waves_124 ?_ | refine v_iald C (by assumption) (by assumption) dX5_waves_124 ?_
                rw [c3]
                refine v_aload_n C dX5_waves_125 rfl ?_
                refine g_5_2 C (by assumption) (by assumption) wt_535 dX5_waves_126 ?_
                refine v_iload_n C dX5_waves_129 rfl ?_
                first | refine v_ialdN C (by assumption) (by omega) (by omega) dX5_waves_130 ?_ | refine v_iald C (by assumption) (by assumption) dX5_waves_130 ?_
                rw [c2]
                refine v_iconstN 1 C dX5_waves_131 ?_
                first | refine v_isubN C dX5_waves_132 (by omega) ?_ | refine v_isub C dX5_waves_132 ?_
                refine v_iload C dX5_waves_133 rfl ?_
                first | refine v_isubN C dX5_waves_135 (by omega) ?_ | refine v_isub C dX5_waves_135 ?_
                first | refine v_imulN C dX5_waves_136 ?_ | refine v_imul C dX5_waves_136 ?_
                first | refine v_ishrN C dX5_waves_137 (hsh j h108) (by omega) ?_ | refine v_ishr C dX5_waves_137 ?_
                refine v_aload_n C dX5_waves_138 rfl ?_
                refine g_5_4 C (by assumption) (by assumption) wt_537 dX5_waves_139 ?_
                refine v_iload_n C dX5_waves_142 rfl ?_
                first | refine v_ialdN C (by assumption) (by omega) (by omega) dX5_waves_143 ?_ | refine v_iald C (by assumption) (by assumption) dX5_waves_143 ?_
                rw [c4]
                refine v_iconstN 1 C dX5_waves_144 ?_
                first | refine v_isubN C dX5_waves_145 (by omega) ?_ | refine v_isub C dX5_waves_145 ?_
                first | refine v_iandN C dX5_waves_146 ?_ | refine v_iand C dX5_waves_146 ?_
                rw [cand]
                first | refine v_iastN C (by assumption) (by omega) (by omega) dX5_waves_147 ?_ | refine v_iast C (by assumption) (by assumption) dX5_waves_147 ?_
                first | refine v_iincN 1 C dX5_waves_148 rfl (by decide) ?_ | refine v_iinc C dX5_waves_148 rfl rfl (by decide) ?_
                refine v_goto C 100 dX5_waves_151 (by decide) ?_
                refine v_less (ih2 h108 _ (hF2.mu (by omega) (by omega)) (fun i hi => ?_)) (by repeat (first | exact trivial | refine And.intro rfl ?_))
                by_cases e : i = j
                · subst e; rw [mu_at]
                · rw [mu_other _ _ (by omega)]; exact hA i (by omega)
            have c2 : I' (M + 2) k = nI (st.2.1 k 2 0) := (hF _ _ (by omega)).trans hk2
            have c3 : I' (M + 3) k = nI (st.2.1 k 3 0) := (hF _ _ (by omega)).trans hpw
            refine v_iload C dX5_waves_77 rfl ?_
            refine v_iconstN 1 C dX5_waves_79 ?_
            refine v_aload_n C dX5_waves_80 rfl ?_
            refine g_5_3 C (by assumption) (by assumption) wt_536 dX5_waves_81 ?_
            refine v_iload_n C dX5_waves_84 rfl ?_
            first | refine v_ialdN C (by assumption) (by omega) (by omega) dX5_waves_85 ?_ | refine v_iald C (by assumption) (by assumption) dX5_waves_85 ?_
            rw [c3]
            refine v_aload_n C dX5_waves_86 rfl ?_
            refine g_5_2 C (by assumption) (by assumption) wt_535 dX5_waves_87 ?_
            refine v_iload_n C dX5_waves_90 rfl ?_
            first | refine v_ialdN C (by assumption) (by omega) (by omega) dX5_waves_91 ?_ | refine v_iald C (by assumption) (by assumption) dX5_waves_91 ?_
            rw [c2]
            first | refine v_imulN C dX5_waves_92 ?_ | refine v_imul C dX5_waves_92 ?_
            rw [hb]
            first | refine v_ishlN C dX5_waves_93 (by omega) (by rw [Nat.one_mul]; omega) ?_ | refine v_ishl C dX5_waves_93 ?_
            rw [Nat.one_mul]
            first | refine v_icmp_geN C 192 dX5_waves_94 (by omega) (by omega) (by decide) (fun h94 => ?_) (fun h94 => ?_) | refine v_icmp_ge C 192 dX5_waves_94 (by decide) (fun h94 => ?_) (fun h94 => ?_)
            · rw [show 2 ^ b - v = 0 by omega] at hrv
              refine v_ldc2 C dX5_waves_192 wt_785 ?_
              refine v_lret C Q dX5_waves_195 (Nat.le_of_ble_eq_true rfl) (Nat.le_of_ble_eq_true rfl) ?_
              subst hrv
              have w9 := Mq_scr hR (hF.wide (by omega) (by omega)) (fun _ _ _ => rfl) hp
              exact w9
            · refine v_iconstN 0 C dX5_waves_97 ?_
              refine v_istore C dX5_waves_98 (by decide) ?_
              exact v_less (inner h94 0 (Nat.zero_le _) I' hF (fun i hi => absurd hi (by omega))) (by repeat (first | exact trivial | refine And.intro rfl ?_))
          refine v_aload_n C dX5_waves_0 rfl ?_
          refine v_iload_n C dX5_waves_1 rfl ?_
          refine v_callV1_1 C (m_X5_isScatter T B) lk_X5_80 ⟨wt_624, ws_22⟩ 5 rfl dX5_waves_2 ⟨Nat.le_of_ble_eq_true rfl, Nat.le_of_ble_eq_true rfl⟩ (Nat.le_of_ble_eq_true rfl) ⟨Nat.le_of_ble_eq_true rfl, Nat.le_of_ble_eq_true rfl⟩ (by assumption) (cTo_5 (by assumption)) ?_
          refine c_isS_k hM hn hn12 hk ?_
          first | refine v_if_neN C 14 dX5_waves_5 (by omega) (by decide) (fun h5 => ?_) (fun h5 => ?_) | refine v_if_ne C 14 dX5_waves_5 (by decide) (fun h5 => ?_) (fun h5 => ?_)
          · refine v_aload_n C dX5_waves_14 rfl ?_
            refine g_5_1 C (by assumption) (by assumption) wt_534 dX5_waves_15 ?_
            refine v_iload_n C dX5_waves_18 rfl ?_
            first | refine v_ialdN C (by assumption) (by omega) (by omega) dX5_waves_19 ?_ | refine v_iald C (by assumption) (by assumption) dX5_waves_19 ?_
            rw [hk1]
            refine v_iconstN 3 C dX5_waves_20 ?_
            first | refine v_icmp_neN C 31 dX5_waves_21 (by omega) (by omega) (by decide) (fun h21 => ?_) (fun h21 => ?_) | refine v_icmp_ne C 31 dX5_waves_21 (by decide) (fun h21 => ?_) (fun h21 => ?_)
            · refine v_iload_n C dX5_waves_31 rfl ?_
              refine v_if_lt C 39 dX5_waves_32 (by decide) (fun h32 => ?_) (fun h32 => ?_)
              · exact absurd h32 w0
              · refine v_iload_n C dX5_waves_35 rfl ?_
                first | refine v_if_geN C 46 dX5_waves_36 (by omega) (by decide) (fun h36 => ?_) (fun h36 => ?_) | refine v_if_ge C 46 dX5_waves_36 (by decide) (fun h36 => ?_) (fun h36 => ?_)
                · refine v_aload_n C dX5_waves_46 rfl ?_
                  refine g_5_3 C (by assumption) (by assumption) wt_536 dX5_waves_47 ?_
                  refine v_iload_n C dX5_waves_50 rfl ?_
                  first | refine v_ialdN C (by assumption) (by omega) (by omega) dX5_waves_51 ?_ | refine v_iald C (by assumption) (by assumption) dX5_waves_51 ?_
                  rw [hpw]
                  refine v_aload_n C dX5_waves_52 rfl ?_
                  refine g_5_2 C (by assumption) (by assumption) wt_535 dX5_waves_53 ?_
                  refine v_iload_n C dX5_waves_56 rfl ?_
                  first | refine v_ialdN C (by assumption) (by omega) (by omega) dX5_waves_57 ?_ | refine v_iald C (by assumption) (by assumption) dX5_waves_57 ?_
                  rw [hk2]
                  first | refine v_imulN C dX5_waves_58 ?_ | refine v_imul C dX5_waves_58 ?_
                  rw [hb]
                  refine v_bipushN 12 (by decide) C dX5_waves_59 ?_
                  first | refine v_icmp_leN C 71 dX5_waves_61 (by omega) (by omega) (by decide) (fun h61 => ?_) (fun h61 => ?_) | refine v_icmp_le C 71 dX5_waves_61 (by decide) (fun h61 => ?_) (fun h61 => ?_)
                  · refine v_iconstN 0 C dX5_waves_71 ?_
                    refine v_istore C dX5_waves_72 (by decide) ?_
                    refine v_iconstN 1 C dX5_waves_74 ?_
                    refine v_istore C dX5_waves_75 (by decide) ?_
                    exact v_less (loop 1 hb1 0 I (Nat.zero_le _) FrS.rf (by rw [Nat.sub_zero]; exact hr)) (by repeat (first | exact trivial | refine And.intro rfl ?_))
                  · exact absurd h61 (by omega)
                · exact absurd h36 (fun q => q)
            · exact absurd h21 hkd
          · exact absurd h5 (by decide)
