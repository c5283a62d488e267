def s_X5_row : Sp := fun av z S I J R Post => ∃ (M : Nat), ∃ (st : St), ∃ (s j i b : Int32), av = [.ref M, .int s, .int j, .int i, .int b] ∧ (MoS S R M) ∧ (Rm M st I) ∧ (Ok st) ∧ (Mq M (o_row st s j i b).2 I J (fun I' J' => Post (o_row st s j i b).1 0 none z S I' J' R))
theorem c_X5_row {M : Nat} {st : St} {s j i b : Int32} {z : Nat} {S : MS} {I : MI} {J : MJ} {R : MR} {Post : PT} (hM : MoS S R M) (hR : Rm M st I) (hO : Ok st) (hp : Mq M (o_row st s j i b).2 I J (fun I' J' => Post (o_row st s j i b).1 0 none z S I' J' R)) : s_X5_row [.ref M, .int s, .int j, .int i, .int b] z S I J R Post := ⟨M, st, s, j, i, b, rfl, hM, hR, hO, hp⟩
set_option maxRecDepth 100000 in
set_option maxHeartbeats 1000000 in
theorem m_X5_row (T : TC) (B : Nat) : Mt T B yX5_row cX5_row 7 (some .int) 1 (rmL 4 0 0) s_X5_row := by
  refine Mt_of rfl (by rintro _ _ _ _ _ _ _ ⟨_, _, _, _, _, _, rfl, -⟩; exact Nat.le_of_ble_eq_true rfl) ?_
  intro X av z S I J R Post h C Q hI
  obtain ⟨M, st, s, j, i, b, rfl, hM, hR, hO, hp⟩ := h
  have hn12 := hO.1
  obtain ⟨hn, htl, hms, htr, hrf⟩ := id hR
  obtain ⟨hS0, hr1, hr2, hr3, hr4, hr5, hr6, hr7, hr8, hr9, hr10, hr11, hr12, hr14, hr15, hr16, hr17, hr18, hr19, hr20, hs1, hs2, hs3, hs4, hs5, hs6, hs7, hs8, hs9, hs10, hs11, hs12, hs13, hs14, hs15, hs16, hs17, hs18, hs19⟩ := id hM
  have hdm := Rm_dm hR hO
  unfold o_row at hp
  rcases Oo_or s st.1 (by omega) with ho | ⟨k, hk, rfl⟩
  · rw [onS_o ho] at hp
    refine v_aload_n C dX5_row_0 rfl ?_
    refine v_iload_n C dX5_row_1 rfl ?_
    refine v_iload_n C dX5_row_2 rfl ?_
    refine v_callV2_1 C (m_X5_hasDirection T B) lk_X5_96 ⟨wt_620, ws_21⟩ 5 rfl dX5_row_3 ⟨Nat.le_of_ble_eq_true rfl, Nat.le_of_ble_eq_true rfl⟩ (Nat.le_of_ble_eq_true rfl) ⟨Nat.le_of_ble_eq_true rfl, Nat.le_of_ble_eq_true rfl⟩ (by assumption) (cTo_5 (by assumption)) ?_
    refine c_hd_o hM hn hn12 hdm ho ?_
    first | refine v_if_neN C 15 dX5_row_6 (by omega) (by decide) (fun h6 => ?_) (fun h6 => ?_) | refine v_if_ne C 15 dX5_row_6 (by decide) (fun h6 => ?_) (fun h6 => ?_)
    · exact absurd h6 (by decide)
    · refine v_aload_n C dX5_row_9 rfl ?_
      refine v_iconst (v := -1) C dX5_row_10 (by decide) ?_
      refine v_callV1_1 C (m_X5_refuse T B) lk_X5_88 ⟨wt_608, ws_19⟩ 5 rfl dX5_row_11 ⟨Nat.le_of_ble_eq_true rfl, Nat.le_of_ble_eq_true rfl⟩ (Nat.le_of_ble_eq_true rfl) ⟨Nat.le_of_ble_eq_true rfl, Nat.le_of_ble_eq_true rfl⟩ (by assumption) (cTo_5 (by assumption)) ?_
      refine c_X5_refuse (k := 1) hM (by decide) (by decide) ?_
      refine v_iret C Q dX5_row_14 (Nat.le_of_ble_eq_true rfl) (Nat.le_of_ble_eq_true rfl) ?_
      have w := Mq_rf (k := 1) hR (by decide) hp
      exact w
  · have hMs := hms k (by omega)
    have hMs0 := hMs
    obtain ⟨hk1, hk2, hk3, hk4, hk5, hk6, hk7, hk8, hk9⟩ := hMs
    have hOk := hO.2.1 k hk
    obtain ⟨o1, o2, o3, o4, o5, o6, o7, o8, o9, o10, o11, o12⟩ := id hOk
    rw [onS_k hk (by omega)] at hp
    rcases Oo_or j (st.2.1 k 2 0) (by omega) with hl | ⟨l, hl, rfl⟩
    · rw [onS_o hl] at hp
      refine v_aload_n C dX5_row_0 rfl ?_
      refine v_iload_n C dX5_row_1 rfl ?_
      refine v_iload_n C dX5_row_2 rfl ?_
      refine v_callV2_1 C (m_X5_hasDirection T B) lk_X5_96 ⟨wt_620, ws_21⟩ 5 rfl dX5_row_3 ⟨Nat.le_of_ble_eq_true rfl, Nat.le_of_ble_eq_true rfl⟩ (Nat.le_of_ble_eq_true rfl) ⟨Nat.le_of_ble_eq_true rfl, Nat.le_of_ble_eq_true rfl⟩ (by assumption) (cTo_5 (by assumption)) ?_
      refine c_hd_j hM hn hn12 hdm hk hl ?_
      first | refine v_if_neN C 15 dX5_row_6 (by omega) (by decide) (fun h6 => ?_) (fun h6 => ?_) | refine v_if_ne C 15 dX5_row_6 (by decide) (fun h6 => ?_) (fun h6 => ?_)
      · exact absurd h6 (by decide)
      · refine v_aload_n C dX5_row_9 rfl ?_
        refine v_iconst (v := -1) C dX5_row_10 (by decide) ?_
        refine v_callV1_1 C (m_X5_refuse T B) lk_X5_88 ⟨wt_608, ws_19⟩ 5 rfl dX5_row_11 ⟨Nat.le_of_ble_eq_true rfl, Nat.le_of_ble_eq_true rfl⟩ (Nat.le_of_ble_eq_true rfl) ⟨Nat.le_of_ble_eq_true rfl, Nat.le_of_ble_eq_true rfl⟩ (by assumption) (cTo_5 (by assumption)) ?_
        refine c_X5_refuse (k := 1) hM (by decide) (by decide) ?_
        refine v_iret C Q dX5_row_14 (Nat.le_of_ble_eq_true rfl) (Nat.le_of_ble_eq_true rfl) ?_
        have w := Mq_rf (k := 1) hR (by decide) hp
        exact w
    · rw [onS_k hl (by omega)] at hp
      by_cases hkd : st.2.1 k 1 0 = 0
      · rw [if_pos hkd] at hp
        have hpw : I (M + 3) k = nI (st.2.1 k 3 0) := by rw [hk3]; unfold pwI; rw [if_neg (by omega)]
        rcases Oo_or i (st.2.1 k 3 0) (by omega) with hq | ⟨m, hm, rfl⟩
        · rw [onS_o hq] at hp
          refine v_aload_n C dX5_row_0 rfl ?_
          refine v_iload_n C dX5_row_1 rfl ?_
          refine v_iload_n C dX5_row_2 rfl ?_
          refine v_callV2_1 C (m_X5_hasDirection T B) lk_X5_96 ⟨wt_620, ws_21⟩ 5 rfl dX5_row_3 ⟨Nat.le_of_ble_eq_true rfl, Nat.le_of_ble_eq_true rfl⟩ (Nat.le_of_ble_eq_true rfl) ⟨Nat.le_of_ble_eq_true rfl, Nat.le_of_ble_eq_true rfl⟩ (by assumption) (cTo_5 (by assumption)) ?_
          refine c_hd_k hM hn hn12 hdm hk hl ?_
          first | refine v_if_neN C 15 dX5_row_6 (by omega) (by decide) (fun h6 => ?_) (fun h6 => ?_) | refine v_if_ne C 15 dX5_row_6 (by decide) (fun h6 => ?_) (fun h6 => ?_)
          · refine v_aload_n C dX5_row_15 rfl ?_
            refine g_5_1 C (by assumption) (by assumption) wt_534 dX5_row_16 ?_
            refine v_iload_n C dX5_row_19 rfl ?_
            first | refine v_ialdN C (by assumption) (by omega) (by omega) dX5_row_20 ?_ | refine v_iald C (by assumption) (by assumption) dX5_row_20 ?_
            rw [hk1]
            first | refine v_if_eqN C 31 dX5_row_21 (by omega) (by decide) (fun h21 => ?_) (fun h21 => ?_) | refine v_if_eq C 31 dX5_row_21 (by decide) (fun h21 => ?_) (fun h21 => ?_)
            · refine v_iload_n C dX5_row_31 rfl ?_
              refine v_i2l C dX5_row_32 ?_
              refine v_lconst (v := lN 0) C dX5_row_33 rfl ?_
              refine v_aload_n C dX5_row_34 rfl ?_
              refine g_5_3 C (by assumption) (by assumption) wt_536 dX5_row_35 ?_
              refine v_iload_n C dX5_row_38 rfl ?_
              first | refine v_ialdN C (by assumption) (by omega) (by omega) dX5_row_39 ?_ | refine v_iald C (by assumption) (by assumption) dX5_row_39 ?_
              rw [hpw]
              refine v_iconstN 1 C dX5_row_40 ?_
              refine v_isub C dX5_row_41 ?_
              refine v_i2l C dX5_row_42 ?_
              refine v_callS3_1 C (m_X5_in T B) lk_X5_76 wt_627 dX5_row_43 ⟨Nat.le_of_ble_eq_true rfl, Nat.le_of_ble_eq_true rfl⟩ (Nat.le_of_ble_eq_true rfl) ⟨Nat.le_of_ble_eq_true rfl, Nat.le_of_ble_eq_true rfl⟩ ?_
              refine c_in_o (by omega) hq ?_
              first | refine v_if_eqN C 68 dX5_row_46 (by omega) (by decide) (fun h46 => ?_) (fun h46 => ?_) | refine v_if_eq C 68 dX5_row_46 (by decide) (fun h46 => ?_) (fun h46 => ?_)
              · refine v_aload_n C dX5_row_68 rfl ?_
                refine v_bipush (v := -3) C dX5_row_69 (by decide) ?_
                refine v_callV1_1 C (m_X5_refuse T B) lk_X5_88 ⟨wt_608, ws_19⟩ 5 rfl dX5_row_71 ⟨Nat.le_of_ble_eq_true rfl, Nat.le_of_ble_eq_true rfl⟩ (Nat.le_of_ble_eq_true rfl) ⟨Nat.le_of_ble_eq_true rfl, Nat.le_of_ble_eq_true rfl⟩ (by assumption) (cTo_5 (by assumption)) ?_
                refine c_X5_refuse (k := 3) hM (by decide) (by decide) ?_
                refine v_iret C Q dX5_row_74 (Nat.le_of_ble_eq_true rfl) (Nat.le_of_ble_eq_true rfl) ?_
                have w := Mq_rf (k := 3) hR (by decide) hp
                exact w
              · exact absurd rfl h46
            · exact absurd hkd h21
          · exact absurd h6 (by decide)
        · rw [onS_k hm (by omega)] at hp
          rcases Oo_or b (st.2.1 k 4 0) (by omega) with hq | ⟨v, hv, rfl⟩
          · rw [onS_o hq] at hp
            refine v_aload_n C dX5_row_0 rfl ?_
            refine v_iload_n C dX5_row_1 rfl ?_
            refine v_iload_n C dX5_row_2 rfl ?_
            refine v_callV2_1 C (m_X5_hasDirection T B) lk_X5_96 ⟨wt_620, ws_21⟩ 5 rfl dX5_row_3 ⟨Nat.le_of_ble_eq_true rfl, Nat.le_of_ble_eq_true rfl⟩ (Nat.le_of_ble_eq_true rfl) ⟨Nat.le_of_ble_eq_true rfl, Nat.le_of_ble_eq_true rfl⟩ (by assumption) (cTo_5 (by assumption)) ?_
            refine c_hd_k hM hn hn12 hdm hk hl ?_
            first | refine v_if_neN C 15 dX5_row_6 (by omega) (by decide) (fun h6 => ?_) (fun h6 => ?_) | refine v_if_ne C 15 dX5_row_6 (by decide) (fun h6 => ?_) (fun h6 => ?_)
            · refine v_aload_n C dX5_row_15 rfl ?_
              refine g_5_1 C (by assumption) (by assumption) wt_534 dX5_row_16 ?_
              refine v_iload_n C dX5_row_19 rfl ?_
              first | refine v_ialdN C (by assumption) (by omega) (by omega) dX5_row_20 ?_ | refine v_iald C (by assumption) (by assumption) dX5_row_20 ?_
              rw [hk1]
              first | refine v_if_eqN C 31 dX5_row_21 (by omega) (by decide) (fun h21 => ?_) (fun h21 => ?_) | refine v_if_eq C 31 dX5_row_21 (by decide) (fun h21 => ?_) (fun h21 => ?_)
              · refine v_iload_n C dX5_row_31 rfl ?_
                refine v_i2l C dX5_row_32 ?_
                refine v_lconst (v := lN 0) C dX5_row_33 rfl ?_
                refine v_aload_n C dX5_row_34 rfl ?_
                refine g_5_3 C (by assumption) (by assumption) wt_536 dX5_row_35 ?_
                refine v_iload_n C dX5_row_38 rfl ?_
                first | refine v_ialdN C (by assumption) (by omega) (by omega) dX5_row_39 ?_ | refine v_iald C (by assumption) (by assumption) dX5_row_39 ?_
                rw [hpw]
                refine v_iconstN 1 C dX5_row_40 ?_
                refine v_isub C dX5_row_41 ?_
                refine v_i2l C dX5_row_42 ?_
                refine v_callS3_1 C (m_X5_in T B) lk_X5_76 wt_627 dX5_row_43 ⟨Nat.le_of_ble_eq_true rfl, Nat.le_of_ble_eq_true rfl⟩ (Nat.le_of_ble_eq_true rfl) ⟨Nat.le_of_ble_eq_true rfl, Nat.le_of_ble_eq_true rfl⟩ ?_
                refine c_in_k (by omega) hm ?_
                first | refine v_if_eqN C 68 dX5_row_46 (by omega) (by decide) (fun h46 => ?_) (fun h46 => ?_) | refine v_if_eq C 68 dX5_row_46 (by decide) (fun h46 => ?_) (fun h46 => ?_)
                · exact absurd h46 (by decide)
                · refine v_iload C dX5_row_49 rfl ?_
                  refine v_i2l C dX5_row_51 ?_
                  refine v_lconst (v := lN 0) C dX5_row_52 rfl ?_
                  refine v_aload_n C dX5_row_53 rfl ?_
                  refine g_5_4 C (by assumption) (by assumption) wt_537 dX5_row_54 ?_
                  refine v_iload_n C dX5_row_57 rfl ?_
                  first | refine v_ialdN C (by assumption) (by omega) (by omega) dX5_row_58 ?_ | refine v_iald C (by assumption) (by assumption) dX5_row_58 ?_
                  rw [hk4]
                  refine v_iconstN 1 C dX5_row_59 ?_
                  refine v_isub C dX5_row_60 ?_
                  refine v_i2l C dX5_row_61 ?_
                  refine v_callS3_1 C (m_X5_in T B) lk_X5_76 wt_627 dX5_row_62 ⟨Nat.le_of_ble_eq_true rfl, Nat.le_of_ble_eq_true rfl⟩ (Nat.le_of_ble_eq_true rfl) ⟨Nat.le_of_ble_eq_true rfl, Nat.le_of_ble_eq_true rfl⟩ ?_
                  refine c_in_o (by omega) hq ?_
                  first | refine v_if_neN C 75 dX5_row_65 (by omega) (by decide) (fun h65 => ?_) (fun h65 => ?_) | refine v_if_ne C 75 dX5_row_65 (by decide) (fun h65 => ?_) (fun h65 => ?_)
                  · exact absurd h65 (by decide)
                  · refine v_aload_n C dX5_row_68 rfl ?_
                    refine v_bipush (v := -3) C dX5_row_69 (by decide) ?_
                    refine v_callV1_1 C (m_X5_refuse T B) lk_X5_88 ⟨wt_608, ws_19⟩ 5 rfl dX5_row_71 ⟨Nat.le_of_ble_eq_true rfl, Nat.le_of_ble_eq_true rfl⟩ (Nat.le_of_ble_eq_true rfl) ⟨Nat.le_of_ble_eq_true rfl, Nat.le_of_ble_eq_true rfl⟩ (by assumption) (cTo_5 (by assumption)) ?_
                    refine c_X5_refuse (k := 3) hM (by decide) (by decide) ?_
                    refine v_iret C Q dX5_row_74 (Nat.le_of_ble_eq_true rfl) (Nat.le_of_ble_eq_true rfl) ?_
                    have w := Mq_rf (k := 3) hR (by decide) hp
                    exact w
              · exact absurd hkd h21
            · exact absurd h6 (by decide)
          · rw [onS_k hv (by omega)] at hp
            have hr0 := hk6 (l * 8 + m) (by omega)
            refine v_aload_n C dX5_row_0 rfl ?_
            refine v_iload_n C dX5_row_1 rfl ?_
            refine v_iload_n C dX5_row_2 rfl ?_
            refine v_callV2_1 C (m_X5_hasDirection T B) lk_X5_96 ⟨wt_620, ws_21⟩ 5 rfl dX5_row_3 ⟨Nat.le_of_ble_eq_true rfl, Nat.le_of_ble_eq_true rfl⟩ (Nat.le_of_ble_eq_true rfl) ⟨Nat.le_of_ble_eq_true rfl, Nat.le_of_ble_eq_true rfl⟩ (by assumption) (cTo_5 (by assumption)) ?_
            refine c_hd_k hM hn hn12 hdm hk hl ?_
            first | refine v_if_neN C 15 dX5_row_6 (by omega) (by decide) (fun h6 => ?_) (fun h6 => ?_) | refine v_if_ne C 15 dX5_row_6 (by decide) (fun h6 => ?_) (fun h6 => ?_)
            · refine v_aload_n C dX5_row_15 rfl ?_
              refine g_5_1 C (by assumption) (by assumption) wt_534 dX5_row_16 ?_
              refine v_iload_n C dX5_row_19 rfl ?_
              first | refine v_ialdN C (by assumption) (by omega) (by omega) dX5_row_20 ?_ | refine v_iald C (by assumption) (by assumption) dX5_row_20 ?_
              rw [hk1]
              first | refine v_if_eqN C 31 dX5_row_21 (by omega) (by decide) (fun h21 => ?_) (fun h21 => ?_) | refine v_if_eq C 31 dX5_row_21 (by decide) (fun h21 => ?_) (fun h21 => ?_)
              · refine v_iload_n C dX5_row_31 rfl ?_
                refine v_i2l C dX5_row_32 ?_
                refine v_lconst (v := lN 0) C dX5_row_33 rfl ?_
                refine v_aload_n C dX5_row_34 rfl ?_
                refine g_5_3 C (by assumption) (by assumption) wt_536 dX5_row_35 ?_
                refine v_iload_n C dX5_row_38 rfl ?_
                first | refine v_ialdN C (by assumption) (by omega) (by omega) dX5_row_39 ?_ | refine v_iald C (by assumption) (by assumption) dX5_row_39 ?_
                rw [hpw]
                refine v_iconstN 1 C dX5_row_40 ?_
                refine v_isub C dX5_row_41 ?_
                refine v_i2l C dX5_row_42 ?_
                refine v_callS3_1 C (m_X5_in T B) lk_X5_76 wt_627 dX5_row_43 ⟨Nat.le_of_ble_eq_true rfl, Nat.le_of_ble_eq_true rfl⟩ (Nat.le_of_ble_eq_true rfl) ⟨Nat.le_of_ble_eq_true rfl, Nat.le_of_ble_eq_true rfl⟩ ?_
                refine c_in_k (by omega) hm ?_
                first | refine v_if_eqN C 68 dX5_row_46 (by omega) (by decide) (fun h46 => ?_) (fun h46 => ?_) | refine v_if_eq C 68 dX5_row_46 (by decide) (fun h46 => ?_) (fun h46 => ?_)
                · exact absurd h46 (by decide)
                · refine v_iload C dX5_row_49 rfl ?_
                  refine v_i2l C dX5_row_51 ?_
                  refine v_lconst (v := lN 0) C dX5_row_52 rfl ?_
                  refine v_aload_n C dX5_row_53 rfl ?_
                  refine g_5_4 C (by assumption) (by assumption) wt_537 dX5_row_54 ?_
                  refine v_iload_n C dX5_row_57 rfl ?_
                  first | refine v_ialdN C (by assumption) (by omega) (by omega) dX5_row_58 ?_ | refine v_iald C (by assumption) (by assumption) dX5_row_58 ?_
                  rw [hk4]
                  refine v_iconstN 1 C dX5_row_59 ?_
                  refine v_isub C dX5_row_60 ?_
                  refine v_i2l C dX5_row_61 ?_
                  refine v_callS3_1 C (m_X5_in T B) lk_X5_76 wt_627 dX5_row_62 ⟨Nat.le_of_ble_eq_true rfl, Nat.le_of_ble_eq_true rfl⟩ (Nat.le_of_ble_eq_true rfl) ⟨Nat.le_of_ble_eq_true rfl, Nat.le_of_ble_eq_true rfl⟩ ?_
                  refine c_in_k (by omega) hv ?_
                  first | refine v_if_neN C 75 dX5_row_65 (by omega) (by decide) (fun h65 => ?_) (fun h65 => ?_) | refine v_if_ne C 75 dX5_row_65 (by decide) (fun h65 => ?_) (fun h65 => ?_)
                  · refine v_bipushN 48 (by decide) C dX5_row_75 ?_
                    refine v_iload_n C dX5_row_77 rfl ?_
                    first | refine v_imulN C dX5_row_78 ?_ | refine v_imul C dX5_row_78 ?_
                    refine v_bipushN 8 (by decide) C dX5_row_79 ?_
                    refine v_iload_n C dX5_row_81 rfl ?_
                    first | refine v_imulN C dX5_row_82 ?_ | refine v_imul C dX5_row_82 ?_
                    first | refine v_iaddN C dX5_row_83 ?_ | refine v_iadd C dX5_row_83 ?_
                    refine v_iload_n C dX5_row_84 rfl ?_
                    first | refine v_iaddN C dX5_row_85 ?_ | refine v_iadd C dX5_row_85 ?_
                    rw [show 48 * k + 8 * l + m = 48 * k + (l * 8 + m) by omega]
                    refine v_istore C dX5_row_86 (by decide) ?_
                    refine v_aload_n C dX5_row_88 rfl ?_
                    refine g_5_6 C (by assumption) (by assumption) wt_539 dX5_row_89 ?_
                    refine v_iload C dX5_row_92 rfl ?_
                    first | refine v_ialdN C (by assumption) (by omega) (by omega) dX5_row_94 ?_ | refine v_iald C (by assumption) (by assumption) dX5_row_94 ?_
                    rw [hr0]
                    refine v_istore C dX5_row_95 (by decide) ?_
                    refine v_aload_n C dX5_row_97 rfl ?_
                    refine g_5_6 C (by assumption) (by assumption) wt_539 dX5_row_98 ?_
                    refine v_iload C dX5_row_101 rfl ?_
                    refine v_iload C dX5_row_103 rfl ?_
                    first | refine v_iastN C (by assumption) (by omega) (by omega) dX5_row_105 ?_ | refine v_iast C (by assumption) (by assumption) dX5_row_105 ?_
                    refine v_iload C dX5_row_106 rfl ?_
                    refine v_iret C Q dX5_row_108 (Nat.le_of_ble_eq_true rfl) (Nat.le_of_ble_eq_true rfl) ?_
                    have w := Mq_set hR (FrS.rf.mu (by omega) (by omega)) (fun s hs => MsR_6 (hms s hs) (by omega)) hp
                    exact w
                  · exact absurd h65 (by decide)
              · exact absurd hkd h21
            · exact absurd h6 (by decide)
      · rw [if_neg hkd] at hp
        refine v_aload_n C dX5_row_0 rfl ?_
        refine v_iload_n C dX5_row_1 rfl ?_
        refine v_iload_n C dX5_row_2 rfl ?_
        refine v_callV2_1 C (m_X5_hasDirection T B) lk_X5_96 ⟨wt_620, ws_21⟩ 5 rfl dX5_row_3 ⟨Nat.le_of_ble_eq_true rfl, Nat.le_of_ble_eq_true rfl⟩ (Nat.le_of_ble_eq_true rfl) ⟨Nat.le_of_ble_eq_true rfl, Nat.le_of_ble_eq_true rfl⟩ (by assumption) (cTo_5 (by assumption)) ?_
        refine c_hd_k hM hn hn12 hdm hk hl ?_
        first | refine v_if_neN C 15 dX5_row_6 (by omega) (by decide) (fun h6 => ?_) (fun h6 => ?_) | refine v_if_ne C 15 dX5_row_6 (by decide) (fun h6 => ?_) (fun h6 => ?_)
        · refine v_aload_n C dX5_row_15 rfl ?_
          refine g_5_1 C (by assumption) (by assumption) wt_534 dX5_row_16 ?_
          refine v_iload_n C dX5_row_19 rfl ?_
          first | refine v_ialdN C (by assumption) (by omega) (by omega) dX5_row_20 ?_ | refine v_iald C (by assumption) (by assumption) dX5_row_20 ?_
          rw [hk1]
          first | refine v_if_eqN C 31 dX5_row_21 (by omega) (by decide) (fun h21 => ?_) (fun h21 => ?_) | refine v_if_eq C 31 dX5_row_21 (by decide) (fun h21 => ?_) (fun h21 => ?_)
          · exact absurd h21 hkd
          · refine v_aload_n C dX5_row_24 rfl ?_
            refine v_bipush (v := -2) C dX5_row_25 (by decide) ?_
            refine v_callV1_1 C (m_X5_refuse T B) lk_X5_88 ⟨wt_608, ws_19⟩ 5 rfl dX5_row_27 ⟨Nat.le_of_ble_eq_true rfl, Nat.le_of_ble_eq_true rfl⟩ (Nat.le_of_ble_eq_true rfl) ⟨Nat.le_of_ble_eq_true rfl, Nat.le_of_ble_eq_true rfl⟩ (by assumption) (cTo_5 (by assumption)) ?_
            refine c_X5_refuse (k := 2) hM (by decide) (by decide) ?_
            refine v_iret C Q dX5_row_30 (Nat.le_of_ble_eq_true rfl) (Nat.le_of_ble_eq_true rfl) ?_
            have w := Mq_rf (k := 2) hR (by decide) hp
            exact w
        · exact absurd h6 (by decide)
def s_X5_mask : Sp := fun av z S I J R Post => ∃ (M : Nat), ∃ (st : St), ∃ (s j b : Int32), av = [.ref M, .int s, .int j, .int b] ∧ (MoS S R M) ∧ (Rm M st I) ∧ (Ok st) ∧ (Mq M (o_mask st s j b).2 I J (fun I' J' => Post (o_mask st s j b).1 0 none z S I' J' R))
theorem c_X5_mask {M : Nat} {st : St} {s j b : Int32} {z : Nat} {S : MS} {I : MI} {J : MJ} {R : MR} {Post : PT} (hM : MoS S R M) (hR : Rm M st I) (hO : Ok st) (hp : Mq M (o_mask st s j b).2 I J (fun I' J' => Post (o_mask st s j b).1 0 none z S I' J' R)) : s_X5_mask [.ref M, .int s, .int j, .int b] z S I J R Post := ⟨M, st, s, j, b, rfl, hM, hR, hO, hp⟩
set_option maxRecDepth 100000 in
set_option maxHeartbeats 1000000 in
theorem m_X5_mask (T : TC) (B : Nat) : Mt T B yX5_mask cX5_mask 5 (some .int) 1 (rmL 4 0 0) s_X5_mask := by
  refine Mt_of rfl (by rintro _ _ _ _ _ _ _ ⟨_, _, _, _, _, rfl, -⟩; exact Nat.le_of_ble_eq_true rfl) ?_
  intro X av z S I J R Post h C Q hI
  obtain ⟨M, st, s, j, b, rfl, hM, hR, hO, hp⟩ := h
  have hn12 := hO.1
  obtain ⟨hn, htl, hms, htr, hrf⟩ := id hR
  obtain ⟨hS0, hr1, hr2, hr3, hr4, hr5, hr6, hr7, hr8, hr9, hr10, hr11, hr12, hr14, hr15, hr16, hr17, hr18, hr19, hr20, hs1, hs2, hs3, hs4, hs5, hs6, hs7, hs8, hs9, hs10, hs11, hs12, hs13, hs14, hs15, hs16, hs17, hs18, hs19⟩ := id hM
  have hdm := Rm_dm hR hO
  unfold o_mask at hp
  rcases Oo_or s st.1 (by omega) with ho | ⟨k, hk, rfl⟩
  · rw [onS_o ho] at hp
    refine v_aload_n C dX5_mask_0 rfl ?_
    refine v_iload_n C dX5_mask_1 rfl ?_
    refine v_iload_n C dX5_mask_2 rfl ?_
    refine v_callV2_1 C (m_X5_hasDirection T B) lk_X5_96 ⟨wt_620, ws_21⟩ 5 rfl dX5_mask_3 ⟨Nat.le_of_ble_eq_true rfl, Nat.le_of_ble_eq_true rfl⟩ (Nat.le_of_ble_eq_true rfl) ⟨Nat.le_of_ble_eq_true rfl, Nat.le_of_ble_eq_true rfl⟩ (by assumption) (cTo_5 (by assumption)) ?_
    refine c_hd_o hM hn hn12 hdm ho ?_
    first | refine v_if_neN C 15 dX5_mask_6 (by omega) (by decide) (fun h6 => ?_) (fun h6 => ?_) | refine v_if_ne C 15 dX5_mask_6 (by decide) (fun h6 => ?_) (fun h6 => ?_)
    · exact absurd h6 (by decide)
    · refine v_aload_n C dX5_mask_9 rfl ?_
      refine v_iconst (v := -1) C dX5_mask_10 (by decide) ?_
      refine v_callV1_1 C (m_X5_refuse T B) lk_X5_88 ⟨wt_608, ws_19⟩ 5 rfl dX5_mask_11 ⟨Nat.le_of_ble_eq_true rfl, Nat.le_of_ble_eq_true rfl⟩ (Nat.le_of_ble_eq_true rfl) ⟨Nat.le_of_ble_eq_true rfl, Nat.le_of_ble_eq_true rfl⟩ (by assumption) (cTo_5 (by assumption)) ?_
      refine c_X5_refuse (k := 1) hM (by decide) (by decide) ?_
      refine v_iret C Q dX5_mask_14 (Nat.le_of_ble_eq_true rfl) (Nat.le_of_ble_eq_true rfl) ?_
      have w := Mq_rf (k := 1) hR (by decide) hp
      exact w
  · have hMs := hms k (by omega)
    have hMs0 := hMs
    obtain ⟨hk1, hk2, hk3, hk4, hk5, hk6, hk7, hk8, hk9⟩ := hMs
    have hOk := hO.2.1 k hk
    obtain ⟨o1, o2, o3, o4, o5, o6, o7, o8, o9, o10, o11, o12⟩ := id hOk
    rw [onS_k hk (by omega)] at hp
    rcases Oo_or j (st.2.1 k 2 0) (by omega) with hl | ⟨l, hl, rfl⟩
    · rw [onS_o hl] at hp
      refine v_aload_n C dX5_mask_0 rfl ?_
      refine v_iload_n C dX5_mask_1 rfl ?_
      refine v_iload_n C dX5_mask_2 rfl ?_
      refine v_callV2_1 C (m_X5_hasDirection T B) lk_X5_96 ⟨wt_620, ws_21⟩ 5 rfl dX5_mask_3 ⟨Nat.le_of_ble_eq_true rfl, Nat.le_of_ble_eq_true rfl⟩ (Nat.le_of_ble_eq_true rfl) ⟨Nat.le_of_ble_eq_true rfl, Nat.le_of_ble_eq_true rfl⟩ (by assumption) (cTo_5 (by assumption)) ?_
      refine c_hd_j hM hn hn12 hdm hk hl ?_
      first | refine v_if_neN C 15 dX5_mask_6 (by omega) (by decide) (fun h6 => ?_) (fun h6 => ?_) | refine v_if_ne C 15 dX5_mask_6 (by decide) (fun h6 => ?_) (fun h6 => ?_)
      · exact absurd h6 (by decide)
      · refine v_aload_n C dX5_mask_9 rfl ?_
        refine v_iconst (v := -1) C dX5_mask_10 (by decide) ?_
        refine v_callV1_1 C (m_X5_refuse T B) lk_X5_88 ⟨wt_608, ws_19⟩ 5 rfl dX5_mask_11 ⟨Nat.le_of_ble_eq_true rfl, Nat.le_of_ble_eq_true rfl⟩ (Nat.le_of_ble_eq_true rfl) ⟨Nat.le_of_ble_eq_true rfl, Nat.le_of_ble_eq_true rfl⟩ (by assumption) (cTo_5 (by assumption)) ?_
        refine c_X5_refuse (k := 1) hM (by decide) (by decide) ?_
        refine v_iret C Q dX5_mask_14 (Nat.le_of_ble_eq_true rfl) (Nat.le_of_ble_eq_true rfl) ?_
        have w := Mq_rf (k := 1) hR (by decide) hp
        exact w
    · rw [onS_k hl (by omega)] at hp
      by_cases hkd : st.2.1 k 1 0 = 2
      · rw [if_pos hkd] at hp
        rcases Oo_or b (st.2.1 k 4 0) (by omega) with hq | ⟨v, hv, rfl⟩
        · rw [onS_o hq] at hp
          refine v_aload_n C dX5_mask_0 rfl ?_
          refine v_iload_n C dX5_mask_1 rfl ?_
          refine v_iload_n C dX5_mask_2 rfl ?_
          refine v_callV2_1 C (m_X5_hasDirection T B) lk_X5_96 ⟨wt_620, ws_21⟩ 5 rfl dX5_mask_3 ⟨Nat.le_of_ble_eq_true rfl, Nat.le_of_ble_eq_true rfl⟩ (Nat.le_of_ble_eq_true rfl) ⟨Nat.le_of_ble_eq_true rfl, Nat.le_of_ble_eq_true rfl⟩ (by assumption) (cTo_5 (by assumption)) ?_
          refine c_hd_k hM hn hn12 hdm hk hl ?_
          first | refine v_if_neN C 15 dX5_mask_6 (by omega) (by decide) (fun h6 => ?_) (fun h6 => ?_) | refine v_if_ne C 15 dX5_mask_6 (by decide) (fun h6 => ?_) (fun h6 => ?_)
          · refine v_aload_n C dX5_mask_15 rfl ?_
            refine g_5_1 C (by assumption) (by assumption) wt_534 dX5_mask_16 ?_
            refine v_iload_n C dX5_mask_19 rfl ?_
            first | refine v_ialdN C (by assumption) (by omega) (by omega) dX5_mask_20 ?_ | refine v_iald C (by assumption) (by assumption) dX5_mask_20 ?_
            rw [hk1]
            refine v_iconstN 2 C dX5_mask_21 ?_
            first | refine v_icmp_eqN C 32 dX5_mask_22 (by omega) (by omega) (by decide) (fun h22 => ?_) (fun h22 => ?_) | refine v_icmp_eq C 32 dX5_mask_22 (by decide) (fun h22 => ?_) (fun h22 => ?_)
            · refine v_iload_n C dX5_mask_32 rfl ?_
              refine v_i2l C dX5_mask_33 ?_
              refine v_lconst (v := lN 0) C dX5_mask_34 rfl ?_
              refine v_aload_n C dX5_mask_35 rfl ?_
              refine g_5_4 C (by assumption) (by assumption) wt_537 dX5_mask_36 ?_
              refine v_iload_n C dX5_mask_39 rfl ?_
              first | refine v_ialdN C (by assumption) (by omega) (by omega) dX5_mask_40 ?_ | refine v_iald C (by assumption) (by assumption) dX5_mask_40 ?_
              rw [hk4]
              refine v_iconstN 1 C dX5_mask_41 ?_
              refine v_isub C dX5_mask_42 ?_
              refine v_i2l C dX5_mask_43 ?_
              refine v_callS3_1 C (m_X5_in T B) lk_X5_76 wt_627 dX5_mask_44 ⟨Nat.le_of_ble_eq_true rfl, Nat.le_of_ble_eq_true rfl⟩ (Nat.le_of_ble_eq_true rfl) ⟨Nat.le_of_ble_eq_true rfl, Nat.le_of_ble_eq_true rfl⟩ ?_
              refine c_in_o (by omega) hq ?_
              first | refine v_if_neN C 57 dX5_mask_47 (by omega) (by decide) (fun h47 => ?_) (fun h47 => ?_) | refine v_if_ne C 57 dX5_mask_47 (by decide) (fun h47 => ?_) (fun h47 => ?_)
              · exact absurd h47 (by decide)
              · refine v_aload_n C dX5_mask_50 rfl ?_
                refine v_bipush (v := -3) C dX5_mask_51 (by decide) ?_
                refine v_callV1_1 C (m_X5_refuse T B) lk_X5_88 ⟨wt_608, ws_19⟩ 5 rfl dX5_mask_53 ⟨Nat.le_of_ble_eq_true rfl, Nat.le_of_ble_eq_true rfl⟩ (Nat.le_of_ble_eq_true rfl) ⟨Nat.le_of_ble_eq_true rfl, Nat.le_of_ble_eq_true rfl⟩ (by assumption) (cTo_5 (by assumption)) ?_
                refine c_X5_refuse (k := 3) hM (by decide) (by decide) ?_
                refine v_iret C Q dX5_mask_56 (Nat.le_of_ble_eq_true rfl) (Nat.le_of_ble_eq_true rfl) ?_
                have w := Mq_rf (k := 3) hR (by decide) hp
                exact w
            · exact absurd hkd h22
          · exact absurd h6 (by decide)
        · rw [onS_k hv (by omega)] at hp
          have hr0 := hk7 l (by omega)
          refine v_aload_n C dX5_mask_0 rfl ?_
          refine v_iload_n C dX5_mask_1 rfl ?_
          refine v_iload_n C dX5_mask_2 rfl ?_
          refine v_callV2_1 C (m_X5_hasDirection T B) lk_X5_96 ⟨wt_620, ws_21⟩ 5 rfl dX5_mask_3 ⟨Nat.le_of_ble_eq_true rfl, Nat.le_of_ble_eq_true rfl⟩ (Nat.le_of_ble_eq_true rfl) ⟨Nat.le_of_ble_eq_true rfl, Nat.le_of_ble_eq_true rfl⟩ (by assumption) (cTo_5 (by assumption)) ?_
          refine c_hd_k hM hn hn12 hdm hk hl ?_
          first | refine v_if_neN C 15 dX5_mask_6 (by omega) (by decide) (fun h6 => ?_) (fun h6 => ?_) | refine v_if_ne C 15 dX5_mask_6 (by decide) (fun h6 => ?_) (fun h6 => ?_)
          · refine v_aload_n C dX5_mask_15 rfl ?_
            refine g_5_1 C (by assumption) (by assumption) wt_534 dX5_mask_16 ?_
            refine v_iload_n C dX5_mask_19 rfl ?_
            first | refine v_ialdN C (by assumption) (by omega) (by omega) dX5_mask_20 ?_ | refine v_iald C (by assumption) (by assumption) dX5_mask_20 ?_
            rw [hk1]
            refine v_iconstN 2 C dX5_mask_21 ?_
            first | refine v_icmp_eqN C 32 dX5_mask_22 (by omega) (by omega) (by decide) (fun h22 => ?_) (fun h22 => ?_) | refine v_icmp_eq C 32 dX5_mask_22 (by decide) (fun h22 => ?_) (fun h22 => ?_)
            · refine v_iload_n C dX5_mask_32 rfl ?_
              refine v_i2l C dX5_mask_33 ?_
              refine v_lconst (v := lN 0) C dX5_mask_34 rfl ?_
              refine v_aload_n C dX5_mask_35 rfl ?_
              refine g_5_4 C (by assumption) (by assumption) wt_537 dX5_mask_36 ?_
              refine v_iload_n C dX5_mask_39 rfl ?_
              first | refine v_ialdN C (by assumption) (by omega) (by omega) dX5_mask_40 ?_ | refine v_iald C (by assumption) (by assumption) dX5_mask_40 ?_
              rw [hk4]
              refine v_iconstN 1 C dX5_mask_41 ?_
              refine v_isub C dX5_mask_42 ?_
              refine v_i2l C dX5_mask_43 ?_
              refine v_callS3_1 C (m_X5_in T B) lk_X5_76 wt_627 dX5_mask_44 ⟨Nat.le_of_ble_eq_true rfl, Nat.le_of_ble_eq_true rfl⟩ (Nat.le_of_ble_eq_true rfl) ⟨Nat.le_of_ble_eq_true rfl, Nat.le_of_ble_eq_true rfl⟩ ?_
              refine c_in_k (by omega) hv ?_
              first | refine v_if_neN C 57 dX5_mask_47 (by omega) (by decide) (fun h47 => ?_) (fun h47 => ?_) | refine v_if_ne C 57 dX5_mask_47 (by decide) (fun h47 => ?_) (fun h47 => ?_)
              · refine v_aload_n C dX5_mask_57 rfl ?_
                refine g_5_7 C (by assumption) (by assumption) wt_540 dX5_mask_58 ?_
                refine v_bipushN 6 (by decide) C dX5_mask_61 ?_
                refine v_iload_n C dX5_mask_63 rfl ?_
                first | refine v_imulN C dX5_mask_64 ?_ | refine v_imul C dX5_mask_64 ?_
                refine v_iload_n C dX5_mask_65 rfl ?_
                first | refine v_iaddN C dX5_mask_66 ?_ | refine v_iadd C dX5_mask_66 ?_
                first | refine v_ialdN C (by assumption) (by omega) (by omega) dX5_mask_67 ?_ | refine v_iald C (by assumption) (by assumption) dX5_mask_67 ?_
                rw [hr0]
                refine v_istore C dX5_mask_68 (by decide) ?_
                refine v_aload_n C dX5_mask_70 rfl ?_
                refine g_5_7 C (by assumption) (by assumption) wt_540 dX5_mask_71 ?_
                refine v_bipushN 6 (by decide) C dX5_mask_74 ?_
                refine v_iload_n C dX5_mask_76 rfl ?_
                first | refine v_imulN C dX5_mask_77 ?_ | refine v_imul C dX5_mask_77 ?_
                refine v_iload_n C dX5_mask_78 rfl ?_
                first | refine v_iaddN C dX5_mask_79 ?_ | refine v_iadd C dX5_mask_79 ?_
                refine v_iload_n C dX5_mask_80 rfl ?_
                first | refine v_iastN C (by assumption) (by omega) (by omega) dX5_mask_81 ?_ | refine v_iast C (by assumption) (by assumption) dX5_mask_81 ?_
                refine v_iload C dX5_mask_82 rfl ?_
                refine v_iret C Q dX5_mask_84 (Nat.le_of_ble_eq_true rfl) (Nat.le_of_ble_eq_true rfl) ?_
                have w := Mq_set hR (FrS.rf.mu (by omega) (by omega)) (fun s hs => MsR_7 (hms s hs) (by omega)) hp
                exact w
              · exact absurd h47 (by decide)
            · exact absurd hkd h22
          · exact absurd h6 (by decide)
      · rw [if_neg hkd] at hp
        refine v_aload_n C dX5_mask_0 rfl ?_
        refine v_iload_n C dX5_mask_1 rfl ?_
        refine v_iload_n C dX5_mask_2 rfl ?_
        refine v_callV2_1 C (m_X5_hasDirection T B) lk_X5_96 ⟨wt_620, ws_21⟩ 5 rfl dX5_mask_3 ⟨Nat.le_of_ble_eq_true rfl, Nat.le_of_ble_eq_true rfl⟩ (Nat.le_of_ble_eq_true rfl) ⟨Nat.le_of_ble_eq_true rfl, Nat.le_of_ble_eq_true rfl⟩ (by assumption) (cTo_5 (by assumption)) ?_
        refine c_hd_k hM hn hn12 hdm hk hl ?_
        first | refine v_if_neN C 15 dX5_mask_6 (by omega) (by decide) (fun h6 => ?_) (fun h6 => ?_) | refine v_if_ne C 15 dX5_mask_6 (by decide) (fun h6 => ?_) (fun h6 => ?_)
        · refine v_aload_n C dX5_mask_15 rfl ?_
          refine g_5_1 C (by assumption) (by assumption) wt_534 dX5_mask_16 ?_
          refine v_iload_n C dX5_mask_19 rfl ?_
          first | refine v_ialdN C (by assumption) (by omega) (by omega) dX5_mask_20 ?_ | refine v_iald C (by assumption) (by assumption) dX5_mask_20 ?_
          rw [hk1]
          refine v_iconstN 2 C dX5_mask_21 ?_
          first | refine v_icmp_eqN C 32 dX5_mask_22 (by omega) (by omega) (by decide) (fun h22 => ?_) (fun h22 => ?_) | refine v_icmp_eq C 32 dX5_mask_22 (by decide) (fun h22 => ?_) (fun h22 => ?_)
          · exact absurd h22 hkd
          · refine v_aload_n C dX5_mask_25 rfl ?_
            refine v_bipush (v := -2) C dX5_mask_26 (by decide) ?_
            refine v_callV1_1 C (m_X5_refuse T B) lk_X5_88 ⟨wt_608, ws_19⟩ 5 rfl dX5_mask_28 ⟨Nat.le_of_ble_eq_true rfl, Nat.le_of_ble_eq_true rfl⟩ (Nat.le_of_ble_eq_true rfl) ⟨Nat.le_of_ble_eq_true rfl, Nat.le_of_ble_eq_true rfl⟩ (by assumption) (cTo_5 (by assumption)) ?_
            refine c_X5_refuse (k := 2) hM (by decide) (by decide) ?_
            refine v_iret C Q dX5_mask_31 (Nat.le_of_ble_eq_true rfl) (Nat.le_of_ble_eq_true rfl) ?_
            have w := Mq_rf (k := 2) hR (by decide) hp
            exact w
        · exact absurd h6 (by decide)
def s_X5_step : Sp := fun av z S I J R Post => ∃ (M : Nat), ∃ (st : St), ∃ (s j b : Int32), av = [.ref M, .int s, .int j, .int b] ∧ (MoS S R M) ∧ (Rm M st I) ∧ (Ok st) ∧ (Mq M (o_step st s j b).2 I J (fun I' J' => Post (o_step st s j b).1 0 none z S I' J' R))
theorem c_X5_step {M : Nat} {st : St} {s j b : Int32} {z : Nat} {S : MS} {I : MI} {J : MJ} {R : MR} {Post : PT} (hM : MoS S R M) (hR : Rm M st I) (hO : Ok st) (hp : Mq M (o_step st s j b).2 I J (fun I' J' => Post (o_step st s j b).1 0 none z S I' J' R)) : s_X5_step [.ref M, .int s, .int j, .int b] z S I J R Post := ⟨M, st, s, j, b, rfl, hM, hR, hO, hp⟩
set_option maxRecDepth 100000 in
set_option maxHeartbeats 1000000 in
theorem m_X5_step (T : TC) (B : Nat) : Mt T B yX5_step cX5_step 5 (some .int) 1 (rmL 4 0 0) s_X5_step := by
  refine Mt_of rfl (by rintro _ _ _ _ _ _ _ ⟨_, _, _, _, _, rfl, -⟩; exact Nat.le_of_ble_eq_true rfl) ?_
  intro X av z S I J R Post h C Q hI
  obtain ⟨M, st, s, j, b, rfl, hM, hR, hO, hp⟩ := h
  have hn12 := hO.1
  obtain ⟨hn, htl, hms, htr, hrf⟩ := id hR
  obtain ⟨hS0, hr1, hr2, hr3, hr4, hr5, hr6, hr7, hr8, hr9, hr10, hr11, hr12, hr14, hr15, hr16, hr17, hr18, hr19, hr20, hs1, hs2, hs3, hs4, hs5, hs6, hs7, hs8, hs9, hs10, hs11, hs12, hs13, hs14, hs15, hs16, hs17, hs18, hs19⟩ := id hM
  have hdm := Rm_dm hR hO
  unfold o_step at hp
  rcases Oo_or s st.1 (by omega) with ho | ⟨k, hk, rfl⟩
  · rw [onS_o ho] at hp
    refine v_aload_n C dX5_step_0 rfl ?_
    refine v_iload_n C dX5_step_1 rfl ?_
    refine v_iload_n C dX5_step_2 rfl ?_
    refine v_callV2_1 C (m_X5_hasDirection T B) lk_X5_96 ⟨wt_620, ws_21⟩ 5 rfl dX5_step_3 ⟨Nat.le_of_ble_eq_true rfl, Nat.le_of_ble_eq_true rfl⟩ (Nat.le_of_ble_eq_true rfl) ⟨Nat.le_of_ble_eq_true rfl, Nat.le_of_ble_eq_true rfl⟩ (by assumption) (cTo_5 (by assumption)) ?_
    refine c_hd_o hM hn hn12 hdm ho ?_
    first | refine v_if_neN C 15 dX5_step_6 (by omega) (by decide) (fun h6 => ?_) (fun h6 => ?_) | refine v_if_ne C 15 dX5_step_6 (by decide) (fun h6 => ?_) (fun h6 => ?_)
    · exact absurd h6 (by decide)
    · refine v_aload_n C dX5_step_9 rfl ?_
      refine v_iconst (v := -1) C dX5_step_10 (by decide) ?_
      refine v_callV1_1 C (m_X5_refuse T B) lk_X5_88 ⟨wt_608, ws_19⟩ 5 rfl dX5_step_11 ⟨Nat.le_of_ble_eq_true rfl, Nat.le_of_ble_eq_true rfl⟩ (Nat.le_of_ble_eq_true rfl) ⟨Nat.le_of_ble_eq_true rfl, Nat.le_of_ble_eq_true rfl⟩ (by assumption) (cTo_5 (by assumption)) ?_
      refine c_X5_refuse (k := 1) hM (by decide) (by decide) ?_
      refine v_iret C Q dX5_step_14 (Nat.le_of_ble_eq_true rfl) (Nat.le_of_ble_eq_true rfl) ?_
      have w := Mq_rf (k := 1) hR (by decide) hp
      exact w
  · have hMs := hms k (by omega)
    have hMs0 := hMs
    obtain ⟨hk1, hk2, hk3, hk4, hk5, hk6, hk7, hk8, hk9⟩ := hMs
    have hOk := hO.2.1 k hk
    obtain ⟨o1, o2, o3, o4, o5, o6, o7, o8, o9, o10, o11, o12⟩ := id hOk
    rw [onS_k hk (by omega)] at hp
    rcases Oo_or j (st.2.1 k 2 0) (by omega) with hl | ⟨l, hl, rfl⟩
    · rw [onS_o hl] at hp
      refine v_aload_n C dX5_step_0 rfl ?_
      refine v_iload_n C dX5_step_1 rfl ?_
      refine v_iload_n C dX5_step_2 rfl ?_
      refine v_callV2_1 C (m_X5_hasDirection T B) lk_X5_96 ⟨wt_620, ws_21⟩ 5 rfl dX5_step_3 ⟨Nat.le_of_ble_eq_true rfl, Nat.le_of_ble_eq_true rfl⟩ (Nat.le_of_ble_eq_true rfl) ⟨Nat.le_of_ble_eq_true rfl, Nat.le_of_ble_eq_true rfl⟩ (by assumption) (cTo_5 (by assumption)) ?_
      refine c_hd_j hM hn hn12 hdm hk hl ?_
      first | refine v_if_neN C 15 dX5_step_6 (by omega) (by decide) (fun h6 => ?_) (fun h6 => ?_) | refine v_if_ne C 15 dX5_step_6 (by decide) (fun h6 => ?_) (fun h6 => ?_)
      · exact absurd h6 (by decide)
      · refine v_aload_n C dX5_step_9 rfl ?_
        refine v_iconst (v := -1) C dX5_step_10 (by decide) ?_
        refine v_callV1_1 C (m_X5_refuse T B) lk_X5_88 ⟨wt_608, ws_19⟩ 5 rfl dX5_step_11 ⟨Nat.le_of_ble_eq_true rfl, Nat.le_of_ble_eq_true rfl⟩ (Nat.le_of_ble_eq_true rfl) ⟨Nat.le_of_ble_eq_true rfl, Nat.le_of_ble_eq_true rfl⟩ (by assumption) (cTo_5 (by assumption)) ?_
        refine c_X5_refuse (k := 1) hM (by decide) (by decide) ?_
        refine v_iret C Q dX5_step_14 (Nat.le_of_ble_eq_true rfl) (Nat.le_of_ble_eq_true rfl) ?_
        have w := Mq_rf (k := 1) hR (by decide) hp
        exact w
    · rw [onS_k hl (by omega)] at hp
      by_cases hkd : st.2.1 k 1 0 = 3
      · rw [if_pos hkd] at hp
        rcases Oo_or b (st.2.1 k 4 0) (by omega) with hq | ⟨v, hv, rfl⟩
        · rw [onS_o hq] at hp
          refine v_aload_n C dX5_step_0 rfl ?_
          refine v_iload_n C dX5_step_1 rfl ?_
          refine v_iload_n C dX5_step_2 rfl ?_
          refine v_callV2_1 C (m_X5_hasDirection T B) lk_X5_96 ⟨wt_620, ws_21⟩ 5 rfl dX5_step_3 ⟨Nat.le_of_ble_eq_true rfl, Nat.le_of_ble_eq_true rfl⟩ (Nat.le_of_ble_eq_true rfl) ⟨Nat.le_of_ble_eq_true rfl, Nat.le_of_ble_eq_true rfl⟩ (by assumption) (cTo_5 (by assumption)) ?_
          refine c_hd_k hM hn hn12 hdm hk hl ?_
          first | refine v_if_neN C 15 dX5_step_6 (by omega) (by decide) (fun h6 => ?_) (fun h6 => ?_) | refine v_if_ne C 15 dX5_step_6 (by decide) (fun h6 => ?_) (fun h6 => ?_)
          · refine v_aload_n C dX5_step_15 rfl ?_
            refine g_5_1 C (by assumption) (by assumption) wt_534 dX5_step_16 ?_
            refine v_iload_n C dX5_step_19 rfl ?_
            first | refine v_ialdN C (by assumption) (by omega) (by omega) dX5_step_20 ?_ | refine v_iald C (by assumption) (by assumption) dX5_step_20 ?_
            rw [hk1]
            refine v_iconstN 3 C dX5_step_21 ?_
            first | refine v_icmp_eqN C 32 dX5_step_22 (by omega) (by omega) (by decide) (fun h22 => ?_) (fun h22 => ?_) | refine v_icmp_eq C 32 dX5_step_22 (by decide) (fun h22 => ?_) (fun h22 => ?_)
            · refine v_iload_n C dX5_step_32 rfl ?_
              refine v_i2l C dX5_step_33 ?_
              refine v_lconst (v := lN 0) C dX5_step_34 rfl ?_
              refine v_aload_n C dX5_step_35 rfl ?_
              refine g_5_4 C (by assumption) (by assumption) wt_537 dX5_step_36 ?_
              refine v_iload_n C dX5_step_39 rfl ?_
              first | refine v_ialdN C (by assumption) (by omega) (by omega) dX5_step_40 ?_ | refine v_iald C (by assumption) (by assumption) dX5_step_40 ?_
              rw [hk4]
              refine v_iconstN 1 C dX5_step_41 ?_
              refine v_isub C dX5_step_42 ?_
              refine v_i2l C dX5_step_43 ?_
              refine v_callS3_1 C (m_X5_in T B) lk_X5_76 wt_627 dX5_step_44 ⟨Nat.le_of_ble_eq_true rfl, Nat.le_of_ble_eq_true rfl⟩ (Nat.le_of_ble_eq_true rfl) ⟨Nat.le_of_ble_eq_true rfl, Nat.le_of_ble_eq_true rfl⟩ ?_
              refine c_in_o (by omega) hq ?_
              first | refine v_if_neN C 57 dX5_step_47 (by omega) (by decide) (fun h47 => ?_) (fun h47 => ?_) | refine v_if_ne C 57 dX5_step_47 (by decide) (fun h47 => ?_) (fun h47 => ?_)
              · exact absurd h47 (by decide)
              · refine v_aload_n C dX5_step_50 rfl ?_
                refine v_bipush (v := -3) C dX5_step_51 (by decide) ?_
                refine v_callV1_1 C (m_X5_refuse T B) lk_X5_88 ⟨wt_608, ws_19⟩ 5 rfl dX5_step_53 ⟨Nat.le_of_ble_eq_true rfl, Nat.le_of_ble_eq_true rfl⟩ (Nat.le_of_ble_eq_true rfl) ⟨Nat.le_of_ble_eq_true rfl, Nat.le_of_ble_eq_true rfl⟩ (by assumption) (cTo_5 (by assumption)) ?_
                refine c_X5_refuse (k := 3) hM (by decide) (by decide) ?_
                refine v_iret C Q dX5_step_56 (Nat.le_of_ble_eq_true rfl) (Nat.le_of_ble_eq_true rfl) ?_
                have w := Mq_rf (k := 3) hR (by decide) hp
                exact w
            · exact absurd hkd h22
          · exact absurd h6 (by decide)
        · rw [onS_k hv (by omega)] at hp
          have hr0 := hk8 l (by omega)
          refine v_aload_n C dX5_step_0 rfl ?_
          refine v_iload_n C dX5_step_1 rfl ?_
          refine v_iload_n C dX5_step_2 rfl ?_
          refine v_callV2_1 C (m_X5_hasDirection T B) lk_X5_96 ⟨wt_620, ws_21⟩ 5 rfl dX5_step_3 ⟨Nat.le_of_ble_eq_true rfl, Nat.le_of_ble_eq_true rfl⟩ (Nat.le_of_ble_eq_true rfl) ⟨Nat.le_of_ble_eq_true rfl, Nat.le_of_ble_eq_true rfl⟩ (by assumption) (cTo_5 (by assumption)) ?_
          refine c_hd_k hM hn hn12 hdm hk hl ?_
          first | refine v_if_neN C 15 dX5_step_6 (by omega) (by decide) (fun h6 => ?_) (fun h6 => ?_) | refine v_if_ne C 15 dX5_step_6 (by decide) (fun h6 => ?_) (fun h6 => ?_)
          · refine v_aload_n C dX5_step_15 rfl ?_
            refine g_5_1 C (by assumption) (by assumption) wt_534 dX5_step_16 ?_
            refine v_iload_n C dX5_step_19 rfl ?_
            first | refine v_ialdN C (by assumption) (by omega) (by omega) dX5_step_20 ?_ | refine v_iald C (by assumption) (by assumption) dX5_step_20 ?_
            rw [hk1]
            refine v_iconstN 3 C dX5_step_21 ?_
            first | refine v_icmp_eqN C 32 dX5_step_22 (by omega) (by omega) (by decide) (fun h22 => ?_) (fun h22 => ?_) | refine v_icmp_eq C 32 dX5_step_22 (by decide) (fun h22 => ?_) (fun h22 => ?_)
            · refine v_iload_n C dX5_step_32 rfl ?_
              refine v_i2l C dX5_step_33 ?_
              refine v_lconst (v := lN 0) C dX5_step_34 rfl ?_
              refine v_aload_n C dX5_step_35 rfl ?_
              refine g_5_4 C (by assumption) (by assumption) wt_537 dX5_step_36 ?_
              refine v_iload_n C dX5_step_39 rfl ?_
              first | refine v_ialdN C (by assumption) (by omega) (by omega) dX5_step_40 ?_ | refine v_iald C (by assumption) (by assumption) dX5_step_40 ?_
              rw [hk4]
              refine v_iconstN 1 C dX5_step_41 ?_
              refine v_isub C dX5_step_42 ?_
              refine v_i2l C dX5_step_43 ?_
              refine v_callS3_1 C (m_X5_in T B) lk_X5_76 wt_627 dX5_step_44 ⟨Nat.le_of_ble_eq_true rfl, Nat.le_of_ble_eq_true rfl⟩ (Nat.le_of_ble_eq_true rfl) ⟨Nat.le_of_ble_eq_true rfl, Nat.le_of_ble_eq_true rfl⟩ ?_
              refine c_in_k (by omega) hv ?_
              first | refine v_if_neN C 57 dX5_step_47 (by omega) (by decide) (fun h47 => ?_) (fun h47 => ?_) | refine v_if_ne C 57 dX5_step_47 (by decide) (fun h47 => ?_) (fun h47 => ?_)
              · refine v_aload_n C dX5_step_57 rfl ?_
                refine g_5_8 C (by assumption) (by assumption) wt_541 dX5_step_58 ?_
                refine v_bipushN 6 (by decide) C dX5_step_61 ?_
                refine v_iload_n C dX5_step_63 rfl ?_
                first | refine v_imulN C dX5_step_64 ?_ | refine v_imul C dX5_step_64 ?_
                refine v_iload_n C dX5_step_65 rfl ?_
                first | refine v_iaddN C dX5_step_66 ?_ | refine v_iadd C dX5_step_66 ?_
                first | refine v_ialdN C (by assumption) (by omega) (by omega) dX5_step_67 ?_ | refine v_iald C (by assumption) (by assumption) dX5_step_67 ?_
                rw [hr0]
                refine v_istore C dX5_step_68 (by decide) ?_
                refine v_aload_n C dX5_step_70 rfl ?_
                refine g_5_8 C (by assumption) (by assumption) wt_541 dX5_step_71 ?_
                refine v_bipushN 6 (by decide) C dX5_step_74 ?_
                refine v_iload_n C dX5_step_76 rfl ?_
                first | refine v_imulN C dX5_step_77 ?_ | refine v_imul C dX5_step_77 ?_
                refine v_iload_n C dX5_step_78 rfl ?_
                first | refine v_iaddN C dX5_step_79 ?_ | refine v_iadd C dX5_step_79 ?_
                refine v_iload_n C dX5_step_80 rfl ?_
                first | refine v_iastN C (by assumption) (by omega) (by omega) dX5_step_81 ?_ | refine v_iast C (by assumption) (by assumption) dX5_step_81 ?_
                refine v_iload C dX5_step_82 rfl ?_
                refine v_iret C Q dX5_step_84 (Nat.le_of_ble_eq_true rfl) (Nat.le_of_ble_eq_true rfl) ?_
                have w := Mq_set hR (FrS.rf.mu (by omega) (by omega)) (fun s hs => MsR_8 (hms s hs) (by omega)) hp
                exact w
              · exact absurd h47 (by decide)
            · exact absurd hkd h22
          · exact absurd h6 (by decide)
      · rw [if_neg hkd] at hp
        refine v_aload_n C dX5_step_0 rfl ?_
        refine v_iload_n C dX5_step_1 rfl ?_
        refine v_iload_n C dX5_step_2 rfl ?_
        refine v_callV2_1 C (m_X5_hasDirection T B) lk_X5_96 ⟨wt_620, ws_21⟩ 5 rfl dX5_step_3 ⟨Nat.le_of_ble_eq_true rfl, Nat.le_of_ble_eq_true rfl⟩ (Nat.le_of_ble_eq_true rfl) ⟨Nat.le_of_ble_eq_true rfl, Nat.le_of_ble_eq_true rfl⟩ (by assumption) (cTo_5 (by assumption)) ?_
        refine c_hd_k hM hn hn12 hdm hk hl ?_
        first | refine v_if_neN C 15 dX5_step_6 (by omega) (by decide) (fun h6 => ?_) (fun h6 => ?_) | refine v_if_ne C 15 dX5_step_6 (by decide) (fun h6 => ?_) (fun h6 => ?_)
        · refine v_aload_n C dX5_step_15 rfl ?_
          refine g_5_1 C (by assumption) (by assumption) wt_534 dX5_step_16 ?_
          refine v_iload_n C dX5_step_19 rfl ?_
          first | refine v_ialdN C (by assumption) (by omega) (by omega) dX5_step_20 ?_ | refine v_iald C (by assumption) (by assumption) dX5_step_20 ?_
          rw [hk1]
          refine v_iconstN 3 C dX5_step_21 ?_
          first | refine v_icmp_eqN C 32 dX5_step_22 (by omega) (by omega) (by decide) (fun h22 => ?_) (fun h22 => ?_) | refine v_icmp_eq C 32 dX5_step_22 (by decide) (fun h22 => ?_) (fun h22 => ?_)
          · exact absurd h22 hkd
          · refine v_aload_n C dX5_step_25 rfl ?_
            refine v_bipush (v := -2) C dX5_step_26 (by decide) ?_
            refine v_callV1_1 C (m_X5_refuse T B) lk_X5_88 ⟨wt_608, ws_19⟩ 5 rfl dX5_step_28 ⟨Nat.le_of_ble_eq_true rfl, Nat.le_of_ble_eq_true rfl⟩ (Nat.le_of_ble_eq_true rfl) ⟨Nat.le_of_ble_eq_true rfl, Nat.le_of_ble_eq_true rfl⟩ (by assumption) (cTo_5 (by assumption)) ?_
            refine c_X5_refuse (k := 2) hM (by decide) (by decide) ?_
            refine v_iret C Q dX5_step_31 (Nat.le_of_ble_eq_true rfl) (Nat.le_of_ble_eq_true rfl) ?_
            have w := Mq_rf (k := 2) hR (by decide) hp
            exact w
        · exact absurd h6 (by decide)
/-- only the block of the SCATTER n has changed in the model's rows -/
def FrB (I I' : MI) (M n : Nat) : Prop := (∀ g r, 1 ≤ g → g ≤ 5 → r ≠ n → I' (M + g) r = I (M + g) r) ∧ (∀ r, ¬ (48 * n ≤ r ∧ r < 48 * n + 48) → I' (M + 6) r = I (M + 6) r) ∧ (∀ g r, g = 7 ∨ g = 8 → ¬ (6 * n ≤ r ∧ r < 6 * n + 6) → I' (M + g) r = I (M + g) r) ∧ (∀ r, ¬ (1536 * n ≤ r ∧ r < 1536 * n + 1536) → I' (M + 9) r = I (M + 9) r)
theorem MsR_add {I I' : MI} {M n s : Nat} {D : SD} {N : Nat → SD} (h : MsR I M s (N s)) (hD : MsR I' M n D) (hB : FrB I I' M n) : MsR I' M s (upF N n D s) := by
  by_cases e : s = n
  · subst e; rw [upF_at]; exact hD
  · rw [upF_ne _ _ e]
    obtain ⟨a1, a2, a3, a4, a5, a6, a7, a8, a9⟩ := h
    obtain ⟨b1, b6, b7, b9⟩ := hB
    exact ⟨(b1 1 s (by decide) (by decide) e).trans a1, (b1 2 s (by decide) (by decide) e).trans a2, (b1 3 s (by decide) (by decide) e).trans a3, (b1 4 s (by decide) (by decide) e).trans a4, (b1 5 s (by decide) (by decide) e).trans a5, fun i hi => (b6 _ (by omega)).trans (a6 i hi), fun i hi => (b7 7 _ (Or.inl rfl) (by omega)).trans (a7 i hi), fun i hi => (b7 8 _ (Or.inr rfl) (by omega)).trans (a8 i hi), fun i hi => (b9 _ (by omega)).trans (a9 i hi)⟩
/-- what make leaves -/
def mkI (I : MI) (M n : Nat) (k d p c : Int32) : MI := mu (mu (mu (mu (mu I M 0 (nI (n + 1))) (M + 1) n k) (M + 2) n d) (M + 3) n p) (M + 4) n c
theorem mkI_o {I : MI} {M n : Nat} {k d p c : Int32} (q i : Nat) (h : q ≠ M ∧ ¬ (M + 1 ≤ q ∧ q ≤ M + 4)) : mkI I M n k d p c q i = I q i := by
  unfold mkI
  rw [mu_ne _ _ (by omega), mu_ne _ _ (by omega), mu_ne _ _ (by omega), mu_ne _ _ (by omega), mu_ne _ _ (by omega)]
theorem mkI_B {I : MI} {M n : Nat} {k d p c : Int32} : FrB I (mkI I M n k d p c) M n := by
  refine ⟨fun g r h1 h2 h3 => ?_, fun r _ => mkI_o _ _ (by omega), fun g r h1 _ => mkI_o _ _ (by omega), fun r _ => mkI_o _ _ (by omega)⟩
  unfold mkI
  rw [mu_other _ _ (by omega), mu_other _ _ (by omega), mu_other _ _ (by omega), mu_other _ _ (by omega), mu_ne _ _ (by omega)]
theorem mkI_h {I : MI} {M n : Nat} {k d p c : Int32} : mkI I M n k d p c M 0 = nI (n + 1) ∧ mkI I M n k d p c M 13 = I M 13 ∧ mkI I M n k d p c (M + 1) n = k ∧ mkI I M n k d p c (M + 2) n = d ∧ mkI I M n k d p c (M + 3) n = p ∧ mkI I M n k d p c (M + 4) n = c := by
  unfold mkI
  refine ⟨?_, ?_, ?_, ?_, ?_, mu_at _ _ _ _⟩
  · rw [mu_ne _ _ (by omega), mu_ne _ _ (by omega), mu_ne _ _ (by omega), mu_ne _ _ (by omega), mu_at]
  · rw [mu_ne _ _ (by omega), mu_ne _ _ (by omega), mu_ne _ _ (by omega), mu_ne _ _ (by omega), mu_other _ _ (by omega)]
  · rw [mu_ne _ _ (by omega), mu_ne _ _ (by omega), mu_ne _ _ (by omega), mu_at]
  · rw [mu_ne _ _ (by omega), mu_ne _ _ (by omega), mu_at]
  · rw [mu_ne _ _ (by omega), mu_at]
theorem mkI_F {I : MI} {M n : Nat} {k d p c : Int32} : FrS I (mkI I M n k d p c) M (M + 9) := fun q i hq => mkI_o q i (by omega)
theorem FrB.tr {I I' I'' : MI} {M n : Nat} (h : FrB I I' M n) (h' : FrB I' I'' M n) : FrB I I'' M n :=
  ⟨fun g r h1 h2 h3 => (h'.1 g r h1 h2 h3).trans (h.1 g r h1 h2 h3), fun r h1 => (h'.2.1 r h1).trans (h.2.1 r h1), fun g r h1 h2 => (h'.2.2.1 g r h1 h2).trans (h.2.2.1 g r h1 h2), fun r h1 => (h'.2.2.2 r h1).trans (h.2.2.2 r h1)⟩
theorem Mq_add {M : Nat} {st : St} {I I' : MI} {J : MJ} {D : SD} {Q : MI → MJ → Prop} (h : Rm M st I) (hF : FrS I I' M (M + 9)) (h0 : I' M 0 = nI (st.1 + 1)) (h13 : I' M 13 = I M 13) (hB : FrB I I' M st.1) (hD : MsR I' M st.1 D) (q : Mq M (addS st D) I J Q) : Q I' J := by
  obtain ⟨h1, h2, h3, h4, h5⟩ := h
  exact q I' J ⟨h0, h13.trans h2, fun s hs => MsR_add (h3 s hs) hD hB, fun j hj => by rw [hF _ _ (by omega), hF _ _ (by omega), hF _ _ (by omega)]; exact h4 j hj, fun i hi => (hF _ _ (by omega)).trans (h5 i hi)⟩ (hF.wide (by omega) (by omega)) (fun _ _ _ => rfl)
theorem la_4 {d p : Int32} {n : Nat} (h : szF d p n = -4) : laF d p = -4 := by
  unfold szF at h
  unfold laF
  by_cases e1 : d < nI 1 ∨ p < 0
  · rw [if_pos e1]
  · rw [if_neg e1] at h
    by_cases e2 : nI 6 < d ∨ nI 8 < p ∨ 12 ≤ n
    · rw [if_pos e2] at h; exact absurd h (by decide)
    · rw [if_neg e2] at h; exact absurd h (by decide)
theorem la_6 {d p : Int32} {n : Nat} (h : szF d p n = -6) : laF d p = -6 ∨ (laF d p = nI 0 ∧ 12 ≤ n) := by
  unfold szF at h
  unfold laF
  by_cases e1 : d < nI 1 ∨ p < 0
  · rw [if_pos e1] at h; exact absurd h (by decide)
  · rw [if_neg e1]
    by_cases e2 : nI 6 < d ∨ nI 8 < p
    · exact Or.inl (if_pos e2)
    · rw [if_neg e2]
      refine Or.inr ⟨rfl, ?_⟩
      rw [if_neg e1] at h
      by_cases e3 : nI 6 < d ∨ nI 8 < p ∨ 12 ≤ n
      · rcases e3 with q | q | q
        · exact absurd (Or.inl q) e2
        · exact absurd (Or.inr q) e2
        · exact q
      · rw [if_neg e3] at h; exact absurd h (by decide)
theorem la_0 {d p : Int32} {n : Nat} (h : szF d p n = nI 0) : laF d p = nI 0 := by
  unfold szF at h
  unfold laF
  by_cases e1 : d < nI 1 ∨ p < 0
  · rw [if_pos e1] at h; exact absurd h (by decide)
  · rw [if_neg e1] at h ⊢
    by_cases e2 : nI 6 < d ∨ nI 8 < p
    · rw [if_pos (e2.elim Or.inl (fun q => Or.inr (Or.inl q)))] at h; exact absurd h (by decide)
    · rw [if_neg e2]
/-- a new SCATTER's numbers are 0 but its head -/
theorem MsR_new {I : MI} {M n k d p c : Nat} {N : Nat → SD} {pw : Int32} (h : MsR I M n (N n)) (hz : ∀ f i, N n f i = 0) (hpw : pw = pwI (newD k d p c)) : MsR (mkI I M n (nI k) (nI d) pw (nI c)) M n (newD k d p c) := by
  obtain ⟨a1, a2, a3, a4, a5, a6, a7, a8, a9⟩ := h
  obtain ⟨b0, b13, b1, b2, b3, b4⟩ := mkI_h (I := I) (M := M) (n := n) (k := nI k) (d := nI d) (p := pw) (c := nI c)
  refine ⟨b1, b2, b3.trans hpw, b4, ?_, fun i hi => ?_, fun i hi => ?_, fun i hi => ?_, fun i hi => ?_⟩
  · rw [mkI_o _ _ (by omega), a5, hz]; rfl
  · rw [mkI_o _ _ (by omega), a6 i hi, hz]; rfl
  · rw [mkI_o _ _ (by omega), a7 i hi, hz]; rfl
  · rw [mkI_o _ _ (by omega), a8 i hi, hz]; rfl
  · rw [mkI_o _ _ (by omega), a9 i hi, hz]; rfl
