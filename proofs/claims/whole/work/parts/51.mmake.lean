def s_X5_table : Sp := fun av z S I J R Post => ∃ (M : Nat), ∃ (st : St), ∃ (d p : Int32), av = [.ref M, .int d, .int p] ∧ (MoS S R M) ∧ (Rm M st I) ∧ (Ok st) ∧ (Mq M (o_table st d p).2 I J (fun I' J' => Post (o_table st d p).1 0 none z S I' J' R))
theorem c_X5_table {M : Nat} {st : St} {d p : Int32} {z : Nat} {S : MS} {I : MI} {J : MJ} {R : MR} {Post : PT} (hM : MoS S R M) (hR : Rm M st I) (hO : Ok st) (hp : Mq M (o_table st d p).2 I J (fun I' J' => Post (o_table st d p).1 0 none z S I' J' R)) : s_X5_table [.ref M, .int d, .int p] z S I J R Post := ⟨M, st, d, p, rfl, hM, hR, hO, hp⟩
set_option maxRecDepth 100000 in
set_option maxHeartbeats 1000000 in
theorem m_X5_table (T : TC) (B : Nat) : Mt T B yX5_table cX5_table 4 (some .int) 1 (rmL 2 0 0) s_X5_table := by
  refine Mt_of rfl (by rintro _ _ _ _ _ _ _ ⟨_, _, _, _, rfl, -⟩; exact Nat.le_of_ble_eq_true rfl) ?_
  intro X av z S I J R Post h C Q hI
  obtain ⟨M, st, d, p, rfl, hM, hR, hO, hp⟩ := h
  have hn12 := hO.1
  obtain ⟨hn, htl, hms, htr, hrf⟩ := id hR
  obtain ⟨hS0, hr1, hr2, hr3, hr4, hr5, hr6, hr7, hr8, hr9, hr10, hr11, hr12, hr14, hr15, hr16, hr17, hr18, hr19, hr20, hs1, hs2, hs3, hs4, hs5, hs6, hs7, hs8, hs9, hs10, hs11, hs12, hs13, hs14, hs15, hs16, hs17, hs18, hs19⟩ := id hM
  unfold o_table at hp
  rcases szF_or d p st.1 with hz | hz | ⟨hz, a, b, rfl, rfl, g1, g2, g3, g4⟩
  · rw [mkO_4 hz] at hp
    have hl := la_4 hz
    refine v_iload_n C dX5_table_0 rfl ?_
    refine v_iload_n C dX5_table_1 rfl ?_
    refine v_callS2_1 C (m_X5_lacks T B) lk_X5_84 wt_604 dX5_table_2 ⟨Nat.le_of_ble_eq_true rfl, Nat.le_of_ble_eq_true rfl⟩ (Nat.le_of_ble_eq_true rfl) ⟨Nat.le_of_ble_eq_true rfl, Nat.le_of_ble_eq_true rfl⟩ ?_
    refine c_X5_lacks ?_
    rw [hl]
    refine v_istore_n C dX5_table_5 (by decide) ?_
    refine v_iload_n C dX5_table_6 rfl ?_
    refine v_if_ne C 22 dX5_table_7 (by decide) (fun h7 => ?_) (fun h7 => ?_)
    · refine v_iload_n C dX5_table_22 rfl ?_
      refine v_if_ge C 34 dX5_table_23 (by decide) (fun h23 => ?_) (fun h23 => ?_)
      · exact absurd h23 (by decide)
      · refine v_aload_n C dX5_table_26 rfl ?_
        refine v_iload_n C dX5_table_27 rfl ?_
        refine v_callV1_1 C (m_X5_refuse T B) lk_X5_88 ⟨wt_608, ws_19⟩ 5 rfl dX5_table_28 ⟨Nat.le_of_ble_eq_true rfl, Nat.le_of_ble_eq_true rfl⟩ (Nat.le_of_ble_eq_true rfl) ⟨Nat.le_of_ble_eq_true rfl, Nat.le_of_ble_eq_true rfl⟩ (by assumption) (cTo_5 (by assumption)) ?_
        refine c_X5_refuse (k := 4) hM (by decide) (by decide) ?_
        refine v_goto C 44 dX5_table_31 (by decide) ?_
        refine v_iret C Q dX5_table_44 (Nat.le_of_ble_eq_true rfl) (Nat.le_of_ble_eq_true rfl) ?_
        have w := Mq_rf (k := 4) hR (by decide) hp
        exact w
    · exact absurd h7 (by decide)
  · rw [mkO_6 hz] at hp
    rcases la_6 hz with hl | ⟨hl, h12⟩
    · refine v_iload_n C dX5_table_0 rfl ?_
      refine v_iload_n C dX5_table_1 rfl ?_
      refine v_callS2_1 C (m_X5_lacks T B) lk_X5_84 wt_604 dX5_table_2 ⟨Nat.le_of_ble_eq_true rfl, Nat.le_of_ble_eq_true rfl⟩ (Nat.le_of_ble_eq_true rfl) ⟨Nat.le_of_ble_eq_true rfl, Nat.le_of_ble_eq_true rfl⟩ ?_
      refine c_X5_lacks ?_
      rw [hl]
      refine v_istore_n C dX5_table_5 (by decide) ?_
      refine v_iload_n C dX5_table_6 rfl ?_
      refine v_if_ne C 22 dX5_table_7 (by decide) (fun h7 => ?_) (fun h7 => ?_)
      · refine v_iload_n C dX5_table_22 rfl ?_
        refine v_if_ge C 34 dX5_table_23 (by decide) (fun h23 => ?_) (fun h23 => ?_)
        · exact absurd h23 (by decide)
        · refine v_aload_n C dX5_table_26 rfl ?_
          refine v_iload_n C dX5_table_27 rfl ?_
          refine v_callV1_1 C (m_X5_refuse T B) lk_X5_88 ⟨wt_608, ws_19⟩ 5 rfl dX5_table_28 ⟨Nat.le_of_ble_eq_true rfl, Nat.le_of_ble_eq_true rfl⟩ (Nat.le_of_ble_eq_true rfl) ⟨Nat.le_of_ble_eq_true rfl, Nat.le_of_ble_eq_true rfl⟩ (by assumption) (cTo_5 (by assumption)) ?_
          refine c_X5_refuse (k := 6) hM (by decide) (by decide) ?_
          refine v_goto C 44 dX5_table_31 (by decide) ?_
          refine v_iret C Q dX5_table_44 (Nat.le_of_ble_eq_true rfl) (Nat.le_of_ble_eq_true rfl) ?_
          have w := Mq_rf (k := 6) hR (by decide) hp
          exact w
      · exact absurd h7 (by decide)
    · refine v_iload_n C dX5_table_0 rfl ?_
      refine v_iload_n C dX5_table_1 rfl ?_
      refine v_callS2_1 C (m_X5_lacks T B) lk_X5_84 wt_604 dX5_table_2 ⟨Nat.le_of_ble_eq_true rfl, Nat.le_of_ble_eq_true rfl⟩ (Nat.le_of_ble_eq_true rfl) ⟨Nat.le_of_ble_eq_true rfl, Nat.le_of_ble_eq_true rfl⟩ ?_
      refine c_X5_lacks ?_
      rw [hl]
      refine v_istore_n C dX5_table_5 (by decide) ?_
      refine v_iload_n C dX5_table_6 rfl ?_
      first | refine v_if_neN C 22 dX5_table_7 (by omega) (by decide) (fun h7 => ?_) (fun h7 => ?_) | refine v_if_ne C 22 dX5_table_7 (by decide) (fun h7 => ?_) (fun h7 => ?_)
      · exact absurd rfl h7
      · refine v_aload_n C dX5_table_10 rfl ?_
        first | refine gv_5_0 C (by assumption) (by assumption) wt_533 dX5_table_11 ?_ | refine g_5_0 C (by assumption) wt_533 dX5_table_11 ?_
        refine v_bipushN 12 (by decide) C dX5_table_14 ?_
        first | refine v_icmp_neN C 22 dX5_table_16 (by omega) (by omega) (by decide) (fun h16 => ?_) (fun h16 => ?_) | refine v_icmp_ne C 22 dX5_table_16 (by decide) (fun h16 => ?_) (fun h16 => ?_)
        · exact absurd (by omega) h16
        · refine v_bipush (v := -6) C dX5_table_19 (by decide) ?_
          refine v_istore_n C dX5_table_21 (by decide) ?_
          refine v_iload_n C dX5_table_22 rfl ?_
          refine v_if_ge C 34 dX5_table_23 (by decide) (fun h23 => ?_) (fun h23 => ?_)
          · exact absurd h23 (by decide)
          · refine v_aload_n C dX5_table_26 rfl ?_
            refine v_iload_n C dX5_table_27 rfl ?_
            refine v_callV1_1 C (m_X5_refuse T B) lk_X5_88 ⟨wt_608, ws_19⟩ 5 rfl dX5_table_28 ⟨Nat.le_of_ble_eq_true rfl, Nat.le_of_ble_eq_true rfl⟩ (Nat.le_of_ble_eq_true rfl) ⟨Nat.le_of_ble_eq_true rfl, Nat.le_of_ble_eq_true rfl⟩ (by assumption) (cTo_5 (by assumption)) ?_
            refine c_X5_refuse (k := 6) hM (by decide) (by decide) ?_
            refine v_goto C 44 dX5_table_31 (by decide) ?_
            refine v_iret C Q dX5_table_44 (Nat.le_of_ble_eq_true rfl) (Nat.le_of_ble_eq_true rfl) ?_
            have w := Mq_rf (k := 6) hR (by decide) hp
            exact w
  · rw [mkO_0 hz, vN_nI (by omega), vN_nI (by omega)] at hp
    have hl := la_0 hz
    obtain ⟨w1, w2⟩ := two8 g3
    refine v_iload_n C dX5_table_0 rfl ?_
    refine v_iload_n C dX5_table_1 rfl ?_
    refine v_callS2_1 C (m_X5_lacks T B) lk_X5_84 wt_604 dX5_table_2 ⟨Nat.le_of_ble_eq_true rfl, Nat.le_of_ble_eq_true rfl⟩ (Nat.le_of_ble_eq_true rfl) ⟨Nat.le_of_ble_eq_true rfl, Nat.le_of_ble_eq_true rfl⟩ ?_
    refine c_X5_lacks ?_
    rw [hl]
    refine v_istore_n C dX5_table_5 (by decide) ?_
    refine v_iload_n C dX5_table_6 rfl ?_
    first | refine v_if_neN C 22 dX5_table_7 (by omega) (by decide) (fun h7 => ?_) (fun h7 => ?_) | refine v_if_ne C 22 dX5_table_7 (by decide) (fun h7 => ?_) (fun h7 => ?_)
    · exact absurd rfl h7
    · refine v_aload_n C dX5_table_10 rfl ?_
      first | refine gv_5_0 C (by assumption) (by assumption) wt_533 dX5_table_11 ?_ | refine g_5_0 C (by assumption) wt_533 dX5_table_11 ?_
      refine v_bipushN 12 (by decide) C dX5_table_14 ?_
      first | refine v_icmp_neN C 22 dX5_table_16 (by omega) (by omega) (by decide) (fun h16 => ?_) (fun h16 => ?_) | refine v_icmp_ne C 22 dX5_table_16 (by decide) (fun h16 => ?_) (fun h16 => ?_)
      · refine v_iload_n C dX5_table_22 rfl ?_
        first | refine v_if_geN C 34 dX5_table_23 (by omega) (by decide) (fun h23 => ?_) (fun h23 => ?_) | refine v_if_ge C 34 dX5_table_23 (by decide) (fun h23 => ?_) (fun h23 => ?_)
        · refine v_aload_n C dX5_table_34 rfl ?_
          refine v_iconstN 0 C dX5_table_35 ?_
          refine v_iload_n C dX5_table_36 rfl ?_
          refine v_iload_n C dX5_table_37 rfl ?_
          refine v_iconstN 1 C dX5_table_38 ?_
          refine v_iload_n C dX5_table_39 rfl ?_
          first | refine v_ishlN C dX5_table_40 (by omega) (by rw [Nat.one_mul]; omega) ?_ | refine v_ishl C dX5_table_40 ?_
          rw [Nat.one_mul]
          refine v_callV4_1 C (m_X5_make T B) lk_X5_92 ⟨wt_612, ws_20⟩ 5 rfl dX5_table_41 ⟨Nat.le_of_ble_eq_true rfl, Nat.le_of_ble_eq_true rfl⟩ (Nat.le_of_ble_eq_true rfl) ⟨Nat.le_of_ble_eq_true rfl, Nat.le_of_ble_eq_true rfl⟩ (by assumption) (cTo_5 (by assumption)) ?_
          refine c_X5_make hM hn g4 ?_
          refine v_iret C Q dX5_table_44 (Nat.le_of_ble_eq_true rfl) (Nat.le_of_ble_eq_true rfl) ?_
          have w := Mq_add hR mkI_F mkI_h.1 mkI_h.2.1 mkI_B (MsR_new (k := 0) (d := a) (p := b) (c := 2 ^ b) (hms _ (by omega)) (hO.2.2 _ (Nat.le_refl _)) rfl) hp
          exact w
        · exact absurd h23 (fun q => q)
      · exact absurd h16 (by omega)
def s_X5_grid : Sp := fun av z S I J R Post => ∃ (M : Nat), ∃ (st : St), ∃ (c d : Int32), av = [.ref M, .int c, .int d] ∧ (MoS S R M) ∧ (Rm M st I) ∧ (Ok st) ∧ (Mq M (o_grid st c d).2 I J (fun I' J' => Post (o_grid st c d).1 0 none z S I' J' R))
theorem c_X5_grid {M : Nat} {st : St} {c d : Int32} {z : Nat} {S : MS} {I : MI} {J : MJ} {R : MR} {Post : PT} (hM : MoS S R M) (hR : Rm M st I) (hO : Ok st) (hp : Mq M (o_grid st c d).2 I J (fun I' J' => Post (o_grid st c d).1 0 none z S I' J' R)) : s_X5_grid [.ref M, .int c, .int d] z S I J R Post := ⟨M, st, c, d, rfl, hM, hR, hO, hp⟩
set_option maxRecDepth 100000 in
set_option maxHeartbeats 1000000 in
theorem m_X5_grid (T : TC) (B : Nat) : Mt T B yX5_grid cX5_grid 3 (some .int) 1 (rmL 2 0 0) s_X5_grid := by
  refine Mt_of rfl (by rintro _ _ _ _ _ _ _ ⟨_, _, _, _, rfl, -⟩; exact Nat.le_of_ble_eq_true rfl) ?_
  intro X av z S I J R Post h C Q hI
  obtain ⟨M, st, c, d, rfl, hM, hR, hO, hp⟩ := h
  have hn12 := hO.1
  obtain ⟨hn, htl, hms, htr, hrf⟩ := id hR
  obtain ⟨hS0, hr1, hr2, hr3, hr4, hr5, hr6, hr7, hr8, hr9, hr10, hr11, hr12, hr14, hr15, hr16, hr17, hr18, hr19, hr20, hs1, hs2, hs3, hs4, hs5, hs6, hs7, hs8, hs9, hs10, hs11, hs12, hs13, hs14, hs15, hs16, hs17, hs18, hs19⟩ := id hM
  unfold o_grid at hp
  by_cases e1 : c < nI 1 ∨ d < nI 1
  · rw [if_pos e1] at hp
    refine v_iload_n C dX5_grid_0 rfl ?_
    refine v_iconstN 1 C dX5_grid_1 ?_
    refine v_icmp_lt C 10 dX5_grid_2 (by decide) (fun h2 => ?_) (fun h2 => ?_)
    · refine v_aload_n C dX5_grid_10 rfl ?_
      refine v_bipush (v := -4) C dX5_grid_11 (by decide) ?_
      refine v_callV1_1 C (m_X5_refuse T B) lk_X5_88 ⟨wt_608, ws_19⟩ 5 rfl dX5_grid_13 ⟨Nat.le_of_ble_eq_true rfl, Nat.le_of_ble_eq_true rfl⟩ (Nat.le_of_ble_eq_true rfl) ⟨Nat.le_of_ble_eq_true rfl, Nat.le_of_ble_eq_true rfl⟩ (by assumption) (cTo_5 (by assumption)) ?_
      refine c_X5_refuse (k := 4) hM (by decide) (by decide) ?_
      refine v_iret C Q dX5_grid_16 (Nat.le_of_ble_eq_true rfl) (Nat.le_of_ble_eq_true rfl) ?_
      have w := Mq_rf (k := 4) hR (by decide) hp
      exact w
    · refine v_iload_n C dX5_grid_5 rfl ?_
      refine v_iconstN 1 C dX5_grid_6 ?_
      refine v_icmp_ge C 17 dX5_grid_7 (by decide) (fun h7 => ?_) (fun h7 => ?_)
      · exact absurd e1 (fun q => q.elim h2 (fun q2 => absurd q2 (Int32.not_lt.mpr h7)))
      · refine v_aload_n C dX5_grid_10 rfl ?_
        refine v_bipush (v := -4) C dX5_grid_11 (by decide) ?_
        refine v_callV1_1 C (m_X5_refuse T B) lk_X5_88 ⟨wt_608, ws_19⟩ 5 rfl dX5_grid_13 ⟨Nat.le_of_ble_eq_true rfl, Nat.le_of_ble_eq_true rfl⟩ (Nat.le_of_ble_eq_true rfl) ⟨Nat.le_of_ble_eq_true rfl, Nat.le_of_ble_eq_true rfl⟩ (by assumption) (cTo_5 (by assumption)) ?_
        refine c_X5_refuse (k := 4) hM (by decide) (by decide) ?_
        refine v_iret C Q dX5_grid_16 (Nat.le_of_ble_eq_true rfl) (Nat.le_of_ble_eq_true rfl) ?_
        have w := Mq_rf (k := 4) hR (by decide) hp
        exact w
  · rw [if_neg e1] at hp
    have c1 : ¬ c < nI 1 := fun q => e1 (Or.inl q)
    have d1 : ¬ d < nI 1 := fun q => e1 (Or.inr q)
    by_cases e2 : nI 256 < c ∨ nI 6 < d ∨ 12 ≤ st.1
    · rw [if_pos e2] at hp
      refine v_iload_n C dX5_grid_0 rfl ?_
      refine v_iconstN 1 C dX5_grid_1 ?_
      refine v_icmp_lt C 10 dX5_grid_2 (by decide) (fun h2 => ?_) (fun h2 => ?_)
      · exact absurd h2 c1
      · refine v_iload_n C dX5_grid_5 rfl ?_
        refine v_iconstN 1 C dX5_grid_6 ?_
        refine v_icmp_ge C 17 dX5_grid_7 (by decide) (fun h7 => ?_) (fun h7 => ?_)
        · refine v_iload_n C dX5_grid_17 rfl ?_
          refine v_sipushN 256 (by decide +kernel) C dX5_grid_18 ?_
          refine v_icmp_gt C 39 dX5_grid_21 (by decide) (fun h21 => ?_) (fun h21 => ?_)
          · refine v_aload_n C dX5_grid_39 rfl ?_
            refine v_bipush (v := -6) C dX5_grid_40 (by decide) ?_
            refine v_callV1_1 C (m_X5_refuse T B) lk_X5_88 ⟨wt_608, ws_19⟩ 5 rfl dX5_grid_42 ⟨Nat.le_of_ble_eq_true rfl, Nat.le_of_ble_eq_true rfl⟩ (Nat.le_of_ble_eq_true rfl) ⟨Nat.le_of_ble_eq_true rfl, Nat.le_of_ble_eq_true rfl⟩ (by assumption) (cTo_5 (by assumption)) ?_
            refine c_X5_refuse (k := 6) hM (by decide) (by decide) ?_
            refine v_iret C Q dX5_grid_45 (Nat.le_of_ble_eq_true rfl) (Nat.le_of_ble_eq_true rfl) ?_
            have w := Mq_rf (k := 6) hR (by decide) hp
            exact w
          · refine v_iload_n C dX5_grid_24 rfl ?_
            refine v_bipushN 6 (by decide) C dX5_grid_25 ?_
            refine v_icmp_gt C 39 dX5_grid_27 (by decide) (fun h27 => ?_) (fun h27 => ?_)
            · refine v_aload_n C dX5_grid_39 rfl ?_
              refine v_bipush (v := -6) C dX5_grid_40 (by decide) ?_
              refine v_callV1_1 C (m_X5_refuse T B) lk_X5_88 ⟨wt_608, ws_19⟩ 5 rfl dX5_grid_42 ⟨Nat.le_of_ble_eq_true rfl, Nat.le_of_ble_eq_true rfl⟩ (Nat.le_of_ble_eq_true rfl) ⟨Nat.le_of_ble_eq_true rfl, Nat.le_of_ble_eq_true rfl⟩ (by assumption) (cTo_5 (by assumption)) ?_
              refine c_X5_refuse (k := 6) hM (by decide) (by decide) ?_
              refine v_iret C Q dX5_grid_45 (Nat.le_of_ble_eq_true rfl) (Nat.le_of_ble_eq_true rfl) ?_
              have w := Mq_rf (k := 6) hR (by decide) hp
              exact w
            · refine v_aload_n C dX5_grid_30 rfl ?_
              first | refine gv_5_0 C (by assumption) (by assumption) wt_533 dX5_grid_31 ?_ | refine g_5_0 C (by assumption) wt_533 dX5_grid_31 ?_
              refine v_bipushN 12 (by decide) C dX5_grid_34 ?_
              first | refine v_icmp_neN C 46 dX5_grid_36 (by omega) (by omega) (by decide) (fun h36 => ?_) (fun h36 => ?_) | refine v_icmp_ne C 46 dX5_grid_36 (by decide) (fun h36 => ?_) (fun h36 => ?_)
              · exact absurd e2 (fun q => q.elim h21 (fun q => q.elim h27 (fun q => absurd h36 (by omega))))
              · refine v_aload_n C dX5_grid_39 rfl ?_
                refine v_bipush (v := -6) C dX5_grid_40 (by decide) ?_
                refine v_callV1_1 C (m_X5_refuse T B) lk_X5_88 ⟨wt_608, ws_19⟩ 5 rfl dX5_grid_42 ⟨Nat.le_of_ble_eq_true rfl, Nat.le_of_ble_eq_true rfl⟩ (Nat.le_of_ble_eq_true rfl) ⟨Nat.le_of_ble_eq_true rfl, Nat.le_of_ble_eq_true rfl⟩ (by assumption) (cTo_5 (by assumption)) ?_
                refine c_X5_refuse (k := 6) hM (by decide) (by decide) ?_
                refine v_iret C Q dX5_grid_45 (Nat.le_of_ble_eq_true rfl) (Nat.le_of_ble_eq_true rfl) ?_
                have w := Mq_rf (k := 6) hR (by decide) hp
                exact w
        · exact absurd (Int32.not_le.mp h7) d1
    · rw [if_neg e2] at hp
      have c2 : ¬ nI 256 < c := fun q => e2 (Or.inl q)
      have d2 : ¬ nI 6 < d := fun q => e2 (Or.inr (Or.inl q))
      have nlt : st.1 < 12 := Nat.lt_of_not_le (fun q => e2 (Or.inr (Or.inr q)))
      have cz : ∀ v : Int32, ¬ v < nI 1 → ¬ v < 0 := fun v q q2 => by
        have a1 := Int32.le_iff_toInt_le.mp (Int32.not_lt.mp q)
        have a2 := Int32.lt_iff_toInt_lt.mp q2
        rw [nI_toInt (by decide)] at a1
        have : (0 : Int32).toInt = 0 := rfl
        omega
      obtain ⟨a, ha, rfl⟩ := nI_of2 (M := nI 256) (n := 256) (nI_toInt (by decide)) (cz c c1) (Int32.not_lt.mp c2)
      obtain ⟨b, hb, rfl⟩ := nI_of2 (M := nI 6) (n := 6) (nI_toInt (by decide)) (cz d d1) (Int32.not_lt.mp d2)
      rw [vN_nI (by omega), vN_nI (by omega)] at hp
      refine v_iload_n C dX5_grid_0 rfl ?_
      refine v_iconstN 1 C dX5_grid_1 ?_
      refine v_icmp_lt C 10 dX5_grid_2 (by decide) (fun h2 => ?_) (fun h2 => ?_)
      · exact absurd h2 c1
      · refine v_iload_n C dX5_grid_5 rfl ?_
        refine v_iconstN 1 C dX5_grid_6 ?_
        refine v_icmp_ge C 17 dX5_grid_7 (by decide) (fun h7 => ?_) (fun h7 => ?_)
        · refine v_iload_n C dX5_grid_17 rfl ?_
          refine v_sipushN 256 (by decide +kernel) C dX5_grid_18 ?_
          refine v_icmp_gt C 39 dX5_grid_21 (by decide) (fun h21 => ?_) (fun h21 => ?_)
          · exact absurd h21 c2
          · refine v_iload_n C dX5_grid_24 rfl ?_
            refine v_bipushN 6 (by decide) C dX5_grid_25 ?_
            refine v_icmp_gt C 39 dX5_grid_27 (by decide) (fun h27 => ?_) (fun h27 => ?_)
            · exact absurd h27 d2
            · refine v_aload_n C dX5_grid_30 rfl ?_
              first | refine gv_5_0 C (by assumption) (by assumption) wt_533 dX5_grid_31 ?_ | refine g_5_0 C (by assumption) wt_533 dX5_grid_31 ?_
              refine v_bipushN 12 (by decide) C dX5_grid_34 ?_
              first | refine v_icmp_neN C 46 dX5_grid_36 (by omega) (by omega) (by decide) (fun h36 => ?_) (fun h36 => ?_) | refine v_icmp_ne C 46 dX5_grid_36 (by decide) (fun h36 => ?_) (fun h36 => ?_)
              · refine v_aload_n C dX5_grid_46 rfl ?_
                refine v_iconstN 3 C dX5_grid_47 ?_
                refine v_iload_n C dX5_grid_48 rfl ?_
                refine v_iconst (v := -1) C dX5_grid_49 (by decide) ?_
                refine v_iload_n C dX5_grid_50 rfl ?_
                refine v_callV4_1 C (m_X5_make T B) lk_X5_92 ⟨wt_612, ws_20⟩ 5 rfl dX5_grid_51 ⟨Nat.le_of_ble_eq_true rfl, Nat.le_of_ble_eq_true rfl⟩ (Nat.le_of_ble_eq_true rfl) ⟨Nat.le_of_ble_eq_true rfl, Nat.le_of_ble_eq_true rfl⟩ (by assumption) (cTo_5 (by assumption)) ?_
                refine c_X5_make hM hn nlt ?_
                refine v_iret C Q dX5_grid_54 (Nat.le_of_ble_eq_true rfl) (Nat.le_of_ble_eq_true rfl) ?_
                have w := Mq_add hR mkI_F mkI_h.1 mkI_h.2.1 mkI_B (MsR_new (k := 3) (d := b) (p := 0) (c := a) (hms _ (by omega)) (hO.2.2 _ (Nat.le_refl _)) rfl) hp
                exact w
              · exact absurd nlt (by omega)
        · exact absurd (Int32.not_le.mp h7) d1
def s_X5_ladder : Sp := fun av z S I J R Post => ∃ (M : Nat), ∃ (st : St), ∃ (p : Int32), av = [.ref M, .int p] ∧ (MoS S R M) ∧ (Rm M st I) ∧ (Ok st) ∧ (Mq M (o_ladder st p).2 I J (fun I' J' => Post (o_ladder st p).1 0 none z S I' J' R))
theorem c_X5_ladder {M : Nat} {st : St} {p : Int32} {z : Nat} {S : MS} {I : MI} {J : MJ} {R : MR} {Post : PT} (hM : MoS S R M) (hR : Rm M st I) (hO : Ok st) (hp : Mq M (o_ladder st p).2 I J (fun I' J' => Post (o_ladder st p).1 0 none z S I' J' R)) : s_X5_ladder [.ref M, .int p] z S I J R Post := ⟨M, st, p, rfl, hM, hR, hO, hp⟩
set_option maxRecDepth 100000 in
set_option maxHeartbeats 1000000 in
theorem m_X5_ladder (T : TC) (B : Nat) : Mt T B yX5_ladder cX5_ladder 5 (some .int) 1 (rmL 2 0 0) s_X5_ladder := by
  refine Mt_of rfl (by rintro _ _ _ _ _ _ _ ⟨_, _, _, rfl, -⟩; exact Nat.le_of_ble_eq_true rfl) ?_
  intro X av z S I J R Post h C Q hI
  obtain ⟨M, st, p, rfl, hM, hR, hO, hp⟩ := h
  have hn12 := hO.1
  obtain ⟨hn, htl, hms, htr, hrf⟩ := id hR
  obtain ⟨hS0, hr1, hr2, hr3, hr4, hr5, hr6, hr7, hr8, hr9, hr10, hr11, hr12, hr14, hr15, hr16, hr17, hr18, hr19, hr20, hs1, hs2, hs3, hs4, hs5, hs6, hs7, hs8, hs9, hs10, hs11, hs12, hs13, hs14, hs15, hs16, hs17, hs18, hs19⟩ := id hM
  unfold o_ladder at hp
  rcases szF_or (nI 1) p st.1 with hz | hz | ⟨hz, a, b, ea, rfl, g1, g2, g3, g4⟩
  · rw [mkO_4 hz] at hp
    have hl := la_4 hz
    refine v_iconstN 1 C dX5_ladder_0 ?_
    refine v_iload_n C dX5_ladder_1 rfl ?_
    refine v_callS2_1 C (m_X5_lacks T B) lk_X5_84 wt_604 dX5_ladder_2 ⟨Nat.le_of_ble_eq_true rfl, Nat.le_of_ble_eq_true rfl⟩ (Nat.le_of_ble_eq_true rfl) ⟨Nat.le_of_ble_eq_true rfl, Nat.le_of_ble_eq_true rfl⟩ ?_
    refine c_X5_lacks ?_
    rw [hl]
    refine v_istore_n C dX5_ladder_5 (by decide) ?_
    refine v_iload_n C dX5_ladder_6 rfl ?_
    refine v_if_ne C 22 dX5_ladder_7 (by decide) (fun h7 => ?_) (fun h7 => ?_)
    · refine v_iload_n C dX5_ladder_22 rfl ?_
      refine v_if_ge C 32 dX5_ladder_23 (by decide) (fun h23 => ?_) (fun h23 => ?_)
      · exact absurd h23 (by decide)
      · refine v_aload_n C dX5_ladder_26 rfl ?_
        refine v_iload_n C dX5_ladder_27 rfl ?_
        refine v_callV1_1 C (m_X5_refuse T B) lk_X5_88 ⟨wt_608, ws_19⟩ 5 rfl dX5_ladder_28 ⟨Nat.le_of_ble_eq_true rfl, Nat.le_of_ble_eq_true rfl⟩ (Nat.le_of_ble_eq_true rfl) ⟨Nat.le_of_ble_eq_true rfl, Nat.le_of_ble_eq_true rfl⟩ (by assumption) (cTo_5 (by assumption)) ?_
        refine c_X5_refuse (k := 4) hM (by decide) (by decide) ?_
        refine v_iret C Q dX5_ladder_31 (Nat.le_of_ble_eq_true rfl) (Nat.le_of_ble_eq_true rfl) ?_
        have w := Mq_rf (k := 4) hR (by decide) hp
        exact w
    · exact absurd h7 (by decide)
  · rw [mkO_6 hz] at hp
    rcases la_6 hz with hl | ⟨hl, h12⟩
    · refine v_iconstN 1 C dX5_ladder_0 ?_
      refine v_iload_n C dX5_ladder_1 rfl ?_
      refine v_callS2_1 C (m_X5_lacks T B) lk_X5_84 wt_604 dX5_ladder_2 ⟨Nat.le_of_ble_eq_true rfl, Nat.le_of_ble_eq_true rfl⟩ (Nat.le_of_ble_eq_true rfl) ⟨Nat.le_of_ble_eq_true rfl, Nat.le_of_ble_eq_true rfl⟩ ?_
      refine c_X5_lacks ?_
      rw [hl]
      refine v_istore_n C dX5_ladder_5 (by decide) ?_
      refine v_iload_n C dX5_ladder_6 rfl ?_
      refine v_if_ne C 22 dX5_ladder_7 (by decide) (fun h7 => ?_) (fun h7 => ?_)
      · refine v_iload_n C dX5_ladder_22 rfl ?_
        refine v_if_ge C 32 dX5_ladder_23 (by decide) (fun h23 => ?_) (fun h23 => ?_)
        · exact absurd h23 (by decide)
        · refine v_aload_n C dX5_ladder_26 rfl ?_
          refine v_iload_n C dX5_ladder_27 rfl ?_
          refine v_callV1_1 C (m_X5_refuse T B) lk_X5_88 ⟨wt_608, ws_19⟩ 5 rfl dX5_ladder_28 ⟨Nat.le_of_ble_eq_true rfl, Nat.le_of_ble_eq_true rfl⟩ (Nat.le_of_ble_eq_true rfl) ⟨Nat.le_of_ble_eq_true rfl, Nat.le_of_ble_eq_true rfl⟩ (by assumption) (cTo_5 (by assumption)) ?_
          refine c_X5_refuse (k := 6) hM (by decide) (by decide) ?_
          refine v_iret C Q dX5_ladder_31 (Nat.le_of_ble_eq_true rfl) (Nat.le_of_ble_eq_true rfl) ?_
          have w := Mq_rf (k := 6) hR (by decide) hp
          exact w
      · exact absurd h7 (by decide)
    · refine v_iconstN 1 C dX5_ladder_0 ?_
      refine v_iload_n C dX5_ladder_1 rfl ?_
      refine v_callS2_1 C (m_X5_lacks T B) lk_X5_84 wt_604 dX5_ladder_2 ⟨Nat.le_of_ble_eq_true rfl, Nat.le_of_ble_eq_true rfl⟩ (Nat.le_of_ble_eq_true rfl) ⟨Nat.le_of_ble_eq_true rfl, Nat.le_of_ble_eq_true rfl⟩ ?_
      refine c_X5_lacks ?_
      rw [hl]
      refine v_istore_n C dX5_ladder_5 (by decide) ?_
      refine v_iload_n C dX5_ladder_6 rfl ?_
      first | refine v_if_neN C 22 dX5_ladder_7 (by omega) (by decide) (fun h7 => ?_) (fun h7 => ?_) | refine v_if_ne C 22 dX5_ladder_7 (by decide) (fun h7 => ?_) (fun h7 => ?_)
      · exact absurd rfl h7
      · refine v_aload_n C dX5_ladder_10 rfl ?_
        first | refine gv_5_0 C (by assumption) (by assumption) wt_533 dX5_ladder_11 ?_ | refine g_5_0 C (by assumption) wt_533 dX5_ladder_11 ?_
        refine v_bipushN 12 (by decide) C dX5_ladder_14 ?_
        first | refine v_icmp_neN C 22 dX5_ladder_16 (by omega) (by omega) (by decide) (fun h16 => ?_) (fun h16 => ?_) | refine v_icmp_ne C 22 dX5_ladder_16 (by decide) (fun h16 => ?_) (fun h16 => ?_)
        · exact absurd (by omega) h16
        · refine v_bipush (v := -6) C dX5_ladder_19 (by decide) ?_
          refine v_istore_n C dX5_ladder_21 (by decide) ?_
          refine v_iload_n C dX5_ladder_22 rfl ?_
          refine v_if_ge C 32 dX5_ladder_23 (by decide) (fun h23 => ?_) (fun h23 => ?_)
          · exact absurd h23 (by decide)
          · refine v_aload_n C dX5_ladder_26 rfl ?_
            refine v_iload_n C dX5_ladder_27 rfl ?_
            refine v_callV1_1 C (m_X5_refuse T B) lk_X5_88 ⟨wt_608, ws_19⟩ 5 rfl dX5_ladder_28 ⟨Nat.le_of_ble_eq_true rfl, Nat.le_of_ble_eq_true rfl⟩ (Nat.le_of_ble_eq_true rfl) ⟨Nat.le_of_ble_eq_true rfl, Nat.le_of_ble_eq_true rfl⟩ (by assumption) (cTo_5 (by assumption)) ?_
            refine c_X5_refuse (k := 6) hM (by decide) (by decide) ?_
            refine v_iret C Q dX5_ladder_31 (Nat.le_of_ble_eq_true rfl) (Nat.le_of_ble_eq_true rfl) ?_
            have w := Mq_rf (k := 6) hR (by decide) hp
            exact w
  · rw [mkO_0 hz, vN_nI (by omega)] at hp
    have hl := la_0 hz
    obtain ⟨w1, w2⟩ := two8 g3
    have p2 : ∀ i, i < b → 2 ^ i < 256 := fun i hi => Nat.lt_of_lt_of_le (Nat.pow_lt_pow_right (by decide) hi) w2
    generalize hn0 : st.1 = n at *
    have hnew := MsR_new (k := 1) (d := 1) (p := b) (c := 2 ^ b) (hms n (by omega)) (hO.2.2 n (by omega)) rfl
    have loop : ∀ i : Nat, i ≤ b → ∀ I' : MI, (∀ q r, q ≠ M + 6 → I' q r = mkI I M n (nI 1) (nI 1) (pwI (newD 1 1 b (2 ^ b))) (nI (2 ^ b)) q r) → (∀ r, ¬ (48 * n ≤ r ∧ r < 48 * n + 48) → I' (M + 6) r = I (M + 6) r) → (∀ t, t < 48 → I' (M + 6) (48 * n + t) = nI (if t < i then 2 ^ t else 0)) → V X 0 0 z S I' J R 46 [some (.ref M), some (.int (nI b)), none, some (.int (nI n)), some (.int (nI i))] [] := by
      refine lp_up b ?_
      intro i hi ih I' hq h6 h6'
      refine v_iload C dX5_ladder_46 rfl ?_
      refine v_iload_n C dX5_ladder_48 rfl ?_
      first | refine v_icmp_geN C 74 dX5_ladder_49 (by omega) (by omega) (by decide) (fun h49 => ?_) (fun h49 => ?_) | refine v_icmp_ge C 74 dX5_ladder_49 (by decide) (fun h49 => ?_) (fun h49 => ?_)
      · refine v_iload_n C dX5_ladder_74 rfl ?_
        refine v_iret C Q dX5_ladder_75 (Nat.le_of_ble_eq_true rfl) (Nat.le_of_ble_eq_true rfl) ?_
        obtain rfl : i = b := by omega
        obtain ⟨m0, m13, m1, m2, m3, m4⟩ := mkI_h (I := I) (M := M) (n := n) (k := nI 1) (d := nI 1) (p := pwI (newD 1 1 i (2 ^ i))) (c := nI (2 ^ i))
        obtain ⟨n1, n2, n3, n4, n5, n6, n7, n8, n9⟩ := hnew
        have w := Mq_add (I' := I') (D := ladD i) hR (fun q r h => by rw [hq _ _ (by omega)]; exact mkI_F q r h) (by rw [hq _ _ (by omega), hn0]; exact m0) (by rw [hq _ _ (by omega)]; exact m13) (by rw [hn0]; exact ⟨fun g r h1 h2 h3 => by rw [hq _ _ (by omega)]; exact mkI_B.1 g r h1 h2 h3, h6, fun g r h1 h2 => by rw [hq _ _ (by omega)]; exact mkI_B.2.2.1 g r h1 h2, fun r h => by rw [hq _ _ (by omega)]; exact mkI_B.2.2.2 r h⟩) (by rw [hn0]; exact ⟨by rw [hq _ _ (by omega)]; exact n1, by rw [hq _ _ (by omega)]; exact n2, by rw [hq _ _ (by omega)]; exact n3, by rw [hq _ _ (by omega)]; exact n4, by rw [hq _ _ (by omega)]; exact n5, fun t ht => h6' t ht, fun t ht => by rw [hq _ _ (by omega)]; exact n7 t ht, fun t ht => by rw [hq _ _ (by omega)]; exact n8 t ht, fun t ht => by rw [hq _ _ (by omega)]; exact n9 t ht⟩) hp
        exact w
      · refine v_aload_n C dX5_ladder_52 rfl ?_
        refine g_5_6 C (by assumption) (by assumption) wt_539 dX5_ladder_53 ?_
        refine v_bipushN 48 (by decide) C dX5_ladder_56 ?_
        refine v_iload_n C dX5_ladder_58 rfl ?_
        first | refine v_imulN C dX5_ladder_59 ?_ | refine v_imul C dX5_ladder_59 ?_
        refine v_iload C dX5_ladder_60 rfl ?_
        first | refine v_iaddN C dX5_ladder_62 ?_ | refine v_iadd C dX5_ladder_62 ?_
        refine v_iconstN 1 C dX5_ladder_63 ?_
        refine v_iload C dX5_ladder_64 rfl ?_
        first | refine v_ishlN C dX5_ladder_66 (by omega) (by rw [Nat.one_mul]; have := p2 i h49; omega) ?_ | refine v_ishl C dX5_ladder_66 ?_
        rw [Nat.one_mul]
        first | refine v_iastN C (by assumption) (by omega) (by omega) dX5_ladder_67 ?_ | refine v_iast C (by assumption) (by assumption) dX5_ladder_67 ?_
        first | refine v_iincN 1 C dX5_ladder_68 rfl (by decide) ?_ | refine v_iinc C dX5_ladder_68 rfl rfl (by decide) ?_
        refine v_goto C 46 dX5_ladder_71 (by decide) ?_
        refine v_less (ih h49 _ (fun q r h => by rw [mu_ne _ _ h]; exact hq q r h) (fun r h => by rw [mu_other _ _ (by omega)]; exact h6 r h) (fun t ht => ?_)) (by repeat (first | exact trivial | refine And.intro rfl ?_))
        by_cases e : t = i
        · subst e; rw [mu_at, if_pos (by omega)]
        · rw [mu_other _ _ (by omega), h6' t ht]
          by_cases e2 : t < i
          · rw [if_pos e2, if_pos (by omega)]
          · rw [if_neg e2, if_neg (by omega)]
    refine v_iconstN 1 C dX5_ladder_0 ?_
    refine v_iload_n C dX5_ladder_1 rfl ?_
    refine v_callS2_1 C (m_X5_lacks T B) lk_X5_84 wt_604 dX5_ladder_2 ⟨Nat.le_of_ble_eq_true rfl, Nat.le_of_ble_eq_true rfl⟩ (Nat.le_of_ble_eq_true rfl) ⟨Nat.le_of_ble_eq_true rfl, Nat.le_of_ble_eq_true rfl⟩ ?_
    refine c_X5_lacks ?_
    rw [hl]
    refine v_istore_n C dX5_ladder_5 (by decide) ?_
    refine v_iload_n C dX5_ladder_6 rfl ?_
    first | refine v_if_neN C 22 dX5_ladder_7 (by omega) (by decide) (fun h7 => ?_) (fun h7 => ?_) | refine v_if_ne C 22 dX5_ladder_7 (by decide) (fun h7 => ?_) (fun h7 => ?_)
    · exact absurd rfl h7
    · refine v_aload_n C dX5_ladder_10 rfl ?_
      first | refine gv_5_0 C (by assumption) (by assumption) wt_533 dX5_ladder_11 ?_ | refine g_5_0 C (by assumption) wt_533 dX5_ladder_11 ?_
      refine v_bipushN 12 (by decide) C dX5_ladder_14 ?_
      first | refine v_icmp_neN C 22 dX5_ladder_16 (by omega) (by omega) (by decide) (fun h16 => ?_) (fun h16 => ?_) | refine v_icmp_ne C 22 dX5_ladder_16 (by decide) (fun h16 => ?_) (fun h16 => ?_)
      · refine v_iload_n C dX5_ladder_22 rfl ?_
        first | refine v_if_geN C 32 dX5_ladder_23 (by omega) (by decide) (fun h23 => ?_) (fun h23 => ?_) | refine v_if_ge C 32 dX5_ladder_23 (by decide) (fun h23 => ?_) (fun h23 => ?_)
        · refine v_aload_n C dX5_ladder_32 rfl ?_
          refine v_iconstN 1 C dX5_ladder_33 ?_
          refine v_iconstN 1 C dX5_ladder_34 ?_
          refine v_iload_n C dX5_ladder_35 rfl ?_
          refine v_iconstN 1 C dX5_ladder_36 ?_
          refine v_iload_n C dX5_ladder_37 rfl ?_
          first | refine v_ishlN C dX5_ladder_38 (by omega) (by rw [Nat.one_mul]; omega) ?_ | refine v_ishl C dX5_ladder_38 ?_
          rw [Nat.one_mul]
          refine v_callV4_1 C (m_X5_make T B) lk_X5_92 ⟨wt_612, ws_20⟩ 5 rfl dX5_ladder_39 ⟨Nat.le_of_ble_eq_true rfl, Nat.le_of_ble_eq_true rfl⟩ (Nat.le_of_ble_eq_true rfl) ⟨Nat.le_of_ble_eq_true rfl, Nat.le_of_ble_eq_true rfl⟩ (by assumption) (cTo_5 (by assumption)) ?_
          refine c_X5_make hM hn g4 ?_
          refine v_istore_n C dX5_ladder_42 (by decide) ?_
          refine v_iconstN 0 C dX5_ladder_43 ?_
          refine v_istore C dX5_ladder_44 (by decide) ?_
          exact v_less (loop 0 (Nat.zero_le _) _ (fun _ _ _ => rfl) (fun r h => mkI_B.2.1 r h) (fun t ht => hnew.2.2.2.2.2.1 t ht)) (by repeat (first | exact trivial | refine And.intro rfl ?_))
        · exact absurd h23 (fun q => q)
      · exact absurd h16 (by omega)
