def s_X4_grade : Sp := fun av z S I J R Post => ∃ (x : Nat), ∃ (st : St), ∃ (s : Int32), av = [.ref x, .int s] ∧ (Rc x st z S I R) ∧ (Ok st) ∧ (Cq x (o_grade st s).2 S I J R (fun z' S' I' J' R' => Post (o_grade st s).1 0 none z' S' I' J' R'))
theorem c_X4_grade {x : Nat} {st : St} {s : Int32} {z : Nat} {S : MS} {I : MI} {J : MJ} {R : MR} {Post : PT} (hR : Rc x st z S I R) (hO : Ok st) (hp : Cq x (o_grade st s).2 S I J R (fun z' S' I' J' R' => Post (o_grade st s).1 0 none z' S' I' J' R')) : s_X4_grade [.ref x, .int s] z S I J R Post := ⟨x, st, s, rfl, hR, hO, hp⟩
set_option maxRecDepth 100000 in
set_option maxHeartbeats 1000000 in
theorem m_X4_grade (T : TC) (B : Nat) : Mt T B yX4_grade cX4_grade 3 (some .int) 1 (rmL 12 0 0) s_X4_grade := by
  refine Mt_of rfl (by rintro _ _ _ _ _ _ _ ⟨_, _, _, rfl, -⟩; exact Nat.le_of_ble_eq_true rfl) ?_
  intro X av z S I J R Post h C Q hI
  obtain ⟨x, st, s, rfl, hR, hO, hp⟩ := h
  have hR0 := hR
  obtain ⟨sa, hX, hn, htl, hsc, hord, htr, hrf, hzz⟩ := hR
  have hn12 := hO.1
  have hx := hX.1
  have hT := hX.2.2.2.2.2.2.2.2.1
  have hX0 := hX
  obtain ⟨-, -, -, hx2, -, -, -, -, -, hRa, -, -, -⟩ := hX0
  have hRs := hRa.1
  rcases Oo_or s st.1 (by omega) with ho | ⟨k, hk, rfl⟩
  · have e : o_grade st s = rfs st (-1) 1 := by unfold o_grade; rw [onS_o ho]
    rw [e] at hp
    refine v_aload_n C dX4_grade_0 rfl ?_
    refine v_iload_n C dX4_grade_1 rfl ?_
    refine v_callV1_3 C (m_X4_find T B) lk_X4_65 ⟨wt_194, ws_3⟩ 4 rfl dX4_grade_2 ⟨Nat.le_of_ble_eq_true rfl, Nat.le_of_ble_eq_true rfl⟩ (Nat.le_of_ble_eq_true rfl) ⟨Nat.le_of_ble_eq_true rfl, Nat.le_of_ble_eq_true rfl⟩ (by assumption) (cTo_4 (by assumption)) ?_
    refine c_find_o hX hn hn12 (fun k hk => (hsc k hk).1) ho ?_
    refine v_astore_nN C dX4_grade_5 (by decide) ?_
    refine v_aload_nN C dX4_grade_6 rfl ?_
    refine v_ifnonnullN C dX4_grade_7 ?_
    refine v_aload_n C dX4_grade_10 rfl ?_
    refine v_iconst (v := -1) C dX4_grade_11 (by decide) ?_
    refine v_callV1_1 C (m_X4_refuse T B) lk_X4_54 ⟨wt_129, ws_1⟩ 4 rfl dX4_grade_12 ⟨Nat.le_of_ble_eq_true rfl, Nat.le_of_ble_eq_true rfl⟩ (Nat.le_of_ble_eq_true rfl) ⟨Nat.le_of_ble_eq_true rfl, Nat.le_of_ble_eq_true rfl⟩ (by assumption) (cTo_4 (by assumption)) ?_
    refine c_X4_refuse (k := 1) hX (by decide) (by decide) ?_
    refine v_iret C Q dX4_grade_15 (Nat.le_of_ble_eq_true rfl) (Nat.le_of_ble_eq_true rfl) ?_
    have w := Cq_rf (k := 1) hR0 (by decide) hp
    exact w
  · obtain ⟨hrk, hSR, hka, hkz⟩ := hsc k hk
    have hSR0 := hSR
    obtain ⟨hSc, hk0, hk1, hk2, hk3, hk4, hk5, hk6, hk7, hk8⟩ := hSR
    have hOk := hO.2.1 k hk
    obtain ⟨o1, o2, o3, o4, o5, o6, o7, o8, o9, o10, o11, o12⟩ := hOk
    have hs := hSc.1
    unfold o_grade at hp
    rw [onS_k hk (by omega)] at hp
    by_cases hkd : st.2.1 k 1 0 < 3
    · rw [if_pos hkd] at hp
      have hpw : I (sa k) 1 = nI (st.2.1 k 3 0) := by rw [hk1]; unfold pwI; rw [if_neg (by omega)]
      refine v_aload_n C dX4_grade_0 rfl ?_
      refine v_iload_n C dX4_grade_1 rfl ?_
      refine v_callV1_3 C (m_X4_find T B) lk_X4_65 ⟨wt_194, ws_3⟩ 4 rfl dX4_grade_2 ⟨Nat.le_of_ble_eq_true rfl, Nat.le_of_ble_eq_true rfl⟩ (Nat.le_of_ble_eq_true rfl) ⟨Nat.le_of_ble_eq_true rfl, Nat.le_of_ble_eq_true rfl⟩ (by assumption) (cTo_4 (by assumption)) ?_
      refine c_find_k hX hn hn12 (fun k hk => (hsc k hk).1) hk ?_
      refine v_astore_n C dX4_grade_5 (by decide) ?_
      refine v_aload_n C dX4_grade_6 rfl ?_
      refine v_ifnonnull C 16 dX4_grade_7 (by decide) ?_
      refine v_aload_n C dX4_grade_16 rfl ?_
      refine v_callV0_1 C (m_X2_hasRows T B) lk_X4_107 ⟨wt_250, wt_251⟩ 2 rfl dX4_grade_17 ⟨Nat.le_of_ble_eq_true rfl, Nat.le_of_ble_eq_true rfl⟩ (Nat.le_of_ble_eq_true rfl) ⟨Nat.le_of_ble_eq_true rfl, Nat.le_of_ble_eq_true rfl⟩ (by assumption) (cTo_2 (by assumption)) ?_
      refine c_X2_hasRows hs hk0 o1 ⟨fun _ => ?_, fun q => absurd q (by omega)⟩
      first | refine v_if_neN C 30 dX4_grade_20 (by omega) (by decide) (fun h20 => ?_) (fun h20 => ?_) | refine v_if_ne C 30 dX4_grade_20 (by decide) (fun h20 => ?_) (fun h20 => ?_)
      · refine v_aload_n C dX4_grade_30 rfl ?_
        refine g_4_2 C (by assumption) (by assumption) wt_96 dX4_grade_31 ?_
        refine v_aload_n C dX4_grade_34 rfl ?_
        refine v_callV1_1 C (m_X1_gradeOfAll T B) lk_X4_161 ⟨wt_375, wt_376⟩ 1 rfl dX4_grade_35 ⟨Nat.le_of_ble_eq_true rfl, Nat.le_of_ble_eq_true rfl⟩ (Nat.le_of_ble_eq_true rfl) ⟨Nat.le_of_ble_eq_true rfl, Nat.le_of_ble_eq_true rfl⟩ (by assumption) (cTo_1 (by assumption)) ?_
        refine c_X1_gradeOfAll (ro := rowW (st.2.1 k)) hRa hSc (Or.inl (by omega)) hpw o4 hk3 o3 (fun j i h1 h2 => ⟨hk5 _ (by omega), by have := o9 (j * 8 + i); unfold rowW; omega⟩) (fun I2 hF2 => ?_)
        refine v_iret C Q dX4_grade_38 (Nat.le_of_ble_eq_true rfl) (Nat.le_of_ble_eq_true rfl) ?_
        have w := Cq_scr hR0 (hF2.wide (by omega) (by omega)) (fun _ _ _ => rfl) hp
        exact w
      · exact absurd h20 (by decide)
    · rw [if_neg hkd] at hp
      refine v_aload_n C dX4_grade_0 rfl ?_
      refine v_iload_n C dX4_grade_1 rfl ?_
      refine v_callV1_3 C (m_X4_find T B) lk_X4_65 ⟨wt_194, ws_3⟩ 4 rfl dX4_grade_2 ⟨Nat.le_of_ble_eq_true rfl, Nat.le_of_ble_eq_true rfl⟩ (Nat.le_of_ble_eq_true rfl) ⟨Nat.le_of_ble_eq_true rfl, Nat.le_of_ble_eq_true rfl⟩ (by assumption) (cTo_4 (by assumption)) ?_
      refine c_find_k hX hn hn12 (fun k hk => (hsc k hk).1) hk ?_
      refine v_astore_n C dX4_grade_5 (by decide) ?_
      refine v_aload_n C dX4_grade_6 rfl ?_
      refine v_ifnonnull C 16 dX4_grade_7 (by decide) ?_
      refine v_aload_n C dX4_grade_16 rfl ?_
      refine v_callV0_1 C (m_X2_hasRows T B) lk_X4_107 ⟨wt_250, wt_251⟩ 2 rfl dX4_grade_17 ⟨Nat.le_of_ble_eq_true rfl, Nat.le_of_ble_eq_true rfl⟩ (Nat.le_of_ble_eq_true rfl) ⟨Nat.le_of_ble_eq_true rfl, Nat.le_of_ble_eq_true rfl⟩ (by assumption) (cTo_2 (by assumption)) ?_
      refine c_X2_hasRows hs hk0 o1 ⟨fun q => absurd q (by omega), fun _ => ?_⟩
      first | refine v_if_neN C 30 dX4_grade_20 (by omega) (by decide) (fun h20 => ?_) (fun h20 => ?_) | refine v_if_ne C 30 dX4_grade_20 (by decide) (fun h20 => ?_) (fun h20 => ?_)
      · exact absurd h20 (by decide)
      · refine v_aload_n C dX4_grade_23 rfl ?_
        refine v_bipush (v := -2) C dX4_grade_24 (by decide) ?_
        refine v_callV1_1 C (m_X4_refuse T B) lk_X4_54 ⟨wt_129, ws_1⟩ 4 rfl dX4_grade_26 ⟨Nat.le_of_ble_eq_true rfl, Nat.le_of_ble_eq_true rfl⟩ (Nat.le_of_ble_eq_true rfl) ⟨Nat.le_of_ble_eq_true rfl, Nat.le_of_ble_eq_true rfl⟩ (by assumption) (cTo_4 (by assumption)) ?_
        refine c_X4_refuse (k := 2) hX (by decide) (by decide) ?_
        refine v_iret C Q dX4_grade_29 (Nat.le_of_ble_eq_true rfl) (Nat.le_of_ble_eq_true rfl) ?_
        have w := Cq_rf (k := 2) hR0 (by decide) hp
        exact w
def s_X4_pair : Sp := fun av z S I J R Post => ∃ (x : Nat), ∃ (st : St), ∃ (s j l : Int32), av = [.ref x, .int s, .int j, .int l] ∧ (Rc x st z S I R) ∧ (Ok st) ∧ (Cq x (o_pair st s j l).2 S I J R (fun z' S' I' J' R' => Post (o_pair st s j l).1 0 none z' S' I' J' R'))
theorem c_X4_pair {x : Nat} {st : St} {s j l : Int32} {z : Nat} {S : MS} {I : MI} {J : MJ} {R : MR} {Post : PT} (hR : Rc x st z S I R) (hO : Ok st) (hp : Cq x (o_pair st s j l).2 S I J R (fun z' S' I' J' R' => Post (o_pair st s j l).1 0 none z' S' I' J' R')) : s_X4_pair [.ref x, .int s, .int j, .int l] z S I J R Post := ⟨x, st, s, j, l, rfl, hR, hO, hp⟩
set_option maxRecDepth 100000 in
set_option maxHeartbeats 1000000 in
theorem m_X4_pair (T : TC) (B : Nat) : Mt T B yX4_pair cX4_pair 5 (some .int) 1 (rmL 12 0 0) s_X4_pair := by
  refine Mt_of rfl (by rintro _ _ _ _ _ _ _ ⟨_, _, _, _, _, rfl, -⟩; exact Nat.le_of_ble_eq_true rfl) ?_
  intro X av z S I J R Post h C Q hI
  obtain ⟨x, st, s, j, l, rfl, hR, hO, hp⟩ := h
  have hR0 := hR
  obtain ⟨sa, hX, hn, htl, hsc, hord, htr, hrf, hzz⟩ := hR
  have hn12 := hO.1
  have hx := hX.1
  have hT := hX.2.2.2.2.2.2.2.2.1
  have hX0 := hX
  obtain ⟨-, -, -, hx2, -, -, -, -, -, hRa, -, -, -⟩ := hX0
  have hRs := hRa.1
  rcases Oo_or s st.1 (by omega) with ho | ⟨k, hk, rfl⟩
  · have e : o_pair st s j l = rfs st (-1) 1 := by unfold o_pair; rw [onS_o ho]
    rw [e] at hp
    refine v_aload_n C dX4_pair_0 rfl ?_
    refine v_iload_n C dX4_pair_1 rfl ?_
    refine v_callV1_3 C (m_X4_find T B) lk_X4_65 ⟨wt_194, ws_3⟩ 4 rfl dX4_pair_2 ⟨Nat.le_of_ble_eq_true rfl, Nat.le_of_ble_eq_true rfl⟩ (Nat.le_of_ble_eq_true rfl) ⟨Nat.le_of_ble_eq_true rfl, Nat.le_of_ble_eq_true rfl⟩ (by assumption) (cTo_4 (by assumption)) ?_
    refine c_find_o hX hn hn12 (fun k hk => (hsc k hk).1) ho ?_
    refine v_astoreN C dX4_pair_5 (by decide) ?_
    refine v_aloadN C dX4_pair_7 rfl ?_
    refine v_ifnullN C 35 dX4_pair_9 (by decide) ?_
    refine v_aload_n C dX4_pair_35 rfl ?_
    refine v_iconst (v := -1) C dX4_pair_36 (by decide) ?_
    refine v_callV1_1 C (m_X4_refuse T B) lk_X4_54 ⟨wt_129, ws_1⟩ 4 rfl dX4_pair_37 ⟨Nat.le_of_ble_eq_true rfl, Nat.le_of_ble_eq_true rfl⟩ (Nat.le_of_ble_eq_true rfl) ⟨Nat.le_of_ble_eq_true rfl, Nat.le_of_ble_eq_true rfl⟩ (by assumption) (cTo_4 (by assumption)) ?_
    refine c_X4_refuse (k := 1) hX (by decide) (by decide) ?_
    refine v_iret C Q dX4_pair_40 (Nat.le_of_ble_eq_true rfl) (Nat.le_of_ble_eq_true rfl) ?_
    have w := Cq_rf (k := 1) hR0 (by decide) hp
    exact w
  · obtain ⟨hrk, hSR, hka, hkz⟩ := hsc k hk
    have hSR0 := hSR
    obtain ⟨hSc, hk0, hk1, hk2, hk3, hk4, hk5, hk6, hk7, hk8⟩ := hSR
    have hOk := hO.2.1 k hk
    obtain ⟨o1, o2, o3, o4, o5, o6, o7, o8, o9, o10, o11, o12⟩ := hOk
    have hs := hSc.1
    unfold o_pair at hp
    rw [onS_k hk (by omega)] at hp
    rcases Oo_or j (st.2.1 k 2 0) (by omega) with hq | ⟨a, ha, rfl⟩
    · rw [onS_o hq] at hp
      refine v_aload_n C dX4_pair_0 rfl ?_
      refine v_iload_n C dX4_pair_1 rfl ?_
      refine v_callV1_3 C (m_X4_find T B) lk_X4_65 ⟨wt_194, ws_3⟩ 4 rfl dX4_pair_2 ⟨Nat.le_of_ble_eq_true rfl, Nat.le_of_ble_eq_true rfl⟩ (Nat.le_of_ble_eq_true rfl) ⟨Nat.le_of_ble_eq_true rfl, Nat.le_of_ble_eq_true rfl⟩ (by assumption) (cTo_4 (by assumption)) ?_
      refine c_find_k hX hn hn12 (fun k hk => (hsc k hk).1) hk ?_
      refine v_astore C dX4_pair_5 (by decide) ?_
      refine v_aload C dX4_pair_7 rfl ?_
      refine v_ifnull C dX4_pair_9 ?_
      refine v_aload C dX4_pair_12 rfl ?_
      refine v_iload_n C dX4_pair_14 rfl ?_
      refine v_callV1_1 C (m_X2_hasDirection T B) lk_X4_69 ⟨wt_197, wt_198⟩ 2 rfl dX4_pair_15 ⟨Nat.le_of_ble_eq_true rfl, Nat.le_of_ble_eq_true rfl⟩ (Nat.le_of_ble_eq_true rfl) ⟨Nat.le_of_ble_eq_true rfl, Nat.le_of_ble_eq_true rfl⟩ (by assumption) (cTo_2 (by assumption)) ?_
      refine c_dir_o hs hk3 o3 hq ?_
      first | refine v_if_eqN C 35 dX4_pair_18 (by omega) (by decide) (fun h18 => ?_) (fun h18 => ?_) | refine v_if_eq C 35 dX4_pair_18 (by decide) (fun h18 => ?_) (fun h18 => ?_)
      · refine v_aload_n C dX4_pair_35 rfl ?_
        refine v_iconst (v := -1) C dX4_pair_36 (by decide) ?_
        refine v_callV1_1 C (m_X4_refuse T B) lk_X4_54 ⟨wt_129, ws_1⟩ 4 rfl dX4_pair_37 ⟨Nat.le_of_ble_eq_true rfl, Nat.le_of_ble_eq_true rfl⟩ (Nat.le_of_ble_eq_true rfl) ⟨Nat.le_of_ble_eq_true rfl, Nat.le_of_ble_eq_true rfl⟩ (by assumption) (cTo_4 (by assumption)) ?_
        refine c_X4_refuse (k := 1) hX (by decide) (by decide) ?_
        refine v_iret C Q dX4_pair_40 (Nat.le_of_ble_eq_true rfl) (Nat.le_of_ble_eq_true rfl) ?_
        have w := Cq_rf (k := 1) hR0 (by decide) hp
        exact w
      · exact absurd rfl h18
    · rw [onS_k ha (by omega)] at hp
      rcases Oo_or l (st.2.1 k 2 0) (by omega) with hq | ⟨b, hb, rfl⟩
      · rw [onS_o hq] at hp
        refine v_aload_n C dX4_pair_0 rfl ?_
        refine v_iload_n C dX4_pair_1 rfl ?_
        refine v_callV1_3 C (m_X4_find T B) lk_X4_65 ⟨wt_194, ws_3⟩ 4 rfl dX4_pair_2 ⟨Nat.le_of_ble_eq_true rfl, Nat.le_of_ble_eq_true rfl⟩ (Nat.le_of_ble_eq_true rfl) ⟨Nat.le_of_ble_eq_true rfl, Nat.le_of_ble_eq_true rfl⟩ (by assumption) (cTo_4 (by assumption)) ?_
        refine c_find_k hX hn hn12 (fun k hk => (hsc k hk).1) hk ?_
        refine v_astore C dX4_pair_5 (by decide) ?_
        refine v_aload C dX4_pair_7 rfl ?_
        refine v_ifnull C dX4_pair_9 ?_
        refine v_aload C dX4_pair_12 rfl ?_
        refine v_iload_n C dX4_pair_14 rfl ?_
        refine v_callV1_1 C (m_X2_hasDirection T B) lk_X4_69 ⟨wt_197, wt_198⟩ 2 rfl dX4_pair_15 ⟨Nat.le_of_ble_eq_true rfl, Nat.le_of_ble_eq_true rfl⟩ (Nat.le_of_ble_eq_true rfl) ⟨Nat.le_of_ble_eq_true rfl, Nat.le_of_ble_eq_true rfl⟩ (by assumption) (cTo_2 (by assumption)) ?_
        refine c_dir_k hs hk3 o3 ha ?_
        first | refine v_if_eqN C 35 dX4_pair_18 (by omega) (by decide) (fun h18 => ?_) (fun h18 => ?_) | refine v_if_eq C 35 dX4_pair_18 (by decide) (fun h18 => ?_) (fun h18 => ?_)
        · exact absurd h18 (by decide)
        · refine v_aload C dX4_pair_21 rfl ?_
          refine v_iload_n C dX4_pair_23 rfl ?_
          refine v_callV1_1 C (m_X2_hasDirection T B) lk_X4_69 ⟨wt_197, wt_198⟩ 2 rfl dX4_pair_24 ⟨Nat.le_of_ble_eq_true rfl, Nat.le_of_ble_eq_true rfl⟩ (Nat.le_of_ble_eq_true rfl) ⟨Nat.le_of_ble_eq_true rfl, Nat.le_of_ble_eq_true rfl⟩ (by assumption) (cTo_2 (by assumption)) ?_
          refine c_dir_o hs hk3 o3 hq ?_
          first | refine v_if_eqN C 35 dX4_pair_27 (by omega) (by decide) (fun h27 => ?_) (fun h27 => ?_) | refine v_if_eq C 35 dX4_pair_27 (by decide) (fun h27 => ?_) (fun h27 => ?_)
          · refine v_aload_n C dX4_pair_35 rfl ?_
            refine v_iconst (v := -1) C dX4_pair_36 (by decide) ?_
            refine v_callV1_1 C (m_X4_refuse T B) lk_X4_54 ⟨wt_129, ws_1⟩ 4 rfl dX4_pair_37 ⟨Nat.le_of_ble_eq_true rfl, Nat.le_of_ble_eq_true rfl⟩ (Nat.le_of_ble_eq_true rfl) ⟨Nat.le_of_ble_eq_true rfl, Nat.le_of_ble_eq_true rfl⟩ (by assumption) (cTo_4 (by assumption)) ?_
            refine c_X4_refuse (k := 1) hX (by decide) (by decide) ?_
            refine v_iret C Q dX4_pair_40 (Nat.le_of_ble_eq_true rfl) (Nat.le_of_ble_eq_true rfl) ?_
            have w := Cq_rf (k := 1) hR0 (by decide) hp
            exact w
          · exact absurd rfl h27
      · rw [onS_k hb (by omega)] at hp
        by_cases hab : a = b
        · rw [if_pos hab] at hp
          refine v_aload_n C dX4_pair_0 rfl ?_
          refine v_iload_n C dX4_pair_1 rfl ?_
          refine v_callV1_3 C (m_X4_find T B) lk_X4_65 ⟨wt_194, ws_3⟩ 4 rfl dX4_pair_2 ⟨Nat.le_of_ble_eq_true rfl, Nat.le_of_ble_eq_true rfl⟩ (Nat.le_of_ble_eq_true rfl) ⟨Nat.le_of_ble_eq_true rfl, Nat.le_of_ble_eq_true rfl⟩ (by assumption) (cTo_4 (by assumption)) ?_
          refine c_find_k hX hn hn12 (fun k hk => (hsc k hk).1) hk ?_
          refine v_astore C dX4_pair_5 (by decide) ?_
          refine v_aload C dX4_pair_7 rfl ?_
          refine v_ifnull C dX4_pair_9 ?_
          refine v_aload C dX4_pair_12 rfl ?_
          refine v_iload_n C dX4_pair_14 rfl ?_
          refine v_callV1_1 C (m_X2_hasDirection T B) lk_X4_69 ⟨wt_197, wt_198⟩ 2 rfl dX4_pair_15 ⟨Nat.le_of_ble_eq_true rfl, Nat.le_of_ble_eq_true rfl⟩ (Nat.le_of_ble_eq_true rfl) ⟨Nat.le_of_ble_eq_true rfl, Nat.le_of_ble_eq_true rfl⟩ (by assumption) (cTo_2 (by assumption)) ?_
          refine c_dir_k hs hk3 o3 ha ?_
          first | refine v_if_eqN C 35 dX4_pair_18 (by omega) (by decide) (fun h18 => ?_) (fun h18 => ?_) | refine v_if_eq C 35 dX4_pair_18 (by decide) (fun h18 => ?_) (fun h18 => ?_)
          · exact absurd h18 (by decide)
          · refine v_aload C dX4_pair_21 rfl ?_
            refine v_iload_n C dX4_pair_23 rfl ?_
            refine v_callV1_1 C (m_X2_hasDirection T B) lk_X4_69 ⟨wt_197, wt_198⟩ 2 rfl dX4_pair_24 ⟨Nat.le_of_ble_eq_true rfl, Nat.le_of_ble_eq_true rfl⟩ (Nat.le_of_ble_eq_true rfl) ⟨Nat.le_of_ble_eq_true rfl, Nat.le_of_ble_eq_true rfl⟩ (by assumption) (cTo_2 (by assumption)) ?_
            refine c_dir_k hs hk3 o3 hb ?_
            first | refine v_if_eqN C 35 dX4_pair_27 (by omega) (by decide) (fun h27 => ?_) (fun h27 => ?_) | refine v_if_eq C 35 dX4_pair_27 (by decide) (fun h27 => ?_) (fun h27 => ?_)
            · exact absurd h27 (by decide)
            · refine v_iload_n C dX4_pair_30 rfl ?_
              refine v_iload_n C dX4_pair_31 rfl ?_
              first | refine v_icmp_neN C 41 dX4_pair_32 (by omega) (by omega) (by decide) (fun h32 => ?_) (fun h32 => ?_) | refine v_icmp_ne C 41 dX4_pair_32 (by decide) (fun h32 => ?_) (fun h32 => ?_)
              · exact absurd hab h32
              · refine v_aload_n C dX4_pair_35 rfl ?_
                refine v_iconst (v := -1) C dX4_pair_36 (by decide) ?_
                refine v_callV1_1 C (m_X4_refuse T B) lk_X4_54 ⟨wt_129, ws_1⟩ 4 rfl dX4_pair_37 ⟨Nat.le_of_ble_eq_true rfl, Nat.le_of_ble_eq_true rfl⟩ (Nat.le_of_ble_eq_true rfl) ⟨Nat.le_of_ble_eq_true rfl, Nat.le_of_ble_eq_true rfl⟩ (by assumption) (cTo_4 (by assumption)) ?_
                refine c_X4_refuse (k := 1) hX (by decide) (by decide) ?_
                refine v_iret C Q dX4_pair_40 (Nat.le_of_ble_eq_true rfl) (Nat.le_of_ble_eq_true rfl) ?_
                have w := Cq_rf (k := 1) hR0 (by decide) hp
                exact w
        · rw [if_neg hab] at hp
          by_cases hkd : st.2.1 k 1 0 < 3
          · rw [if_pos hkd] at hp
            have hpw : I (sa k) 1 = nI (st.2.1 k 3 0) := by rw [hk1]; unfold pwI; rw [if_neg (by omega)]
            refine v_aload_n C dX4_pair_0 rfl ?_
            refine v_iload_n C dX4_pair_1 rfl ?_
            refine v_callV1_3 C (m_X4_find T B) lk_X4_65 ⟨wt_194, ws_3⟩ 4 rfl dX4_pair_2 ⟨Nat.le_of_ble_eq_true rfl, Nat.le_of_ble_eq_true rfl⟩ (Nat.le_of_ble_eq_true rfl) ⟨Nat.le_of_ble_eq_true rfl, Nat.le_of_ble_eq_true rfl⟩ (by assumption) (cTo_4 (by assumption)) ?_
            refine c_find_k hX hn hn12 (fun k hk => (hsc k hk).1) hk ?_
            refine v_astore C dX4_pair_5 (by decide) ?_
            refine v_aload C dX4_pair_7 rfl ?_
            refine v_ifnull C dX4_pair_9 ?_
            refine v_aload C dX4_pair_12 rfl ?_
            refine v_iload_n C dX4_pair_14 rfl ?_
            refine v_callV1_1 C (m_X2_hasDirection T B) lk_X4_69 ⟨wt_197, wt_198⟩ 2 rfl dX4_pair_15 ⟨Nat.le_of_ble_eq_true rfl, Nat.le_of_ble_eq_true rfl⟩ (Nat.le_of_ble_eq_true rfl) ⟨Nat.le_of_ble_eq_true rfl, Nat.le_of_ble_eq_true rfl⟩ (by assumption) (cTo_2 (by assumption)) ?_
            refine c_dir_k hs hk3 o3 ha ?_
            first | refine v_if_eqN C 35 dX4_pair_18 (by omega) (by decide) (fun h18 => ?_) (fun h18 => ?_) | refine v_if_eq C 35 dX4_pair_18 (by decide) (fun h18 => ?_) (fun h18 => ?_)
            · exact absurd h18 (by decide)
            · refine v_aload C dX4_pair_21 rfl ?_
              refine v_iload_n C dX4_pair_23 rfl ?_
              refine v_callV1_1 C (m_X2_hasDirection T B) lk_X4_69 ⟨wt_197, wt_198⟩ 2 rfl dX4_pair_24 ⟨Nat.le_of_ble_eq_true rfl, Nat.le_of_ble_eq_true rfl⟩ (Nat.le_of_ble_eq_true rfl) ⟨Nat.le_of_ble_eq_true rfl, Nat.le_of_ble_eq_true rfl⟩ (by assumption) (cTo_2 (by assumption)) ?_
              refine c_dir_k hs hk3 o3 hb ?_
              first | refine v_if_eqN C 35 dX4_pair_27 (by omega) (by decide) (fun h27 => ?_) (fun h27 => ?_) | refine v_if_eq C 35 dX4_pair_27 (by decide) (fun h27 => ?_) (fun h27 => ?_)
              · exact absurd h27 (by decide)
              · refine v_iload_n C dX4_pair_30 rfl ?_
                refine v_iload_n C dX4_pair_31 rfl ?_
                first | refine v_icmp_neN C 41 dX4_pair_32 (by omega) (by omega) (by decide) (fun h32 => ?_) (fun h32 => ?_) | refine v_icmp_ne C 41 dX4_pair_32 (by decide) (fun h32 => ?_) (fun h32 => ?_)
                · refine v_aload C dX4_pair_41 rfl ?_
                  refine v_callV0_1 C (m_X2_hasRows T B) lk_X4_107 ⟨wt_250, wt_251⟩ 2 rfl dX4_pair_43 ⟨Nat.le_of_ble_eq_true rfl, Nat.le_of_ble_eq_true rfl⟩ (Nat.le_of_ble_eq_true rfl) ⟨Nat.le_of_ble_eq_true rfl, Nat.le_of_ble_eq_true rfl⟩ (by assumption) (cTo_2 (by assumption)) ?_
                  refine c_X2_hasRows hs hk0 o1 ⟨fun _ => ?_, fun q => absurd q (by omega)⟩
                  first | refine v_if_neN C 56 dX4_pair_46 (by omega) (by decide) (fun h46 => ?_) (fun h46 => ?_) | refine v_if_ne C 56 dX4_pair_46 (by decide) (fun h46 => ?_) (fun h46 => ?_)
                  · refine v_aload_n C dX4_pair_56 rfl ?_
                    refine g_4_2 C (by assumption) (by assumption) wt_96 dX4_pair_57 ?_
                    refine v_aload C dX4_pair_60 rfl ?_
                    refine v_iload_n C dX4_pair_62 rfl ?_
                    refine v_iload_n C dX4_pair_63 rfl ?_
                    refine v_callV3_1 C (m_X1_gradeOfTwo T B) lk_X4_164 ⟨wt_397, wt_398⟩ 1 rfl dX4_pair_64 ⟨Nat.le_of_ble_eq_true rfl, Nat.le_of_ble_eq_true rfl⟩ (Nat.le_of_ble_eq_true rfl) ⟨Nat.le_of_ble_eq_true rfl, Nat.le_of_ble_eq_true rfl⟩ (by assumption) (cTo_1 (by assumption)) ?_
                    refine c_X1_gradeOfTwo (ro := rowW (st.2.1 k)) hRa hSc (Or.inl (by omega)) hpw o4 (by omega) (by omega) (fun j i h1 h2 => ⟨hk5 _ (by omega), by have := o9 (j * 8 + i); unfold rowW; omega⟩) (fun I2 hF2 => ?_)
                    refine v_iret C Q dX4_pair_67 (Nat.le_of_ble_eq_true rfl) (Nat.le_of_ble_eq_true rfl) ?_
                    have w := Cq_scr hR0 (hF2.wide (by omega) (by omega)) (fun _ _ _ => rfl) hp
                    exact w
                  · exact absurd h46 (by decide)
                · exact absurd h32 hab
          · rw [if_neg hkd] at hp
            refine v_aload_n C dX4_pair_0 rfl ?_
            refine v_iload_n C dX4_pair_1 rfl ?_
            refine v_callV1_3 C (m_X4_find T B) lk_X4_65 ⟨wt_194, ws_3⟩ 4 rfl dX4_pair_2 ⟨Nat.le_of_ble_eq_true rfl, Nat.le_of_ble_eq_true rfl⟩ (Nat.le_of_ble_eq_true rfl) ⟨Nat.le_of_ble_eq_true rfl, Nat.le_of_ble_eq_true rfl⟩ (by assumption) (cTo_4 (by assumption)) ?_
            refine c_find_k hX hn hn12 (fun k hk => (hsc k hk).1) hk ?_
            refine v_astore C dX4_pair_5 (by decide) ?_
            refine v_aload C dX4_pair_7 rfl ?_
            refine v_ifnull C dX4_pair_9 ?_
            refine v_aload C dX4_pair_12 rfl ?_
            refine v_iload_n C dX4_pair_14 rfl ?_
            refine v_callV1_1 C (m_X2_hasDirection T B) lk_X4_69 ⟨wt_197, wt_198⟩ 2 rfl dX4_pair_15 ⟨Nat.le_of_ble_eq_true rfl, Nat.le_of_ble_eq_true rfl⟩ (Nat.le_of_ble_eq_true rfl) ⟨Nat.le_of_ble_eq_true rfl, Nat.le_of_ble_eq_true rfl⟩ (by assumption) (cTo_2 (by assumption)) ?_
            refine c_dir_k hs hk3 o3 ha ?_
            first | refine v_if_eqN C 35 dX4_pair_18 (by omega) (by decide) (fun h18 => ?_) (fun h18 => ?_) | refine v_if_eq C 35 dX4_pair_18 (by decide) (fun h18 => ?_) (fun h18 => ?_)
            · exact absurd h18 (by decide)
            · refine v_aload C dX4_pair_21 rfl ?_
              refine v_iload_n C dX4_pair_23 rfl ?_
              refine v_callV1_1 C (m_X2_hasDirection T B) lk_X4_69 ⟨wt_197, wt_198⟩ 2 rfl dX4_pair_24 ⟨Nat.le_of_ble_eq_true rfl, Nat.le_of_ble_eq_true rfl⟩ (Nat.le_of_ble_eq_true rfl) ⟨Nat.le_of_ble_eq_true rfl, Nat.le_of_ble_eq_true rfl⟩ (by assumption) (cTo_2 (by assumption)) ?_
              refine c_dir_k hs hk3 o3 hb ?_
              first | refine v_if_eqN C 35 dX4_pair_27 (by omega) (by decide) (fun h27 => ?_) (fun h27 => ?_) | refine v_if_eq C 35 dX4_pair_27 (by decide) (fun h27 => ?_) (fun h27 => ?_)
              · exact absurd h27 (by decide)
              · refine v_iload_n C dX4_pair_30 rfl ?_
                refine v_iload_n C dX4_pair_31 rfl ?_
                first | refine v_icmp_neN C 41 dX4_pair_32 (by omega) (by omega) (by decide) (fun h32 => ?_) (fun h32 => ?_) | refine v_icmp_ne C 41 dX4_pair_32 (by decide) (fun h32 => ?_) (fun h32 => ?_)
                · refine v_aload C dX4_pair_41 rfl ?_
                  refine v_callV0_1 C (m_X2_hasRows T B) lk_X4_107 ⟨wt_250, wt_251⟩ 2 rfl dX4_pair_43 ⟨Nat.le_of_ble_eq_true rfl, Nat.le_of_ble_eq_true rfl⟩ (Nat.le_of_ble_eq_true rfl) ⟨Nat.le_of_ble_eq_true rfl, Nat.le_of_ble_eq_true rfl⟩ (by assumption) (cTo_2 (by assumption)) ?_
                  refine c_X2_hasRows hs hk0 o1 ⟨fun q => absurd q (by omega), fun _ => ?_⟩
                  first | refine v_if_neN C 56 dX4_pair_46 (by omega) (by decide) (fun h46 => ?_) (fun h46 => ?_) | refine v_if_ne C 56 dX4_pair_46 (by decide) (fun h46 => ?_) (fun h46 => ?_)
                  · exact absurd h46 (by decide)
                  · refine v_aload_n C dX4_pair_49 rfl ?_
                    refine v_bipush (v := -2) C dX4_pair_50 (by decide) ?_
                    refine v_callV1_1 C (m_X4_refuse T B) lk_X4_54 ⟨wt_129, ws_1⟩ 4 rfl dX4_pair_52 ⟨Nat.le_of_ble_eq_true rfl, Nat.le_of_ble_eq_true rfl⟩ (Nat.le_of_ble_eq_true rfl) ⟨Nat.le_of_ble_eq_true rfl, Nat.le_of_ble_eq_true rfl⟩ (by assumption) (cTo_4 (by assumption)) ?_
                    refine c_X4_refuse (k := 2) hX (by decide) (by decide) ?_
                    refine v_iret C Q dX4_pair_55 (Nat.le_of_ble_eq_true rfl) (Nat.le_of_ble_eq_true rfl) ?_
                    have w := Cq_rf (k := 2) hR0 (by decide) hp
                    exact w
                · exact absurd h32 hab
def s_X4_status : Sp := fun av z S I J R Post => ∃ (x : Nat), ∃ (st : St), ∃ (w : Int32), av = [.ref x, .int w] ∧ (Rc x st z S I R) ∧ (Ok st) ∧ (Cq x (o_status st w).2 S I J R (fun z' S' I' J' R' => Post (o_status st w).1 0 none z' S' I' J' R'))
theorem c_X4_status {x : Nat} {st : St} {w : Int32} {z : Nat} {S : MS} {I : MI} {J : MJ} {R : MR} {Post : PT} (hR : Rc x st z S I R) (hO : Ok st) (hp : Cq x (o_status st w).2 S I J R (fun z' S' I' J' R' => Post (o_status st w).1 0 none z' S' I' J' R')) : s_X4_status [.ref x, .int w] z S I J R Post := ⟨x, st, w, rfl, hR, hO, hp⟩
set_option maxRecDepth 100000 in
set_option maxHeartbeats 1000000 in
theorem m_X4_status (T : TC) (B : Nat) : Mt T B yX4_status cX4_status 2 (some .int) 1 (rmL 1 0 0) s_X4_status := by
  refine Mt_of rfl (by rintro _ _ _ _ _ _ _ ⟨_, _, _, rfl, -⟩; exact Nat.le_of_ble_eq_true rfl) ?_
  intro X av z S I J R Post h C Q hI
  obtain ⟨x, st, w, rfl, hR, hO, hp⟩ := h
  have hR0 := hR
  obtain ⟨sa, hX, hn, htl, hsc, hord, htr, hrf, hzz⟩ := hR
  have hn12 := hO.1
  have hx := hX.1
  have hT := hX.2.2.2.2.2.2.2.2.1
  have hX0 := hX
  obtain ⟨-, -, -, -, -, -, hx5, -, -, -, -, -, hs14⟩ := hX0
  unfold o_status at hp
  by_cases e0 : w = 0
  · subst e0
    rw [if_pos rfl] at hp
    refine v_iload_n C dX4_status_0 rfl ?_
    refine v_if_ne C 9 dX4_status_1 (by decide) (fun h1 => ?_) (fun h1 => ?_)
    · exact absurd rfl h1
    · refine v_aload_n C dX4_status_4 rfl ?_
      first | refine gv_4_6 C (by assumption) (by assumption) wt_100 dX4_status_5 ?_ | refine g_4_6 C (by assumption) wt_100 dX4_status_5 ?_
      refine v_iret C Q dX4_status_8 (Nat.le_of_ble_eq_true rfl) (Nat.le_of_ble_eq_true rfl) ?_
      have w := Cq_same hR0 hp
      exact w
  · rw [if_neg e0] at hp
    by_cases e1 : w = nI 1
    · subst e1
      rw [if_pos rfl] at hp
      refine v_iload_n C dX4_status_0 rfl ?_
      first | refine v_if_neN C 9 dX4_status_1 (by omega) (by decide) (fun h1 => ?_) (fun h1 => ?_) | refine v_if_ne C 9 dX4_status_1 (by decide) (fun h1 => ?_) (fun h1 => ?_)
      · refine v_iload_n C dX4_status_9 rfl ?_
        refine v_iconstN 1 C dX4_status_10 ?_
        first | refine v_icmp_neN C 19 dX4_status_11 (by omega) (by omega) (by decide) (fun h11 => ?_) (fun h11 => ?_) | refine v_icmp_ne C 19 dX4_status_11 (by decide) (fun h11 => ?_) (fun h11 => ?_)
        · exact absurd rfl h11
        · refine v_aload_n C dX4_status_14 rfl ?_
          first | refine gv_4_7 C (by assumption) (by assumption) wt_101 dX4_status_15 ?_ | refine g_4_7 C (by assumption) wt_101 dX4_status_15 ?_
          refine v_iret C Q dX4_status_18 (Nat.le_of_ble_eq_true rfl) (Nat.le_of_ble_eq_true rfl) ?_
          have w := Cq_same hR0 hp
          exact w
      · exact absurd h1 (by decide)
    · rw [if_neg e1] at hp
      by_cases e2 : w < nI 11 ∨ nI 16 < w
      · rw [if_pos e2] at hp
        refine v_iload_n C dX4_status_0 rfl ?_
        refine v_if_ne C 9 dX4_status_1 (by decide) (fun h1 => ?_) (fun h1 => ?_)
        · refine v_iload_n C dX4_status_9 rfl ?_
          refine v_iconstN 1 C dX4_status_10 ?_
          refine v_icmp_ne C 19 dX4_status_11 (by decide) (fun h11 => ?_) (fun h11 => ?_)
          · refine v_iload_n C dX4_status_19 rfl ?_
            refine v_bipushN 11 (by decide) C dX4_status_20 ?_
            refine v_icmp_lt C 41 dX4_status_22 (by decide) (fun h22 => ?_) (fun h22 => ?_)
            · refine v_bipush (v := -9) C dX4_status_41 (by decide) ?_
              refine v_iret C Q dX4_status_43 (Nat.le_of_ble_eq_true rfl) (Nat.le_of_ble_eq_true rfl) ?_
              have w := Cq_same hR0 hp
              exact w
            · refine v_iload_n C dX4_status_25 rfl ?_
              refine v_bipushN 16 (by decide) C dX4_status_26 ?_
              refine v_icmp_gt C 41 dX4_status_28 (by decide) (fun h28 => ?_) (fun h28 => ?_)
              · refine v_bipush (v := -9) C dX4_status_41 (by decide) ?_
                refine v_iret C Q dX4_status_43 (Nat.le_of_ble_eq_true rfl) (Nat.le_of_ble_eq_true rfl) ?_
                have w := Cq_same hR0 hp
                exact w
              · exact absurd e2 (fun q => q.elim h22 h28)
          · exact absurd h11 e1
        · exact absurd h1 e0
      · rw [if_neg e2] at hp
        have w1 : ¬ w < nI 11 := fun q => e2 (Or.inl q)
        have w2 : ¬ nI 16 < w := fun q => e2 (Or.inr q)
        have w0 : ¬ w < 0 := fun q => by
          have a1 := Int32.le_iff_toInt_le.mp (Int32.not_lt.mp w1)
          have a2 := Int32.lt_iff_toInt_lt.mp q
          rw [nI_toInt (by decide)] at a1
          have : (0 : Int32).toInt = 0 := rfl
          omega
        obtain ⟨v, hv, rfl⟩ := nI_of2 (M := nI 16) (n := 16) (nI_toInt (by decide)) w0 (Int32.not_lt.mp w2)
        have hv1 : 11 ≤ v := Nat.le_of_not_lt (fun q => w1 (nI_lt q (by decide)))
        rw [vN_nI (by omega)] at hp
        have hr0 := hrf (v - 10) (by omega)
        refine v_iload_n C dX4_status_0 rfl ?_
        first | refine v_if_neN C 9 dX4_status_1 (by omega) (by decide) (fun h1 => ?_) (fun h1 => ?_) | refine v_if_ne C 9 dX4_status_1 (by decide) (fun h1 => ?_) (fun h1 => ?_)
        · refine v_iload_n C dX4_status_9 rfl ?_
          refine v_iconstN 1 C dX4_status_10 ?_
          first | refine v_icmp_neN C 19 dX4_status_11 (by omega) (by omega) (by decide) (fun h11 => ?_) (fun h11 => ?_) | refine v_icmp_ne C 19 dX4_status_11 (by decide) (fun h11 => ?_) (fun h11 => ?_)
          · refine v_iload_n C dX4_status_19 rfl ?_
            refine v_bipushN 11 (by decide) C dX4_status_20 ?_
            first | refine v_icmp_ltN C 41 dX4_status_22 (by omega) (by omega) (by decide) (fun h22 => ?_) (fun h22 => ?_) | refine v_icmp_lt C 41 dX4_status_22 (by decide) (fun h22 => ?_) (fun h22 => ?_)
            · exact absurd h22 (by omega)
            · refine v_iload_n C dX4_status_25 rfl ?_
              refine v_bipushN 16 (by decide) C dX4_status_26 ?_
              first | refine v_icmp_gtN C 41 dX4_status_28 (by omega) (by omega) (by decide) (fun h28 => ?_) (fun h28 => ?_) | refine v_icmp_gt C 41 dX4_status_28 (by decide) (fun h28 => ?_) (fun h28 => ?_)
              · exact absurd h28 (by omega)
              · refine v_aload_n C dX4_status_31 rfl ?_
                refine g_4_5 C (by assumption) (by assumption) wt_99 dX4_status_32 ?_
                refine v_iload_n C dX4_status_35 rfl ?_
                refine v_bipushN 10 (by decide) C dX4_status_36 ?_
                first | refine v_isubN C dX4_status_38 (by omega) ?_ | refine v_isub C dX4_status_38 ?_
                first | refine v_ialdN C (by assumption) (by omega) (by omega) dX4_status_39 ?_ | refine v_iald C (by assumption) (by assumption) dX4_status_39 ?_
                rw [hr0]
                refine v_iret C Q dX4_status_40 (Nat.le_of_ble_eq_true rfl) (Nat.le_of_ble_eq_true rfl) ?_
                have w := Cq_same hR0 hp
                exact w
          · exact absurd h11 (by omega)
        · exact absurd h1 (by omega)
