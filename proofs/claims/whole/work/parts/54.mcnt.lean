def s_X5_count : Sp := fun av z S I J R Post => ∃ (M : Nat), ∃ (st : St), ∃ (s : Int32), av = [.ref M, .int s] ∧ (MoS S R M) ∧ (Rm M st I) ∧ (Ok st) ∧ (Mq M (o_count st s).2 I J (fun I' J' => Post (o_count st s).1 0 none z S I' J' R))
theorem c_X5_count {M : Nat} {st : St} {s : Int32} {z : Nat} {S : MS} {I : MI} {J : MJ} {R : MR} {Post : PT} (hM : MoS S R M) (hR : Rm M st I) (hO : Ok st) (hp : Mq M (o_count st s).2 I J (fun I' J' => Post (o_count st s).1 0 none z S I' J' R)) : s_X5_count [.ref M, .int s] z S I J R Post := ⟨M, st, s, rfl, hM, hR, hO, hp⟩
set_option maxRecDepth 100000 in
set_option maxHeartbeats 1000000 in
theorem m_X5_count (T : TC) (B : Nat) : Mt T B yX5_count cX5_count 7 (some .int) 1 (rmL 3 0 0) s_X5_count := by
  refine Mt_of rfl (by rintro _ _ _ _ _ _ _ ⟨_, _, _, rfl, -⟩; exact Nat.le_of_ble_eq_true rfl) ?_
  intro X av z S I J R Post h C Q hI
  obtain ⟨M, st, s, rfl, hM, hR, hO, hp⟩ := h
  have hn12 := hO.1
  obtain ⟨hn, htl, hms, htr, hrf⟩ := id hR
  obtain ⟨hS0, hr1, hr2, hr3, hr4, hr5, hr6, hr7, hr8, hr9, hr10, hr11, hr12, hr14, hr15, hr16, hr17, hr18, hr19, hr20, hs1, hs2, hs3, hs4, hs5, hs6, hs7, hs8, hs9, hs10, hs11, hs12, hs13, hs14, hs15, hs16, hs17, hs18, hs19⟩ := id hM
  unfold o_count at hp
  rcases Oo_or s st.1 (by omega) with ho | ⟨k, hk, rfl⟩
  · rw [onS_o ho] at hp
    refine v_aload_n C dX5_count_0 rfl ?_
    refine v_iload_n C dX5_count_1 rfl ?_
    refine v_callV1_1 C (m_X5_isScatter T B) lk_X5_80 ⟨wt_624, ws_22⟩ 5 rfl dX5_count_2 ⟨Nat.le_of_ble_eq_true rfl, Nat.le_of_ble_eq_true rfl⟩ (Nat.le_of_ble_eq_true rfl) ⟨Nat.le_of_ble_eq_true rfl, Nat.le_of_ble_eq_true rfl⟩ (by assumption) (cTo_5 (by assumption)) ?_
    refine c_isS_o hM hn hn12 ho ?_
    first | refine v_if_neN C 14 dX5_count_5 (by omega) (by decide) (fun h5 => ?_) (fun h5 => ?_) | refine v_if_ne C 14 dX5_count_5 (by decide) (fun h5 => ?_) (fun h5 => ?_)
    · exact absurd h5 (by decide)
    · refine v_aload_n C dX5_count_8 rfl ?_
      refine v_iconst (v := -1) C dX5_count_9 (by decide) ?_
      refine v_callV1_1 C (m_X5_refuse T B) lk_X5_88 ⟨wt_608, ws_19⟩ 5 rfl dX5_count_10 ⟨Nat.le_of_ble_eq_true rfl, Nat.le_of_ble_eq_true rfl⟩ (Nat.le_of_ble_eq_true rfl) ⟨Nat.le_of_ble_eq_true rfl, Nat.le_of_ble_eq_true rfl⟩ (by assumption) (cTo_5 (by assumption)) ?_
      refine c_X5_refuse (k := 1) hM (by decide) (by decide) ?_
      refine v_iret C Q dX5_count_13 (Nat.le_of_ble_eq_true rfl) (Nat.le_of_ble_eq_true rfl) ?_
      have w := Mq_rf (k := 1) hR (by decide) hp
      exact w
  · have hMs := hms k (by omega)
    have hMs0 := hMs
    obtain ⟨hk1, hk2, hk3, hk4, hk5, hk6, hk7, hk8, hk9⟩ := hMs
    have hOk := hO.2.1 k hk
    obtain ⟨o1, o2, o3, o4, o5, o6, o7, o8, o9, o10, o11, o12⟩ := id hOk
    rw [onS_k hk (by omega)] at hp
    have hcl : ∀ n, cntW (st.2.1 k) st.2.2 n ≤ n * 1 := fun n => sumN_le (fun i _ => by have := b2_lt (allB (bxW (st.2.1 k) st.2.2 i) (st.2.1 k 2 0)); omega)
    have inner : ∀ n : Nat, n < st.2.1 k 4 0 → ∀ j : Nat, j ≤ st.2.1 k 2 0 → V X 0 0 z S I J R 18 [some (.ref M), some (.int (nI k)), some (.int (nI (cntW (st.2.1 k) st.2.2 (n + 1)))), some (.int (nI (n + 1))), none, none, none] [] → V X 0 0 z S I J R 34 [some (.ref M), some (.int (nI k)), some (.int (nI (cntW (st.2.1 k) st.2.2 n))), some (.int (nI n)), some (.int (nI (b2 (allB (bxW (st.2.1 k) st.2.2 n) j)))), some (.int (nI j)), none] [] := by
      intro n hn2
      refine lp_up (st.2.1 k 2 0) ?_
      intro j hj ih K
      have hcn := hcl n
      have nx : j < st.2.1 k 2 0 → ∀ g : Bool, g = (allB (bxW (st.2.1 k) st.2.2 n) j && bxW (st.2.1 k) st.2.2 n j) → V X 0 0 z S I J R 89 [some (.ref M), some (.int (nI k)), some (.int (nI (cntW (st.2.1 k) st.2.2 n))), some (.int (nI n)), none, some (.int (nI j)), none] [.int (nI (b2 g))] := by
        intro hlt g hg
        have hh := ih hlt K
        rw [show allB (bxW (st.2.1 k) st.2.2 n) (j + 1) = g from hg.symm] at hh
        refine v_istore C dX5_count_89 (by decide) ?_
        first | refine v_iincN 1 C dX5_count_91 rfl (by decide) ?_ | refine v_iinc C dX5_count_91 rfl rfl (by decide) ?_
        refine v_goto C 34 dX5_count_94 (by decide) ?_
        exact v_less hh (by repeat (first | exact trivial | refine And.intro rfl ?_))
      have e2 : cntW (st.2.1 k) st.2.2 (n + 1) = cntW (st.2.1 k) st.2.2 n + b2 (allB (bxW (st.2.1 k) st.2.2 n) (st.2.1 k 2 0)) := rfl
      refine v_iload C dX5_count_34 rfl ?_
      refine v_aload_n C dX5_count_36 rfl ?_
      refine g_5_2 C (by assumption) (by assumption) wt_535 dX5_count_37 ?_
      refine v_iload_n C dX5_count_40 rfl ?_
      first | refine v_ialdN C (by assumption) (by omega) (by omega) dX5_count_41 ?_ | refine v_iald C (by assumption) (by assumption) dX5_count_41 ?_
      rw [hk2]
      first | refine v_icmp_geN C 97 dX5_count_42 (by omega) (by omega) (by decide) (fun h42 => ?_) (fun h42 => ?_) | refine v_icmp_ge C 97 dX5_count_42 (by decide) (fun h42 => ?_) (fun h42 => ?_)
      · refine v_iload_n C dX5_count_97 rfl ?_
        refine v_iload C dX5_count_98 rfl ?_
        refine v_if_eq C 107 dX5_count_100 (by decide) (fun h100 => ?_) (fun h100 => ?_)
        · obtain rfl : j = st.2.1 k 2 0 := by omega
          have hg : allB (bxW (st.2.1 k) st.2.2 n) (st.2.1 k 2 0) = false := by
            cases hq : allB (bxW (st.2.1 k) st.2.2 n) (st.2.1 k 2 0) with
            | false => rfl
            | true => rw [hq] at h100; exact absurd h100 (by decide)
          rw [e2, hg] at K
          refine v_iconstN 0 C dX5_count_107 ?_
          first | refine v_iaddN C dX5_count_108 ?_ | refine v_iadd C dX5_count_108 ?_
          refine v_istore_n C dX5_count_109 (by decide) ?_
          first | refine v_iincN 1 C dX5_count_110 rfl (by decide) ?_ | refine v_iinc C dX5_count_110 rfl rfl (by decide) ?_
          refine v_goto C 18 dX5_count_113 (by decide) ?_
          exact v_less K (by repeat (first | exact trivial | refine And.intro rfl ?_))
        · obtain rfl : j = st.2.1 k 2 0 := by omega
          have hg : allB (bxW (st.2.1 k) st.2.2 n) (st.2.1 k 2 0) = true := by
            cases hq : allB (bxW (st.2.1 k) st.2.2 n) (st.2.1 k 2 0) with
            | true => rfl
            | false => rw [hq] at h100; exact absurd rfl h100
          rw [e2, hg] at K
          refine v_iconstN 1 C dX5_count_103 ?_
          refine v_goto C 108 dX5_count_104 (by decide) ?_
          first | refine v_iaddN C dX5_count_108 ?_ | refine v_iadd C dX5_count_108 ?_
          refine v_istore_n C dX5_count_109 (by decide) ?_
          first | refine v_iincN 1 C dX5_count_110 rfl (by decide) ?_ | refine v_iinc C dX5_count_110 rfl rfl (by decide) ?_
          refine v_goto C 18 dX5_count_113 (by decide) ?_
          exact v_less K (by repeat (first | exact trivial | refine And.intro rfl ?_))
      · refine v_aload_n C dX5_count_45 rfl ?_
        refine v_iload_n C dX5_count_46 rfl ?_
        refine v_iload_n C dX5_count_47 rfl ?_
        refine v_iload C dX5_count_48 rfl ?_
        refine v_callV3_1 C (m_X5_partOf T B) lk_X5_109 ⟨wt_670, ws_23⟩ 5 rfl dX5_count_50 ⟨Nat.le_of_ble_eq_true rfl, Nat.le_of_ble_eq_true rfl⟩ (Nat.le_of_ble_eq_true rfl) ⟨Nat.le_of_ble_eq_true rfl, Nat.le_of_ble_eq_true rfl⟩ (by assumption) (cTo_5 (by assumption)) ?_
        refine c_X5_partOf hM hMs0 (by omega) hOk hn2 (by omega) ?_
        refine v_istore C dX5_count_53 (by decide) ?_
        refine v_iload C dX5_count_55 rfl ?_
        refine v_if_eq C 88 dX5_count_57 (by decide) (fun h57 => ?_) (fun h57 => ?_)
        · have hg : allB (bxW (st.2.1 k) st.2.2 n) j = false := by
            cases hq : allB (bxW (st.2.1 k) st.2.2 n) j with
            | false => rfl
            | true => rw [hq] at h57; exact absurd h57 (by decide)
          refine v_iconstN 0 C dX5_count_88 ?_
          first
          | exact v_less (nx (by omega) false (by rw [hg]; rfl)) (by repeat (first | exact trivial | refine And.intro rfl ?_))
          | exact v_less (nx (by omega) false (by rw [hg]; unfold bxW; rw [decide_eq_true h69]; rfl)) (by repeat (first | exact trivial | refine And.intro rfl ?_))
          | exact v_less (nx (by omega) false (by rw [hg]; unfold bxW; rw [decide_eq_false (Int32.not_lt.mpr h81), Bool.and_false]; rfl)) (by repeat (first | exact trivial | refine And.intro rfl ?_))
          | exact v_less (nx (by omega) true (by rw [hg]; unfold bxW; rw [decide_eq_false h69, decide_eq_true (Int32.not_le.mp h81)]; rfl)) (by repeat (first | exact trivial | refine And.intro rfl ?_))
        · have hg : allB (bxW (st.2.1 k) st.2.2 n) j = true := by
            cases hq : allB (bxW (st.2.1 k) st.2.2 n) j with
            | true => rfl
            | false => rw [hq] at h57; exact absurd rfl h57
          refine v_iload C dX5_count_60 rfl ?_
          refine v_aload_n C dX5_count_62 rfl ?_
          refine g_5_10 C (by assumption) (by assumption) wt_543 dX5_count_63 ?_
          refine v_iload C dX5_count_66 rfl ?_
          first | refine v_ialdN C (by assumption) (by omega) (by omega) dX5_count_68 ?_ | refine v_iald C (by assumption) (by assumption) dX5_count_68 ?_
          rw [(htr j (by omega)).1]
          refine v_icmp_lt C 88 dX5_count_69 (by decide) (fun h69 => ?_) (fun h69 => ?_)
          · refine v_iconstN 0 C dX5_count_88 ?_
            first
            | exact v_less (nx (by omega) false (by rw [hg]; rfl)) (by repeat (first | exact trivial | refine And.intro rfl ?_))
            | exact v_less (nx (by omega) false (by rw [hg]; unfold bxW; rw [decide_eq_true h69]; rfl)) (by repeat (first | exact trivial | refine And.intro rfl ?_))
            | exact v_less (nx (by omega) false (by rw [hg]; unfold bxW; rw [decide_eq_false (Int32.not_lt.mpr h81), Bool.and_false]; rfl)) (by repeat (first | exact trivial | refine And.intro rfl ?_))
            | exact v_less (nx (by omega) true (by rw [hg]; unfold bxW; rw [decide_eq_false h69, decide_eq_true (Int32.not_le.mp h81)]; rfl)) (by repeat (first | exact trivial | refine And.intro rfl ?_))
          · refine v_iload C dX5_count_72 rfl ?_
            refine v_aload_n C dX5_count_74 rfl ?_
            refine g_5_11 C (by assumption) (by assumption) wt_544 dX5_count_75 ?_
            refine v_iload C dX5_count_78 rfl ?_
            first | refine v_ialdN C (by assumption) (by omega) (by omega) dX5_count_80 ?_ | refine v_iald C (by assumption) (by assumption) dX5_count_80 ?_
            rw [(htr j (by omega)).2.1]
            refine v_icmp_ge C 88 dX5_count_81 (by decide) (fun h81 => ?_) (fun h81 => ?_)
            · refine v_iconstN 0 C dX5_count_88 ?_
              first
              | exact v_less (nx (by omega) false (by rw [hg]; rfl)) (by repeat (first | exact trivial | refine And.intro rfl ?_))
              | exact v_less (nx (by omega) false (by rw [hg]; unfold bxW; rw [decide_eq_true h69]; rfl)) (by repeat (first | exact trivial | refine And.intro rfl ?_))
              | exact v_less (nx (by omega) false (by rw [hg]; unfold bxW; rw [decide_eq_false (Int32.not_lt.mpr h81), Bool.and_false]; rfl)) (by repeat (first | exact trivial | refine And.intro rfl ?_))
              | exact v_less (nx (by omega) true (by rw [hg]; unfold bxW; rw [decide_eq_false h69, decide_eq_true (Int32.not_le.mp h81)]; rfl)) (by repeat (first | exact trivial | refine And.intro rfl ?_))
            · refine v_iconstN 1 C dX5_count_84 ?_
              refine v_goto C 89 dX5_count_85 (by decide) ?_
              first
              | exact v_less (nx (by omega) false (by rw [hg]; rfl)) (by repeat (first | exact trivial | refine And.intro rfl ?_))
              | exact v_less (nx (by omega) false (by rw [hg]; unfold bxW; rw [decide_eq_true h69]; rfl)) (by repeat (first | exact trivial | refine And.intro rfl ?_))
              | exact v_less (nx (by omega) false (by rw [hg]; unfold bxW; rw [decide_eq_false (Int32.not_lt.mpr h81), Bool.and_false]; rfl)) (by repeat (first | exact trivial | refine And.intro rfl ?_))
              | exact v_less (nx (by omega) true (by rw [hg]; unfold bxW; rw [decide_eq_false h69, decide_eq_true (Int32.not_le.mp h81)]; rfl)) (by repeat (first | exact trivial | refine And.intro rfl ?_))
    have loop : ∀ n : Nat, n ≤ st.2.1 k 4 0 → V X 0 0 z S I J R 18 [some (.ref M), some (.int (nI k)), some (.int (nI (cntW (st.2.1 k) st.2.2 n))), some (.int (nI n)), none, none, none] [] := by
      refine lp_up (st.2.1 k 4 0) ?_
      intro n hn2 ih
      refine v_iload_n C dX5_count_18 rfl ?_
      refine v_aload_n C dX5_count_19 rfl ?_
      refine g_5_4 C (by assumption) (by assumption) wt_537 dX5_count_20 ?_
      refine v_iload_n C dX5_count_23 rfl ?_
      first | refine v_ialdN C (by assumption) (by omega) (by omega) dX5_count_24 ?_ | refine v_iald C (by assumption) (by assumption) dX5_count_24 ?_
      rw [hk4]
      first | refine v_icmp_geN C 116 dX5_count_25 (by omega) (by omega) (by decide) (fun h25 => ?_) (fun h25 => ?_) | refine v_icmp_ge C 116 dX5_count_25 (by decide) (fun h25 => ?_) (fun h25 => ?_)
      · refine v_iload_n C dX5_count_116 rfl ?_
        refine v_iret C Q dX5_count_117 (Nat.le_of_ble_eq_true rfl) (Nat.le_of_ble_eq_true rfl) ?_
        obtain rfl : n = st.2.1 k 4 0 := by omega
        have w := Mq_same hR hp
        exact w
      · refine v_iconstN 1 C dX5_count_28 ?_
        refine v_istore C dX5_count_29 (by decide) ?_
        refine v_iconstN 0 C dX5_count_31 ?_
        refine v_istore C dX5_count_32 (by decide) ?_
        exact v_less (inner n h25 0 (Nat.zero_le _) (ih h25)) (by repeat (first | exact trivial | refine And.intro rfl ?_))
    refine v_aload_n C dX5_count_0 rfl ?_
    refine v_iload_n C dX5_count_1 rfl ?_
    refine v_callV1_1 C (m_X5_isScatter T B) lk_X5_80 ⟨wt_624, ws_22⟩ 5 rfl dX5_count_2 ⟨Nat.le_of_ble_eq_true rfl, Nat.le_of_ble_eq_true rfl⟩ (Nat.le_of_ble_eq_true rfl) ⟨Nat.le_of_ble_eq_true rfl, Nat.le_of_ble_eq_true rfl⟩ (by assumption) (cTo_5 (by assumption)) ?_
    refine c_isS_k hM hn hn12 hk ?_
    first | refine v_if_neN C 14 dX5_count_5 (by omega) (by decide) (fun h5 => ?_) (fun h5 => ?_) | refine v_if_ne C 14 dX5_count_5 (by decide) (fun h5 => ?_) (fun h5 => ?_)
    · refine v_iconstN 0 C dX5_count_14 ?_
      refine v_istore_n C dX5_count_15 (by decide) ?_
      refine v_iconstN 0 C dX5_count_16 ?_
      refine v_istore_n C dX5_count_17 (by decide) ?_
      exact v_less (loop 0 (Nat.zero_le _)) (by repeat (first | exact trivial | refine And.intro rfl ?_))
    · exact absurd h5 (by decide)
def s_X5_back : Sp := fun av z S I J R Post => ∃ (M : Nat), ∃ (st : St), ∃ (s : Int32), av = [.ref M, .int s] ∧ (MoS S R M) ∧ (Rm M st I) ∧ (Ok st) ∧ (Mq M (o_back st s).2 I J (fun I' J' => Post (o_back st s).1 0 none z S I' J' R))
theorem c_X5_back {M : Nat} {st : St} {s : Int32} {z : Nat} {S : MS} {I : MI} {J : MJ} {R : MR} {Post : PT} (hM : MoS S R M) (hR : Rm M st I) (hO : Ok st) (hp : Mq M (o_back st s).2 I J (fun I' J' => Post (o_back st s).1 0 none z S I' J' R)) : s_X5_back [.ref M, .int s] z S I J R Post := ⟨M, st, s, rfl, hM, hR, hO, hp⟩
set_option maxRecDepth 100000 in
set_option maxHeartbeats 1000000 in
theorem m_X5_back (T : TC) (B : Nat) : Mt T B yX5_back cX5_back 5 (some .int) 1 (rmL 3 0 0) s_X5_back := by
  refine Mt_of rfl (by rintro _ _ _ _ _ _ _ ⟨_, _, _, rfl, -⟩; exact Nat.le_of_ble_eq_true rfl) ?_
  intro X av z S I J R Post h C Q hI
  obtain ⟨M, st, s, rfl, hM, hR, hO, hp⟩ := h
  have hn12 := hO.1
  obtain ⟨hn, htl, hms, htr, hrf⟩ := id hR
  obtain ⟨hS0, hr1, hr2, hr3, hr4, hr5, hr6, hr7, hr8, hr9, hr10, hr11, hr12, hr14, hr15, hr16, hr17, hr18, hr19, hr20, hs1, hs2, hs3, hs4, hs5, hs6, hs7, hs8, hs9, hs10, hs11, hs12, hs13, hs14, hs15, hs16, hs17, hs18, hs19⟩ := id hM
  unfold o_back at hp
  rcases Oo_or s st.1 (by omega) with ho | ⟨k, hk, rfl⟩
  · rw [onS_o ho] at hp
    refine v_aload_n C dX5_back_0 rfl ?_
    refine v_iload_n C dX5_back_1 rfl ?_
    refine v_callV1_1 C (m_X5_isScatter T B) lk_X5_80 ⟨wt_624, ws_22⟩ 5 rfl dX5_back_2 ⟨Nat.le_of_ble_eq_true rfl, Nat.le_of_ble_eq_true rfl⟩ (Nat.le_of_ble_eq_true rfl) ⟨Nat.le_of_ble_eq_true rfl, Nat.le_of_ble_eq_true rfl⟩ (by assumption) (cTo_5 (by assumption)) ?_
    refine c_isS_o hM hn hn12 ho ?_
    first | refine v_if_neN C 14 dX5_back_5 (by omega) (by decide) (fun h5 => ?_) (fun h5 => ?_) | refine v_if_ne C 14 dX5_back_5 (by decide) (fun h5 => ?_) (fun h5 => ?_)
    · exact absurd h5 (by decide)
    · refine v_aload_n C dX5_back_8 rfl ?_
      refine v_iconst (v := -1) C dX5_back_9 (by decide) ?_
      refine v_callV1_1 C (m_X5_refuse T B) lk_X5_88 ⟨wt_608, ws_19⟩ 5 rfl dX5_back_10 ⟨Nat.le_of_ble_eq_true rfl, Nat.le_of_ble_eq_true rfl⟩ (Nat.le_of_ble_eq_true rfl) ⟨Nat.le_of_ble_eq_true rfl, Nat.le_of_ble_eq_true rfl⟩ (by assumption) (cTo_5 (by assumption)) ?_
      refine c_X5_refuse (k := 1) hM (by decide) (by decide) ?_
      refine v_iret C Q dX5_back_13 (Nat.le_of_ble_eq_true rfl) (Nat.le_of_ble_eq_true rfl) ?_
      have w := Mq_rf (k := 1) hR (by decide) hp
      exact w
  · have hMs := hms k (by omega)
    have hMs0 := hMs
    obtain ⟨hk1, hk2, hk3, hk4, hk5, hk6, hk7, hk8, hk9⟩ := hMs
    have hOk := hO.2.1 k hk
    obtain ⟨o1, o2, o3, o4, o5, o6, o7, o8, o9, o10, o11, o12⟩ := id hOk
    rw [onS_k hk (by omega)] at hp
    have inner : ∀ n : Nat, n < st.2.1 k 4 0 → ∀ j : Nat, j ≤ st.2.1 k 2 0 → (allB (mkW (st.2.1 k) st.2.2 n) (st.2.1 k 2 0) = true → Post (nI n) 0 none z S I J R) → (allB (mkW (st.2.1 k) st.2.2 n) (st.2.1 k 2 0) = false → V X 0 0 z S I J R 16 [some (.ref M), some (.int (nI k)), some (.int (nI (n + 1))), none, none] []) → V X 0 0 z S I J R 31 [some (.ref M), some (.int (nI k)), some (.int (nI n)), some (.int (nI (b2 (allB (mkW (st.2.1 k) st.2.2 n) j)))), some (.int (nI j))] [] := by
      intro n hn2
      refine lp_up (st.2.1 k 2 0) ?_
      intro j hj ih K1 K2
      have nx : j < st.2.1 k 2 0 → ∀ g : Bool, g = (allB (mkW (st.2.1 k) st.2.2 n) j && mkW (st.2.1 k) st.2.2 n j) → V X 0 0 z S I J R 69 [some (.ref M), some (.int (nI k)), some (.int (nI n)), none, some (.int (nI j))] [.int (nI (b2 g))] := by
        intro hlt g hg
        have hh := ih hlt K1 K2
        rw [show allB (mkW (st.2.1 k) st.2.2 n) (j + 1) = g from hg.symm] at hh
        refine v_istore_n C dX5_back_69 (by decide) ?_
        first | refine v_iincN 1 C dX5_back_70 rfl (by decide) ?_ | refine v_iinc C dX5_back_70 rfl rfl (by decide) ?_
        refine v_goto C 31 dX5_back_73 (by decide) ?_
        exact v_less hh (by repeat (first | exact trivial | refine And.intro rfl ?_))
      refine v_iload C dX5_back_31 rfl ?_
      refine v_aload_n C dX5_back_33 rfl ?_
      refine g_5_2 C (by assumption) (by assumption) wt_535 dX5_back_34 ?_
      refine v_iload_n C dX5_back_37 rfl ?_
      first | refine v_ialdN C (by assumption) (by omega) (by omega) dX5_back_38 ?_ | refine v_iald C (by assumption) (by assumption) dX5_back_38 ?_
      rw [hk2]
      first | refine v_icmp_geN C 76 dX5_back_39 (by omega) (by omega) (by decide) (fun h39 => ?_) (fun h39 => ?_) | refine v_icmp_ge C 76 dX5_back_39 (by decide) (fun h39 => ?_) (fun h39 => ?_)
      · refine v_iload_n C dX5_back_76 rfl ?_
        refine v_if_eq C 82 dX5_back_77 (by decide) (fun h77 => ?_) (fun h77 => ?_)
        · obtain rfl : j = st.2.1 k 2 0 := by omega
          have hg : allB (mkW (st.2.1 k) st.2.2 n) (st.2.1 k 2 0) = false := by
            cases hq : allB (mkW (st.2.1 k) st.2.2 n) (st.2.1 k 2 0) with
            | false => rfl
            | true => rw [hq] at h77; exact absurd h77 (by decide)
          first | refine v_iincN 1 C dX5_back_82 rfl (by decide) ?_ | refine v_iinc C dX5_back_82 rfl rfl (by decide) ?_
          refine v_goto C 16 dX5_back_85 (by decide) ?_
          exact v_less (K2 hg) (by repeat (first | exact trivial | refine And.intro rfl ?_))
        · obtain rfl : j = st.2.1 k 2 0 := by omega
          have hg : allB (mkW (st.2.1 k) st.2.2 n) (st.2.1 k 2 0) = true := by
            cases hq : allB (mkW (st.2.1 k) st.2.2 n) (st.2.1 k 2 0) with
            | true => rfl
            | false => rw [hq] at h77; exact absurd rfl h77
          refine v_iload_n C dX5_back_80 rfl ?_
          refine v_iret C Q dX5_back_81 (Nat.le_of_ble_eq_true rfl) (Nat.le_of_ble_eq_true rfl) ?_
          exact K1 hg
      · refine v_iload_n C dX5_back_42 rfl ?_
        refine v_if_eq C 68 dX5_back_43 (by decide) (fun h43 => ?_) (fun h43 => ?_)
        · have hg : allB (mkW (st.2.1 k) st.2.2 n) j = false := by
            cases hq : allB (mkW (st.2.1 k) st.2.2 n) j with
            | false => rfl
            | true => rw [hq] at h43; exact absurd h43 (by decide)
          refine v_iconstN 0 C dX5_back_68 ?_
          first
          | exact v_less (nx (by omega) false (by rw [hg]; rfl)) (by repeat (first | exact trivial | refine And.intro rfl ?_))
          | exact v_less (nx (by omega) false (by rw [hg]; unfold mkW; rw [decide_eq_false h61]; rfl)) (by repeat (first | exact trivial | refine And.intro rfl ?_))
          | exact v_less (nx (by omega) true (by rw [hg]; unfold mkW; rw [decide_eq_true h61]; rfl)) (by repeat (first | exact trivial | refine And.intro rfl ?_))
        · have hg : allB (mkW (st.2.1 k) st.2.2 n) j = true := by
            cases hq : allB (mkW (st.2.1 k) st.2.2 n) j with
            | true => rfl
            | false => rw [hq] at h43; exact absurd rfl h43
          refine v_aload_n C dX5_back_46 rfl ?_
          refine v_iload_n C dX5_back_47 rfl ?_
          refine v_iload_n C dX5_back_48 rfl ?_
          refine v_iload C dX5_back_49 rfl ?_
          refine v_callV3_1 C (m_X5_partOf T B) lk_X5_109 ⟨wt_670, ws_23⟩ 5 rfl dX5_back_51 ⟨Nat.le_of_ble_eq_true rfl, Nat.le_of_ble_eq_true rfl⟩ (Nat.le_of_ble_eq_true rfl) ⟨Nat.le_of_ble_eq_true rfl, Nat.le_of_ble_eq_true rfl⟩ (by assumption) (cTo_5 (by assumption)) ?_
          refine c_X5_partOf hM hMs0 (by omega) hOk hn2 (by omega) ?_
          refine v_aload_n C dX5_back_54 rfl ?_
          refine g_5_12 C (by assumption) (by assumption) wt_545 dX5_back_55 ?_
          refine v_iload C dX5_back_58 rfl ?_
          first | refine v_ialdN C (by assumption) (by omega) (by omega) dX5_back_60 ?_ | refine v_iald C (by assumption) (by assumption) dX5_back_60 ?_
          rw [(htr j (by omega)).2.2]
          refine v_icmp_ne C 68 dX5_back_61 (by decide) (fun h61 => ?_) (fun h61 => ?_)
          · refine v_iconstN 0 C dX5_back_68 ?_
            first
            | exact v_less (nx (by omega) false (by rw [hg]; rfl)) (by repeat (first | exact trivial | refine And.intro rfl ?_))
            | exact v_less (nx (by omega) false (by rw [hg]; unfold mkW; rw [decide_eq_false h61]; rfl)) (by repeat (first | exact trivial | refine And.intro rfl ?_))
            | exact v_less (nx (by omega) true (by rw [hg]; unfold mkW; rw [decide_eq_true h61]; rfl)) (by repeat (first | exact trivial | refine And.intro rfl ?_))
          · refine v_iconstN 1 C dX5_back_64 ?_
            refine v_goto C 69 dX5_back_65 (by decide) ?_
            first
            | exact v_less (nx (by omega) false (by rw [hg]; rfl)) (by repeat (first | exact trivial | refine And.intro rfl ?_))
            | exact v_less (nx (by omega) false (by rw [hg]; unfold mkW; rw [decide_eq_false h61]; rfl)) (by repeat (first | exact trivial | refine And.intro rfl ?_))
            | exact v_less (nx (by omega) true (by rw [hg]; unfold mkW; rw [decide_eq_true h61]; rfl)) (by repeat (first | exact trivial | refine And.intro rfl ?_))
    have loop : ∀ n : Nat, n ≤ st.2.1 k 4 0 → fnd (fun n => allB (mkW (st.2.1 k) st.2.2 n) (st.2.1 k 2 0)) (st.2.1 k 4 0 - n) n = fnd (fun n => allB (mkW (st.2.1 k) st.2.2 n) (st.2.1 k 2 0)) (st.2.1 k 4 0) 0 → V X 0 0 z S I J R 16 [some (.ref M), some (.int (nI k)), some (.int (nI n)), none, none] [] := by
      refine lp_up (st.2.1 k 4 0) ?_
      intro n hn2 ih hf
      refine v_iload_n C dX5_back_16 rfl ?_
      refine v_aload_n C dX5_back_17 rfl ?_
      refine g_5_4 C (by assumption) (by assumption) wt_537 dX5_back_18 ?_
      refine v_iload_n C dX5_back_21 rfl ?_
      first | refine v_ialdN C (by assumption) (by omega) (by omega) dX5_back_22 ?_ | refine v_iald C (by assumption) (by assumption) dX5_back_22 ?_
      rw [hk4]
      first | refine v_icmp_geN C 88 dX5_back_23 (by omega) (by omega) (by decide) (fun h23 => ?_) (fun h23 => ?_) | refine v_icmp_ge C 88 dX5_back_23 (by decide) (fun h23 => ?_) (fun h23 => ?_)
      · refine v_bipush (v := -9) C dX5_back_88 (by decide) ?_
        refine v_iret C Q dX5_back_90 (Nat.le_of_ble_eq_true rfl) (Nat.le_of_ble_eq_true rfl) ?_
        rw [show st.2.1 k 4 0 - n = 0 by omega] at hf
        simp only [fnd] at hf
        rw [← hf] at hp
        have w := Mq_same hR hp
        exact w
      · rw [show st.2.1 k 4 0 - n = (st.2.1 k 4 0 - (n + 1)) + 1 by omega] at hf
        simp only [fnd] at hf
        refine v_iconstN 1 C dX5_back_26 ?_
        refine v_istore_n C dX5_back_27 (by decide) ?_
        refine v_iconstN 0 C dX5_back_28 ?_
        refine v_istore C dX5_back_29 (by decide) ?_
        exact v_less (inner n h23 0 (Nat.zero_le _) (fun hg => by rw [if_pos hg] at hf; rw [← hf] at hp; have w := Mq_same hR hp; exact w) (fun hg => by rw [if_neg (by rw [hg]; decide)] at hf; exact ih h23 hf)) (by repeat (first | exact trivial | refine And.intro rfl ?_))
    refine v_aload_n C dX5_back_0 rfl ?_
    refine v_iload_n C dX5_back_1 rfl ?_
    refine v_callV1_1 C (m_X5_isScatter T B) lk_X5_80 ⟨wt_624, ws_22⟩ 5 rfl dX5_back_2 ⟨Nat.le_of_ble_eq_true rfl, Nat.le_of_ble_eq_true rfl⟩ (Nat.le_of_ble_eq_true rfl) ⟨Nat.le_of_ble_eq_true rfl, Nat.le_of_ble_eq_true rfl⟩ (by assumption) (cTo_5 (by assumption)) ?_
    refine c_isS_k hM hn hn12 hk ?_
    first | refine v_if_neN C 14 dX5_back_5 (by omega) (by decide) (fun h5 => ?_) (fun h5 => ?_) | refine v_if_ne C 14 dX5_back_5 (by decide) (fun h5 => ?_) (fun h5 => ?_)
    · refine v_iconstN 0 C dX5_back_14 ?_
      refine v_istore_n C dX5_back_15 (by decide) ?_
      exact v_less (loop 0 (Nat.zero_le _) rfl) (by repeat (first | exact trivial | refine And.intro rfl ?_))
    · exact absurd h5 (by decide)
