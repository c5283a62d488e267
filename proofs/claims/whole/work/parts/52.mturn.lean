section VEQ
variable {X : CX} {kc ks z : Nat} {S : MS} {I I' : MI} {J : MJ} {R : MR} {pc : Nat} {lv : List (Option Value)} {st : List Value}
theorem v_eqI (h : I = I') (k : V X kc ks z S I' J R pc lv st) : V X kc ks z S I J R pc lv st := by rw [h]; exact k
end VEQ
def s_X5_turned : Sp := fun av z S I J R Post => ∃ (M : Nat), ∃ (st : St), ∃ (s : Int32), av = [.ref M, .int s] ∧ (MoS S R M) ∧ (Rm M st I) ∧ (Ok st) ∧ (Mq M (o_turned st s).2 I J (fun I' J' => Post (o_turned st s).1 0 none z S I' J' R))
theorem c_X5_turned {M : Nat} {st : St} {s : Int32} {z : Nat} {S : MS} {I : MI} {J : MJ} {R : MR} {Post : PT} (hM : MoS S R M) (hR : Rm M st I) (hO : Ok st) (hp : Mq M (o_turned st s).2 I J (fun I' J' => Post (o_turned st s).1 0 none z S I' J' R)) : s_X5_turned [.ref M, .int s] z S I J R Post := ⟨M, st, s, rfl, hM, hR, hO, hp⟩
set_option maxRecDepth 100000 in
set_option maxHeartbeats 2000000 in
theorem m_X5_turned (T : TC) (B : Nat) : Mt T B yX5_turned cX5_turned 4 (some .int) 1 (rmL 3 0 0) s_X5_turned := by
  refine Mt_of rfl (by rintro _ _ _ _ _ _ _ ⟨_, _, _, rfl, -⟩; exact Nat.le_of_ble_eq_true rfl) ?_
  intro X av z S I J R Post h C Q hI
  obtain ⟨M, st, s, rfl, hM, hR, hO, hp⟩ := h
  have hn12 := hO.1
  obtain ⟨hn, htl, hms, htr, hrf⟩ := id hR
  obtain ⟨hS0, hr1, hr2, hr3, hr4, hr5, hr6, hr7, hr8, hr9, hr10, hr11, hr12, hr14, hr15, hr16, hr17, hr18, hr19, hr20, hs1, hs2, hs3, hs4, hs5, hs6, hs7, hs8, hs9, hs10, hs11, hs12, hs13, hs14, hs15, hs16, hs17, hs18, hs19⟩ := id hM
  unfold o_turned at hp
  rcases Oo_or s st.1 (by omega) with ho | ⟨k, hk, rfl⟩
  · rw [onS_o ho] at hp
    refine v_aload_n C dX5_turned_0 rfl ?_
    refine v_iload_n C dX5_turned_1 rfl ?_
    refine v_callV1_1 C (m_X5_isScatter T B) lk_X5_80 ⟨wt_624, ws_22⟩ 5 rfl dX5_turned_2 ⟨Nat.le_of_ble_eq_true rfl, Nat.le_of_ble_eq_true rfl⟩ (Nat.le_of_ble_eq_true rfl) ⟨Nat.le_of_ble_eq_true rfl, Nat.le_of_ble_eq_true rfl⟩ (by assumption) (cTo_5 (by assumption)) ?_
    refine c_isS_o hM hn hn12 ho ?_
    first | refine v_if_neN C 14 dX5_turned_5 (by omega) (by decide) (fun h5 => ?_) (fun h5 => ?_) | refine v_if_ne C 14 dX5_turned_5 (by decide) (fun h5 => ?_) (fun h5 => ?_)
    · exact absurd h5 (by decide)
    · refine v_aload_n C dX5_turned_8 rfl ?_
      refine v_iconst (v := -1) C dX5_turned_9 (by decide) ?_
      refine v_callV1_1 C (m_X5_refuse T B) lk_X5_88 ⟨wt_608, ws_19⟩ 5 rfl dX5_turned_10 ⟨Nat.le_of_ble_eq_true rfl, Nat.le_of_ble_eq_true rfl⟩ (Nat.le_of_ble_eq_true rfl) ⟨Nat.le_of_ble_eq_true rfl, Nat.le_of_ble_eq_true rfl⟩ (by assumption) (cTo_5 (by assumption)) ?_
      refine c_X5_refuse (k := 1) hM (by decide) (by decide) ?_
      refine v_iret C Q dX5_turned_13 (Nat.le_of_ble_eq_true rfl) (Nat.le_of_ble_eq_true rfl) ?_
      have w := Mq_rf (k := 1) hR (by decide) hp
      exact w
  · have hMs := hms k (by omega)
    have hMs0 := hMs
    obtain ⟨hk1, hk2, hk3, hk4, hk5, hk6, hk7, hk8, hk9⟩ := hMs
    have hOk := hO.2.1 k hk
    obtain ⟨o1, o2, o3, o4, o5, o6, o7, o8, o9, o10, o11, o12⟩ := id hOk
    rw [onS_k hk (by omega)] at hp
    by_cases hkd : st.2.1 k 1 0 < 3
    · rw [if_pos hkd] at hp
      have hpw : I (M + 3) k = nI (st.2.1 k 3 0) := by rw [hk3]; unfold pwI; rw [if_neg (by omega)]
      by_cases hm : st.1 < 12
      · rw [if_pos hm] at hp
        generalize hn0 : st.1 = n at *
        have hnew := MsR_new (k := 2) (d := st.2.1 k 2 0) (p := st.2.1 k 3 0) (c := st.2.1 k 4 0) (pw := nI (st.2.1 k 3 0)) (hms n (by omega)) (hO.2.2 n (by omega)) rfl
        generalize hK : mkI I M n (nI 2) (nI (st.2.1 k 2 0)) (nI (st.2.1 k 3 0)) (nI (st.2.1 k 4 0)) = K at hnew
        obtain ⟨n1, n2, n3, n4, n5, n6, n7, n8, n9⟩ := hnew
        have K6 : ∀ r, K (M + 6) r = I (M + 6) r := fun r => by rw [← hK]; exact mkI_o _ _ (by omega)
        have K7 : ∀ r, K (M + 7) r = I (M + 7) r := fun r => by rw [← hK]; exact mkI_o _ _ (by omega)
        have hkn : k ≠ n := by omega
        have lpm : ∀ j : Nat, j ≤ 6 → ∀ I' : MI, (∀ q r, q ≠ M + 6 → q ≠ M + 7 → I' q r = K q r) → (∀ r, ¬ (48 * n ≤ r ∧ r < 48 * n + 48) → I' (M + 6) r = I (M + 6) r) → (∀ t, t < 48 → I' (M + 6) (48 * n + t) = nI (st.2.1 k 6 t)) → (∀ r, ¬ (6 * n ≤ r ∧ r < 6 * n + 6) → I' (M + 7) r = I (M + 7) r) → (∀ t, t < j → I' (M + 7) (6 * n + t) = nI (st.2.1 k 7 t)) → V X 0 0 z S I' J R 119 [some (.ref M), some (.int (nI k)), some (.int (nI n)), some (.int (nI j))] [] := by
          refine lp_up 6 ?_
          intro j hj ih I' hq h6 h6' h7 h7'
          have hs := fun h : j < 6 => (h7 (6 * k + j) (by omega)).trans (hk7 j h)
          refine v_iload_n C dX5_turned_119 rfl ?_
          refine v_bipushN 6 (by decide) C dX5_turned_120 ?_
          first | refine v_icmp_geN C 153 dX5_turned_122 (by omega) (by omega) (by decide) (fun h122 => ?_) (fun h122 => ?_) | refine v_icmp_ge C 153 dX5_turned_122 (by decide) (fun h122 => ?_) (fun h122 => ?_)
          · refine v_iload_n C dX5_turned_153 rfl ?_
            refine v_iret C Q dX5_turned_154 (Nat.le_of_ble_eq_true rfl) (Nat.le_of_ble_eq_true rfl) ?_
            obtain rfl : j = 6 := by omega
            have m := mkI_h (I := I) (M := M) (n := n) (k := nI 2) (d := nI (st.2.1 k 2 0)) (p := nI (st.2.1 k 3 0)) (c := nI (st.2.1 k 4 0))
            rw [hK] at m
            obtain ⟨m0, m13, m1, m2, m3, m4⟩ := m
            have mB := mkI_B (I := I) (M := M) (n := n) (k := nI 2) (d := nI (st.2.1 k 2 0)) (p := nI (st.2.1 k 3 0)) (c := nI (st.2.1 k 4 0))
            have mF := mkI_F (I := I) (M := M) (n := n) (k := nI 2) (d := nI (st.2.1 k 2 0)) (p := nI (st.2.1 k 3 0)) (c := nI (st.2.1 k 4 0))
            rw [hK] at mB mF
            have w := Mq_add (I' := I') (D := trnD (st.2.1 k)) hR (fun q r h => by rw [hq _ _ (by omega) (by omega)]; exact mF q r h) (by rw [hq _ _ (by omega) (by omega), hn0]; exact m0) (by rw [hq _ _ (by omega) (by omega)]; exact m13) (by rw [hn0]; exact ⟨fun g r h1 h2 h3 => by rw [hq _ _ (by omega) (by omega)]; exact mB.1 g r h1 h2 h3, h6, fun g r h1 h2 => by
                rcases h1 with rfl | rfl
                · exact h7 r h2
                · rw [hq _ _ (by omega) (by omega)]; exact mB.2.2.1 8 r (Or.inr rfl) h2, fun r h => by rw [hq _ _ (by omega) (by omega)]; exact mB.2.2.2 r h⟩) (by rw [hn0]; exact ⟨by rw [hq _ _ (by omega) (by omega)]; exact n1, by rw [hq _ _ (by omega) (by omega)]; exact n2, by rw [hq _ _ (by omega) (by omega)]; exact n3, by rw [hq _ _ (by omega) (by omega)]; exact n4, by rw [hq _ _ (by omega) (by omega)]; exact n5, fun t ht => h6' t ht, fun t ht => h7' t ht, fun t ht => by rw [hq _ _ (by omega) (by omega)]; exact n8 t ht, fun t ht => by rw [hq _ _ (by omega) (by omega)]; exact n9 t ht⟩) hp
            exact w
          · refine v_aload_n C dX5_turned_125 rfl ?_
            refine g_5_7 C (by assumption) (by assumption) wt_540 dX5_turned_126 ?_
            refine v_bipushN 6 (by decide) C dX5_turned_129 ?_
            refine v_iload_n C dX5_turned_131 rfl ?_
            first | refine v_imulN C dX5_turned_132 ?_ | refine v_imul C dX5_turned_132 ?_
            refine v_iload_n C dX5_turned_133 rfl ?_
            first | refine v_iaddN C dX5_turned_134 ?_ | refine v_iadd C dX5_turned_134 ?_
            refine v_aload_n C dX5_turned_135 rfl ?_
            refine g_5_7 C (by assumption) (by assumption) wt_540 dX5_turned_136 ?_
            refine v_bipushN 6 (by decide) C dX5_turned_139 ?_
            refine v_iload_n C dX5_turned_141 rfl ?_
            first | refine v_imulN C dX5_turned_142 ?_ | refine v_imul C dX5_turned_142 ?_
            refine v_iload_n C dX5_turned_143 rfl ?_
            first | refine v_iaddN C dX5_turned_144 ?_ | refine v_iadd C dX5_turned_144 ?_
            first | refine v_ialdN C (by assumption) (by omega) (by omega) dX5_turned_145 ?_ | refine v_iald C (by assumption) (by assumption) dX5_turned_145 ?_
            rw [hs h122]
            first | refine v_iastN C (by assumption) (by omega) (by omega) dX5_turned_146 ?_ | refine v_iast C (by assumption) (by assumption) dX5_turned_146 ?_
            first | refine v_iincN 1 C dX5_turned_147 rfl (by decide) ?_ | refine v_iinc C dX5_turned_147 rfl rfl (by decide) ?_
            refine v_goto C 119 dX5_turned_150 (by decide) ?_
            refine v_less (ih h122 _ (fun q r g1 g2 => by rw [mu_ne _ _ g2]; exact hq q r g1 g2) (fun r h => by rw [mu_ne _ _ (by omega)]; exact h6 r h) (fun t ht => by rw [mu_ne _ _ (by omega)]; exact h6' t ht) (fun r h => by rw [mu_other _ _ (by omega)]; exact h7 r h) (fun t ht => ?_)) (by repeat (first | exact trivial | refine And.intro rfl ?_))
            by_cases e : t = j
            · subst e; rw [mu_at]
            · rw [mu_other _ _ (by omega)]; exact h7' t (by omega)
        have lpr : ∀ j : Nat, j ≤ 48 → ∀ I' : MI, (∀ q r, q ≠ M + 6 → I' q r = K q r) → (∀ r, ¬ (48 * n ≤ r ∧ r < 48 * n + 48) → I' (M + 6) r = I (M + 6) r) → (∀ t, t < j → I' (M + 6) (48 * n + t) = nI (st.2.1 k 6 t)) → V X 0 0 z S I' J R 83 [some (.ref M), some (.int (nI k)), some (.int (nI n)), some (.int (nI j))] [] := by
          refine lp_up 48 ?_
          intro j hj ih I' hq h6 h6'
          have hs := fun h : j < 48 => (h6 (48 * k + j) (by omega)).trans (hk6 j h)
          refine v_iload_n C dX5_turned_83 rfl ?_
          refine v_bipushN 48 (by decide) C dX5_turned_84 ?_
          first | refine v_icmp_geN C 117 dX5_turned_86 (by omega) (by omega) (by decide) (fun h86 => ?_) (fun h86 => ?_) | refine v_icmp_ge C 117 dX5_turned_86 (by decide) (fun h86 => ?_) (fun h86 => ?_)
          · refine v_iconstN 0 C dX5_turned_117 ?_
            refine v_istore_n C dX5_turned_118 (by decide) ?_
            obtain rfl : j = 48 := by omega
            exact v_less (lpm 0 (Nat.zero_le _) I' (fun q r g1 _ => hq q r g1) h6 h6' (fun r h => by rw [hq _ _ (by omega)]; exact K7 r) (fun t ht => absurd ht (by omega))) (by repeat (first | exact trivial | refine And.intro rfl ?_))
          · refine v_aload_n C dX5_turned_89 rfl ?_
            refine g_5_6 C (by assumption) (by assumption) wt_539 dX5_turned_90 ?_
            refine v_bipushN 48 (by decide) C dX5_turned_93 ?_
            refine v_iload_n C dX5_turned_95 rfl ?_
            first | refine v_imulN C dX5_turned_96 ?_ | refine v_imul C dX5_turned_96 ?_
            refine v_iload_n C dX5_turned_97 rfl ?_
            first | refine v_iaddN C dX5_turned_98 ?_ | refine v_iadd C dX5_turned_98 ?_
            refine v_aload_n C dX5_turned_99 rfl ?_
            refine g_5_6 C (by assumption) (by assumption) wt_539 dX5_turned_100 ?_
            refine v_bipushN 48 (by decide) C dX5_turned_103 ?_
            refine v_iload_n C dX5_turned_105 rfl ?_
            first | refine v_imulN C dX5_turned_106 ?_ | refine v_imul C dX5_turned_106 ?_
            refine v_iload_n C dX5_turned_107 rfl ?_
            first | refine v_iaddN C dX5_turned_108 ?_ | refine v_iadd C dX5_turned_108 ?_
            first | refine v_ialdN C (by assumption) (by omega) (by omega) dX5_turned_109 ?_ | refine v_iald C (by assumption) (by assumption) dX5_turned_109 ?_
            rw [hs h86]
            first | refine v_iastN C (by assumption) (by omega) (by omega) dX5_turned_110 ?_ | refine v_iast C (by assumption) (by assumption) dX5_turned_110 ?_
            first | refine v_iincN 1 C dX5_turned_111 rfl (by decide) ?_ | refine v_iinc C dX5_turned_111 rfl rfl (by decide) ?_
            refine v_goto C 83 dX5_turned_114 (by decide) ?_
            refine v_less (ih h86 _ (fun q r g1 => by rw [mu_ne _ _ g1]; exact hq q r g1) (fun r h => by rw [mu_other _ _ (by omega)]; exact h6 r h) (fun t ht => ?_)) (by repeat (first | exact trivial | refine And.intro rfl ?_))
            by_cases e : t = j
            · subst e; rw [mu_at]
            · rw [mu_other _ _ (by omega)]; exact h6' t (by omega)
        refine v_aload_n C dX5_turned_0 rfl ?_
        refine v_iload_n C dX5_turned_1 rfl ?_
        refine v_callV1_1 C (m_X5_isScatter T B) lk_X5_80 ⟨wt_624, ws_22⟩ 5 rfl dX5_turned_2 ⟨Nat.le_of_ble_eq_true rfl, Nat.le_of_ble_eq_true rfl⟩ (Nat.le_of_ble_eq_true rfl) ⟨Nat.le_of_ble_eq_true rfl, Nat.le_of_ble_eq_true rfl⟩ (by assumption) (cTo_5 (by assumption)) ?_
        refine c_isS_k hM hn hn12 hk ?_
        first | refine v_if_neN C 14 dX5_turned_5 (by omega) (by decide) (fun h5 => ?_) (fun h5 => ?_) | refine v_if_ne C 14 dX5_turned_5 (by decide) (fun h5 => ?_) (fun h5 => ?_)
        · refine v_aload_n C dX5_turned_14 rfl ?_
          refine g_5_1 C (by assumption) (by assumption) wt_534 dX5_turned_15 ?_
          refine v_iload_n C dX5_turned_18 rfl ?_
          first | refine v_ialdN C (by assumption) (by omega) (by omega) dX5_turned_19 ?_ | refine v_iald C (by assumption) (by assumption) dX5_turned_19 ?_
          rw [hk1]
          refine v_iconstN 3 C dX5_turned_20 ?_
          first | refine v_icmp_eqN C 34 dX5_turned_21 (by omega) (by omega) (by decide) (fun h21 => ?_) (fun h21 => ?_) | refine v_icmp_eq C 34 dX5_turned_21 (by decide) (fun h21 => ?_) (fun h21 => ?_)
          · exact absurd h21 (by omega)
          · refine v_aload_n C dX5_turned_24 rfl ?_
            refine g_5_1 C (by assumption) (by assumption) wt_534 dX5_turned_25 ?_
            refine v_iload_n C dX5_turned_28 rfl ?_
            first | refine v_ialdN C (by assumption) (by omega) (by omega) dX5_turned_29 ?_ | refine v_iald C (by assumption) (by assumption) dX5_turned_29 ?_
            rw [hk1]
            refine v_iconstN 4 C dX5_turned_30 ?_
            first | refine v_icmp_neN C 41 dX5_turned_31 (by omega) (by omega) (by decide) (fun h31 => ?_) (fun h31 => ?_) | refine v_icmp_ne C 41 dX5_turned_31 (by decide) (fun h31 => ?_) (fun h31 => ?_)
            · refine v_aload_n C dX5_turned_41 rfl ?_
              first | refine gv_5_0 C (by assumption) (by assumption) wt_533 dX5_turned_42 ?_ | refine g_5_0 C (by assumption) wt_533 dX5_turned_42 ?_
              refine v_bipushN 12 (by decide) C dX5_turned_45 ?_
              first | refine v_icmp_neN C 57 dX5_turned_47 (by omega) (by omega) (by decide) (fun h47 => ?_) (fun h47 => ?_) | refine v_icmp_ne C 57 dX5_turned_47 (by decide) (fun h47 => ?_) (fun h47 => ?_)
              · refine v_aload_n C dX5_turned_57 rfl ?_
                refine v_iconstN 2 C dX5_turned_58 ?_
                refine v_aload_n C dX5_turned_59 rfl ?_
                refine g_5_2 C (by assumption) (by assumption) wt_535 dX5_turned_60 ?_
                refine v_iload_n C dX5_turned_63 rfl ?_
                first | refine v_ialdN C (by assumption) (by omega) (by omega) dX5_turned_64 ?_ | refine v_iald C (by assumption) (by assumption) dX5_turned_64 ?_
                rw [hk2]
                refine v_aload_n C dX5_turned_65 rfl ?_
                refine g_5_3 C (by assumption) (by assumption) wt_536 dX5_turned_66 ?_
                refine v_iload_n C dX5_turned_69 rfl ?_
                first | refine v_ialdN C (by assumption) (by omega) (by omega) dX5_turned_70 ?_ | refine v_iald C (by assumption) (by assumption) dX5_turned_70 ?_
                rw [hpw]
                refine v_aload_n C dX5_turned_71 rfl ?_
                refine g_5_4 C (by assumption) (by assumption) wt_537 dX5_turned_72 ?_
                refine v_iload_n C dX5_turned_75 rfl ?_
                first | refine v_ialdN C (by assumption) (by omega) (by omega) dX5_turned_76 ?_ | refine v_iald C (by assumption) (by assumption) dX5_turned_76 ?_
                rw [hk4]
                refine v_callV4_1 C (m_X5_make T B) lk_X5_92 ⟨wt_612, ws_20⟩ 5 rfl dX5_turned_77 ⟨Nat.le_of_ble_eq_true rfl, Nat.le_of_ble_eq_true rfl⟩ (Nat.le_of_ble_eq_true rfl) ⟨Nat.le_of_ble_eq_true rfl, Nat.le_of_ble_eq_true rfl⟩ (by assumption) (cTo_5 (by assumption)) ?_
                refine c_X5_make hM hn hm ?_
                refine v_istore_n C dX5_turned_80 (by decide) ?_
                refine v_iconstN 0 C dX5_turned_81 ?_
                refine v_istore_n C dX5_turned_82 (by decide) ?_
                refine v_eqI hK ?_
                exact v_less (lpr 0 (Nat.zero_le _) K (fun _ _ _ => rfl) (fun r h => K6 r) (fun t ht => absurd ht (by omega))) (by repeat (first | exact trivial | refine And.intro rfl ?_))
              · exact absurd h47 (by omega)
            · exact absurd h31 (by omega)
        · exact absurd h5 (by decide)
      · rw [if_neg hm] at hp
        refine v_aload_n C dX5_turned_0 rfl ?_
        refine v_iload_n C dX5_turned_1 rfl ?_
        refine v_callV1_1 C (m_X5_isScatter T B) lk_X5_80 ⟨wt_624, ws_22⟩ 5 rfl dX5_turned_2 ⟨Nat.le_of_ble_eq_true rfl, Nat.le_of_ble_eq_true rfl⟩ (Nat.le_of_ble_eq_true rfl) ⟨Nat.le_of_ble_eq_true rfl, Nat.le_of_ble_eq_true rfl⟩ (by assumption) (cTo_5 (by assumption)) ?_
        refine c_isS_k hM hn hn12 hk ?_
        first | refine v_if_neN C 14 dX5_turned_5 (by omega) (by decide) (fun h5 => ?_) (fun h5 => ?_) | refine v_if_ne C 14 dX5_turned_5 (by decide) (fun h5 => ?_) (fun h5 => ?_)
        · refine v_aload_n C dX5_turned_14 rfl ?_
          refine g_5_1 C (by assumption) (by assumption) wt_534 dX5_turned_15 ?_
          refine v_iload_n C dX5_turned_18 rfl ?_
          first | refine v_ialdN C (by assumption) (by omega) (by omega) dX5_turned_19 ?_ | refine v_iald C (by assumption) (by assumption) dX5_turned_19 ?_
          rw [hk1]
          refine v_iconstN 3 C dX5_turned_20 ?_
          first | refine v_icmp_eqN C 34 dX5_turned_21 (by omega) (by omega) (by decide) (fun h21 => ?_) (fun h21 => ?_) | refine v_icmp_eq C 34 dX5_turned_21 (by decide) (fun h21 => ?_) (fun h21 => ?_)
          · exact absurd h21 (by omega)
          · refine v_aload_n C dX5_turned_24 rfl ?_
            refine g_5_1 C (by assumption) (by assumption) wt_534 dX5_turned_25 ?_
            refine v_iload_n C dX5_turned_28 rfl ?_
            first | refine v_ialdN C (by assumption) (by omega) (by omega) dX5_turned_29 ?_ | refine v_iald C (by assumption) (by assumption) dX5_turned_29 ?_
            rw [hk1]
            refine v_iconstN 4 C dX5_turned_30 ?_
            first | refine v_icmp_neN C 41 dX5_turned_31 (by omega) (by omega) (by decide) (fun h31 => ?_) (fun h31 => ?_) | refine v_icmp_ne C 41 dX5_turned_31 (by decide) (fun h31 => ?_) (fun h31 => ?_)
            · refine v_aload_n C dX5_turned_41 rfl ?_
              first | refine gv_5_0 C (by assumption) (by assumption) wt_533 dX5_turned_42 ?_ | refine g_5_0 C (by assumption) wt_533 dX5_turned_42 ?_
              refine v_bipushN 12 (by decide) C dX5_turned_45 ?_
              first | refine v_icmp_neN C 57 dX5_turned_47 (by omega) (by omega) (by decide) (fun h47 => ?_) (fun h47 => ?_) | refine v_icmp_ne C 57 dX5_turned_47 (by decide) (fun h47 => ?_) (fun h47 => ?_)
              · exact absurd h47 (by omega)
              · refine v_aload_n C dX5_turned_50 rfl ?_
                refine v_bipush (v := -6) C dX5_turned_51 (by decide) ?_
                refine v_callV1_1 C (m_X5_refuse T B) lk_X5_88 ⟨wt_608, ws_19⟩ 5 rfl dX5_turned_53 ⟨Nat.le_of_ble_eq_true rfl, Nat.le_of_ble_eq_true rfl⟩ (Nat.le_of_ble_eq_true rfl) ⟨Nat.le_of_ble_eq_true rfl, Nat.le_of_ble_eq_true rfl⟩ (by assumption) (cTo_5 (by assumption)) ?_
                refine c_X5_refuse (k := 6) hM (by decide) (by decide) ?_
                refine v_iret C Q dX5_turned_56 (Nat.le_of_ble_eq_true rfl) (Nat.le_of_ble_eq_true rfl) ?_
                have w := Mq_rf (k := 6) hR (by decide) hp
                exact w
            · exact absurd h31 (by omega)
        · exact absurd h5 (by decide)
    · rw [if_neg hkd] at hp
      refine v_aload_n C dX5_turned_0 rfl ?_
      refine v_iload_n C dX5_turned_1 rfl ?_
      refine v_callV1_1 C (m_X5_isScatter T B) lk_X5_80 ⟨wt_624, ws_22⟩ 5 rfl dX5_turned_2 ⟨Nat.le_of_ble_eq_true rfl, Nat.le_of_ble_eq_true rfl⟩ (Nat.le_of_ble_eq_true rfl) ⟨Nat.le_of_ble_eq_true rfl, Nat.le_of_ble_eq_true rfl⟩ (by assumption) (cTo_5 (by assumption)) ?_
      refine c_isS_k hM hn hn12 hk ?_
      first | refine v_if_neN C 14 dX5_turned_5 (by omega) (by decide) (fun h5 => ?_) (fun h5 => ?_) | refine v_if_ne C 14 dX5_turned_5 (by decide) (fun h5 => ?_) (fun h5 => ?_)
      · refine v_aload_n C dX5_turned_14 rfl ?_
        refine g_5_1 C (by assumption) (by assumption) wt_534 dX5_turned_15 ?_
        refine v_iload_n C dX5_turned_18 rfl ?_
        first | refine v_ialdN C (by assumption) (by omega) (by omega) dX5_turned_19 ?_ | refine v_iald C (by assumption) (by assumption) dX5_turned_19 ?_
        rw [hk1]
        refine v_iconstN 3 C dX5_turned_20 ?_
        first | refine v_icmp_eqN C 34 dX5_turned_21 (by omega) (by omega) (by decide) (fun h21 => ?_) (fun h21 => ?_) | refine v_icmp_eq C 34 dX5_turned_21 (by decide) (fun h21 => ?_) (fun h21 => ?_)
        · refine v_aload_n C dX5_turned_34 rfl ?_
          refine v_bipush (v := -2) C dX5_turned_35 (by decide) ?_
          refine v_callV1_1 C (m_X5_refuse T B) lk_X5_88 ⟨wt_608, ws_19⟩ 5 rfl dX5_turned_37 ⟨Nat.le_of_ble_eq_true rfl, Nat.le_of_ble_eq_true rfl⟩ (Nat.le_of_ble_eq_true rfl) ⟨Nat.le_of_ble_eq_true rfl, Nat.le_of_ble_eq_true rfl⟩ (by assumption) (cTo_5 (by assumption)) ?_
          refine c_X5_refuse (k := 2) hM (by decide) (by decide) ?_
          refine v_iret C Q dX5_turned_40 (Nat.le_of_ble_eq_true rfl) (Nat.le_of_ble_eq_true rfl) ?_
          have w := Mq_rf (k := 2) hR (by decide) hp
          exact w
        · refine v_aload_n C dX5_turned_24 rfl ?_
          refine g_5_1 C (by assumption) (by assumption) wt_534 dX5_turned_25 ?_
          refine v_iload_n C dX5_turned_28 rfl ?_
          first | refine v_ialdN C (by assumption) (by omega) (by omega) dX5_turned_29 ?_ | refine v_iald C (by assumption) (by assumption) dX5_turned_29 ?_
          rw [hk1]
          refine v_iconstN 4 C dX5_turned_30 ?_
          first | refine v_icmp_neN C 41 dX5_turned_31 (by omega) (by omega) (by decide) (fun h31 => ?_) (fun h31 => ?_) | refine v_icmp_ne C 41 dX5_turned_31 (by decide) (fun h31 => ?_) (fun h31 => ?_)
          · exact absurd h31 (by omega)
          · refine v_aload_n C dX5_turned_34 rfl ?_
            refine v_bipush (v := -2) C dX5_turned_35 (by decide) ?_
            refine v_callV1_1 C (m_X5_refuse T B) lk_X5_88 ⟨wt_608, ws_19⟩ 5 rfl dX5_turned_37 ⟨Nat.le_of_ble_eq_true rfl, Nat.le_of_ble_eq_true rfl⟩ (Nat.le_of_ble_eq_true rfl) ⟨Nat.le_of_ble_eq_true rfl, Nat.le_of_ble_eq_true rfl⟩ (by assumption) (cTo_5 (by assumption)) ?_
            refine c_X5_refuse (k := 2) hM (by decide) (by decide) ?_
            refine v_iret C Q dX5_turned_40 (Nat.le_of_ble_eq_true rfl) (Nat.le_of_ble_eq_true rfl) ?_
            have w := Mq_rf (k := 2) hR (by decide) hp
            exact w
      · exact absurd h5 (by decide)
def s_X5_lots : Sp := fun av z S I J R Post => ∃ (M : Nat), ∃ (st : St), ∃ (d p : Int32), ∃ (v : Int64), av = [.ref M, .int d, .int p, .long v] ∧ (MoS S R M) ∧ (Rm M st I) ∧ (Ok st) ∧ (Mq M (o_lots st d p v).2 I J (fun I' J' => Post (o_lots st d p v).1 0 none z S I' J' R))
theorem c_X5_lots {M : Nat} {st : St} {d p : Int32} {v : Int64} {z : Nat} {S : MS} {I : MI} {J : MJ} {R : MR} {Post : PT} (hM : MoS S R M) (hR : Rm M st I) (hO : Ok st) (hp : Mq M (o_lots st d p v).2 I J (fun I' J' => Post (o_lots st d p v).1 0 none z S I' J' R)) : s_X5_lots [.ref M, .int d, .int p, .long v] z S I J R Post := ⟨M, st, d, p, v, rfl, hM, hR, hO, hp⟩
set_option maxRecDepth 100000 in
set_option maxHeartbeats 2000000 in
theorem m_X5_lots (T : TC) (B : Nat) : Mt T B yX5_lots cX5_lots 11 (some .int) 1 (rmL 2 0 0) s_X5_lots := by
  refine Mt_of rfl (by rintro _ _ _ _ _ _ _ ⟨_, _, _, _, _, rfl, -⟩; exact Nat.le_of_ble_eq_true rfl) ?_
  intro X av z S I J R Post h C Q hI
  obtain ⟨M, st, d, p, v, rfl, hM, hR, hO, hp⟩ := h
  have hn12 := hO.1
  obtain ⟨hn, htl, hms, htr, hrf⟩ := id hR
  obtain ⟨hS0, hr1, hr2, hr3, hr4, hr5, hr6, hr7, hr8, hr9, hr10, hr11, hr12, hr14, hr15, hr16, hr17, hr18, hr19, hr20, hs1, hs2, hs3, hs4, hs5, hs6, hs7, hs8, hs9, hs10, hs11, hs12, hs13, hs14, hs15, hs16, hs17, hs18, hs19⟩ := id hM
  unfold o_lots at hp
  rcases szF_or d p st.1 with hz | hz | ⟨hz, a, b, rfl, rfl, g1, g2, g3, g4⟩
  · rw [mkO_4 hz] at hp
    have hl := la_4 hz
    refine v_iload_n C dX5_lots_0 rfl ?_
    refine v_iload_n C dX5_lots_1 rfl ?_
    refine v_callS2_1 C (m_X5_lacks T B) lk_X5_84 wt_604 dX5_lots_2 ⟨Nat.le_of_ble_eq_true rfl, Nat.le_of_ble_eq_true rfl⟩ (Nat.le_of_ble_eq_true rfl) ⟨Nat.le_of_ble_eq_true rfl, Nat.le_of_ble_eq_true rfl⟩ ?_
    refine c_X5_lacks ?_
    rw [hl]
    refine v_istore C dX5_lots_5 (by decide) ?_
    refine v_iload C dX5_lots_7 rfl ?_
    refine v_if_ne C 25 dX5_lots_9 (by decide) (fun h9 => ?_) (fun h9 => ?_)
    · refine v_iload C dX5_lots_25 rfl ?_
      refine v_if_ge C 37 dX5_lots_27 (by decide) (fun h27 => ?_) (fun h27 => ?_)
      · exact absurd h27 (by decide)
      · refine v_aload_n C dX5_lots_30 rfl ?_
        refine v_iload C dX5_lots_31 rfl ?_
        refine v_callV1_1 C (m_X5_refuse T B) lk_X5_88 ⟨wt_608, ws_19⟩ 5 rfl dX5_lots_33 ⟨Nat.le_of_ble_eq_true rfl, Nat.le_of_ble_eq_true rfl⟩ (Nat.le_of_ble_eq_true rfl) ⟨Nat.le_of_ble_eq_true rfl, Nat.le_of_ble_eq_true rfl⟩ (by assumption) (cTo_5 (by assumption)) ?_
        refine c_X5_refuse (k := 4) hM (by decide) (by decide) ?_
        refine v_iret C Q dX5_lots_36 (Nat.le_of_ble_eq_true rfl) (Nat.le_of_ble_eq_true rfl) ?_
        have w := Mq_rf (k := 4) hR (by decide) hp
        exact w
    · exact absurd h9 (by decide)
  · rw [mkO_6 hz] at hp
    rcases la_6 hz with hl | ⟨hl, h12⟩
    · refine v_iload_n C dX5_lots_0 rfl ?_
      refine v_iload_n C dX5_lots_1 rfl ?_
      refine v_callS2_1 C (m_X5_lacks T B) lk_X5_84 wt_604 dX5_lots_2 ⟨Nat.le_of_ble_eq_true rfl, Nat.le_of_ble_eq_true rfl⟩ (Nat.le_of_ble_eq_true rfl) ⟨Nat.le_of_ble_eq_true rfl, Nat.le_of_ble_eq_true rfl⟩ ?_
      refine c_X5_lacks ?_
      rw [hl]
      refine v_istore C dX5_lots_5 (by decide) ?_
      refine v_iload C dX5_lots_7 rfl ?_
      refine v_if_ne C 25 dX5_lots_9 (by decide) (fun h9 => ?_) (fun h9 => ?_)
      · refine v_iload C dX5_lots_25 rfl ?_
        refine v_if_ge C 37 dX5_lots_27 (by decide) (fun h27 => ?_) (fun h27 => ?_)
        · exact absurd h27 (by decide)
        · refine v_aload_n C dX5_lots_30 rfl ?_
          refine v_iload C dX5_lots_31 rfl ?_
          refine v_callV1_1 C (m_X5_refuse T B) lk_X5_88 ⟨wt_608, ws_19⟩ 5 rfl dX5_lots_33 ⟨Nat.le_of_ble_eq_true rfl, Nat.le_of_ble_eq_true rfl⟩ (Nat.le_of_ble_eq_true rfl) ⟨Nat.le_of_ble_eq_true rfl, Nat.le_of_ble_eq_true rfl⟩ (by assumption) (cTo_5 (by assumption)) ?_
          refine c_X5_refuse (k := 6) hM (by decide) (by decide) ?_
          refine v_iret C Q dX5_lots_36 (Nat.le_of_ble_eq_true rfl) (Nat.le_of_ble_eq_true rfl) ?_
          have w := Mq_rf (k := 6) hR (by decide) hp
          exact w
      · exact absurd h9 (by decide)
    · refine v_iload_n C dX5_lots_0 rfl ?_
      refine v_iload_n C dX5_lots_1 rfl ?_
      refine v_callS2_1 C (m_X5_lacks T B) lk_X5_84 wt_604 dX5_lots_2 ⟨Nat.le_of_ble_eq_true rfl, Nat.le_of_ble_eq_true rfl⟩ (Nat.le_of_ble_eq_true rfl) ⟨Nat.le_of_ble_eq_true rfl, Nat.le_of_ble_eq_true rfl⟩ ?_
      refine c_X5_lacks ?_
      rw [hl]
      refine v_istore C dX5_lots_5 (by decide) ?_
      refine v_iload C dX5_lots_7 rfl ?_
      first | refine v_if_neN C 25 dX5_lots_9 (by omega) (by decide) (fun h9 => ?_) (fun h9 => ?_) | refine v_if_ne C 25 dX5_lots_9 (by decide) (fun h9 => ?_) (fun h9 => ?_)
      · exact absurd rfl h9
      · refine v_aload_n C dX5_lots_12 rfl ?_
        first | refine gv_5_0 C (by assumption) (by assumption) wt_533 dX5_lots_13 ?_ | refine g_5_0 C (by assumption) wt_533 dX5_lots_13 ?_
        refine v_bipushN 12 (by decide) C dX5_lots_16 ?_
        first | refine v_icmp_neN C 25 dX5_lots_18 (by omega) (by omega) (by decide) (fun h18 => ?_) (fun h18 => ?_) | refine v_icmp_ne C 25 dX5_lots_18 (by decide) (fun h18 => ?_) (fun h18 => ?_)
        · exact absurd (by omega) h18
        · refine v_bipush (v := -6) C dX5_lots_21 (by decide) ?_
          refine v_istore C dX5_lots_23 (by decide) ?_
          refine v_iload C dX5_lots_25 rfl ?_
          refine v_if_ge C 37 dX5_lots_27 (by decide) (fun h27 => ?_) (fun h27 => ?_)
          · exact absurd h27 (by decide)
          · refine v_aload_n C dX5_lots_30 rfl ?_
            refine v_iload C dX5_lots_31 rfl ?_
            refine v_callV1_1 C (m_X5_refuse T B) lk_X5_88 ⟨wt_608, ws_19⟩ 5 rfl dX5_lots_33 ⟨Nat.le_of_ble_eq_true rfl, Nat.le_of_ble_eq_true rfl⟩ (Nat.le_of_ble_eq_true rfl) ⟨Nat.le_of_ble_eq_true rfl, Nat.le_of_ble_eq_true rfl⟩ (by assumption) (cTo_5 (by assumption)) ?_
            refine c_X5_refuse (k := 6) hM (by decide) (by decide) ?_
            refine v_iret C Q dX5_lots_36 (Nat.le_of_ble_eq_true rfl) (Nat.le_of_ble_eq_true rfl) ?_
            have w := Mq_rf (k := 6) hR (by decide) hp
            exact w
  · rw [mkO_0 hz, vN_nI (by omega), vN_nI (by omega)] at hp
    have hl := la_0 hz
    obtain ⟨w1, w2⟩ := two8 g3
    have hvv := lN_uL v
    have huv := uL_lt v
    generalize uL v = F at *
    subst hvv
    generalize hn0 : st.1 = n at *
    have hnew := MsR_new (k := 4) (d := a) (p := b) (c := 2 ^ b) (pw := nI b) (hms n (by omega)) (hO.2.2 n (by omega)) rfl
    generalize hK : mkI I M n (nI 4) (nI a) (nI b) (nI (2 ^ b)) = K at hnew
    obtain ⟨n1, n2, n3, n4, n5, n6, n7, n8, n9⟩ := hnew
    have val : ∀ i j w, w = wsq F (i * a + j + 1) → lotV F b a i j = w / 2 ^ (64 - b) := fun i j w e => by unfold lotV; rw [e]
    -- the invariant: t the entries that are written, by the order n, j
    have inner : ∀ i : Nat, i < 2 ^ b → ∀ j : Nat, j ≤ a → ∀ I' : MI, (∀ q r, q ≠ M + 9 → I' q r = K q r) → (∀ r, ¬ (1536 * n ≤ r ∧ r < 1536 * n + 1536) → I' (M + 9) r = I (M + 9) r) → (∀ t, t < 1536 → I' (M + 9) (1536 * n + t) = nI (if t % 6 < a ∧ t / 6 < 2 ^ b ∧ (t / 6 < i ∨ (t / 6 = i ∧ t % 6 < j)) then lotV F b a (t / 6) (t % 6) else 0)) →
        (∀ I' : MI, (∀ q r, q ≠ M + 9 → I' q r = K q r) → (∀ r, ¬ (1536 * n ≤ r ∧ r < 1536 * n + 1536) → I' (M + 9) r = I (M + 9) r) → (∀ t, t < 1536 → I' (M + 9) (1536 * n + t) = nI (if t % 6 < a ∧ t / 6 < 2 ^ b ∧ (t / 6 < i + 1 ∨ (t / 6 = i + 1 ∧ t % 6 < 0)) then lotV F b a (t / 6) (t % 6) else 0)) → V X 0 0 z S I' J R 55 [some (.ref M), some (.int (nI a)), some (.int (nI b)), none, none, none, some (.int (nI n)), some (.long (lN (wsq F ((i + 1) * a)))), none, some (.int (nI (i + 1))), none] []) →
        V X 0 0 z S I' J R 66 [some (.ref M), some (.int (nI a)), some (.int (nI b)), none, none, none, some (.int (nI n)), some (.long (lN (wsq F (i * a + j)))), none, some (.int (nI i)), some (.int (nI j))] [] := by
      intro i hi
      refine lp_up a ?_
      intro j hj ih I' hq h9 h9' K2
      have hW := wsq_lt huv (i * a + j + 1)
      have fin : j < a → V X 0 0 z S (mu I' (M + 9) (1536 * n + (6 * i + j)) (nI (lotV F b a i j))) J R 120 [some (.ref M), some (.int (nI a)), some (.int (nI b)), none, none, none, some (.int (nI n)), some (.long (lN (wsq F (i * a + j + 1)))), none, some (.int (nI i)), some (.int (nI j))] [] := by
        intro hja
        first | refine v_iincN 1 C dX5_lots_120 rfl (by decide) ?_ | refine v_iinc C dX5_lots_120 rfl rfl (by decide) ?_
        refine v_goto C 66 dX5_lots_123 (by decide) ?_
        refine v_less (ih hja _ (fun q r h => by rw [mu_ne _ _ h]; exact hq q r h) (fun r h => by rw [mu_other _ _ (by omega)]; exact h9 r h) (fun t ht => ?_) K2) (by repeat (first | exact trivial | refine And.intro rfl ?_))
        by_cases e : t = 6 * i + j
        · subst e
          rw [mu_at, show (6 * i + j) % 6 = j by omega, show (6 * i + j) / 6 = i by omega, if_pos ⟨hja, hi, Or.inr ⟨rfl, by omega⟩⟩]
        · rw [mu_other _ _ (by omega), h9' t ht]
          by_cases e2 : t % 6 < a ∧ t / 6 < 2 ^ b ∧ (t / 6 < i ∨ (t / 6 = i ∧ t % 6 < j))
          · rw [if_pos e2, if_pos ⟨e2.1, e2.2.1, by omega⟩]
          · rw [if_neg e2, if_neg (fun q => e2 ⟨q.1, q.2.1, by omega⟩)]
      refine v_iload C dX5_lots_66 rfl ?_
      refine v_iload_n C dX5_lots_68 rfl ?_
      first | refine v_icmp_geN C 126 dX5_lots_69 (by omega) (by omega) (by decide) (fun h69 => ?_) (fun h69 => ?_) | refine v_icmp_ge C 126 dX5_lots_69 (by decide) (fun h69 => ?_) (fun h69 => ?_)
      · first | refine v_iincN 1 C dX5_lots_126 rfl (by decide) ?_ | refine v_iinc C dX5_lots_126 rfl rfl (by decide) ?_
        refine v_goto C 55 dX5_lots_129 (by decide) ?_
        obtain rfl : j = a := by omega
        have hK2 := K2 I' hq h9 (fun t ht => by
          rw [h9' t ht]
          by_cases e2 : t % 6 < j ∧ t / 6 < 2 ^ b ∧ (t / 6 < i ∨ (t / 6 = i ∧ t % 6 < j))
          · rw [if_pos e2, if_pos ⟨e2.1, e2.2.1, by omega⟩]
          · rw [if_neg e2, if_neg (fun q => e2 ⟨q.1, q.2.1, by omega⟩)])
        rw [Nat.add_mul, Nat.one_mul] at hK2
        exact v_less hK2 (by repeat (first | exact trivial | refine And.intro rfl ?_))
      · refine v_lload C dX5_lots_72 rfl ?_
        refine v_ldc2 C dX5_lots_74 wt_658 ?_
        refine v_eql (x' := lN 6364136223846793005) (by decide +kernel) ?_
        first | refine v_lmulN C dX5_lots_77 ?_ | refine v_lmul C dX5_lots_77 ?_
        refine v_ldc2 C dX5_lots_78 wt_659 ?_
        refine v_eql (x' := lN 1442695040888963407) (by decide +kernel) ?_
        first | refine v_laddN C dX5_lots_81 ?_ | refine v_ladd C dX5_lots_81 ?_
        rw [wb_mod (wsq F (i * a + j) * 6364136223846793005 + 1442695040888963407), ← wsq_s]
        refine v_lstore C dX5_lots_82 (by decide) ?_
        refine v_aload_n C dX5_lots_84 rfl ?_
        refine g_5_9 C (by assumption) (by assumption) wt_542 dX5_lots_85 ?_
        refine v_sipushN 1536 (by decide +kernel) C dX5_lots_88 ?_
        refine v_iload C dX5_lots_91 rfl ?_
        first | refine v_imulN C dX5_lots_93 ?_ | refine v_imul C dX5_lots_93 ?_
        refine v_bipushN 6 (by decide) C dX5_lots_94 ?_
        refine v_iload C dX5_lots_96 rfl ?_
        first | refine v_imulN C dX5_lots_98 ?_ | refine v_imul C dX5_lots_98 ?_
        first | refine v_iaddN C dX5_lots_99 ?_ | refine v_iadd C dX5_lots_99 ?_
        refine v_iload C dX5_lots_100 rfl ?_
        first | refine v_iaddN C dX5_lots_102 ?_ | refine v_iadd C dX5_lots_102 ?_
        rw [show 1536 * n + 6 * i + j = 1536 * n + (6 * i + j) by omega]
        refine v_iload_n C dX5_lots_103 rfl ?_
        first | refine v_if_neN C 111 dX5_lots_104 (by omega) (by decide) (fun h104 => ?_) (fun h104 => ?_) | refine v_if_ne C 111 dX5_lots_104 (by decide) (fun h104 => ?_) (fun h104 => ?_)
        · refine v_lload C dX5_lots_111 rfl ?_
          refine v_bipushN 64 (by decide) C dX5_lots_113 ?_
          refine v_iload_n C dX5_lots_115 rfl ?_
          first | refine v_isubN C dX5_lots_116 (by omega) ?_ | refine v_isub C dX5_lots_116 ?_
          refine v_lushr C dX5_lots_117 ?_
          rw [wb_shr hW (by omega)]
          first | refine v_l2iN C dX5_lots_118 ?_ | refine v_l2i C dX5_lots_118 ?_
          first | refine v_iastN C (by assumption) (by omega) (by omega) dX5_lots_119 ?_ | refine v_iast C (by assumption) (by assumption) dX5_lots_119 ?_
          first
          | exact v_less (fin h69) (by repeat (first | exact trivial | refine And.intro rfl ?_))
          | (have hh := fin h69
             rw [hv0] at hh
             exact v_less hh (by repeat (first | exact trivial | refine And.intro rfl ?_)))
        · have hv0 : lotV F b a i j = 0 := by
            have q1 := lotV_lt (p := b) (d := a) (n := i) (j := j) huv g3
            have q2 : 2 ^ b = 1 := by rw [h104, Nat.pow_zero]
            omega
          refine v_iconstN 0 C dX5_lots_107 ?_
          refine v_goto C 119 dX5_lots_108 (by decide) ?_
          first | refine v_iastN C (by assumption) (by omega) (by omega) dX5_lots_119 ?_ | refine v_iast C (by assumption) (by assumption) dX5_lots_119 ?_
          first
          | exact v_less (fin h69) (by repeat (first | exact trivial | refine And.intro rfl ?_))
          | (have hh := fin h69
             rw [hv0] at hh
             exact v_less hh (by repeat (first | exact trivial | refine And.intro rfl ?_)))
    have loop : ∀ i : Nat, i ≤ 2 ^ b → ∀ I' : MI, (∀ q r, q ≠ M + 9 → I' q r = K q r) → (∀ r, ¬ (1536 * n ≤ r ∧ r < 1536 * n + 1536) → I' (M + 9) r = I (M + 9) r) → (∀ t, t < 1536 → I' (M + 9) (1536 * n + t) = nI (if t % 6 < a ∧ t / 6 < 2 ^ b ∧ (t / 6 < i ∨ (t / 6 = i ∧ t % 6 < 0)) then lotV F b a (t / 6) (t % 6) else 0)) → V X 0 0 z S I' J R 55 [some (.ref M), some (.int (nI a)), some (.int (nI b)), none, none, none, some (.int (nI n)), some (.long (lN (wsq F (i * a)))), none, some (.int (nI i)), none] [] := by
      refine lp_up (2 ^ b) ?_
      intro i hi ih I' hq h9 h9'
      refine v_iload C dX5_lots_55 rfl ?_
      refine v_iconstN 1 C dX5_lots_57 ?_
      refine v_iload_n C dX5_lots_58 rfl ?_
      first | refine v_ishlN C dX5_lots_59 (by omega) (by rw [Nat.one_mul]; omega) ?_ | refine v_ishl C dX5_lots_59 ?_
      rw [Nat.one_mul]
      first | refine v_icmp_geN C 132 dX5_lots_60 (by omega) (by omega) (by decide) (fun h60 => ?_) (fun h60 => ?_) | refine v_icmp_ge C 132 dX5_lots_60 (by decide) (fun h60 => ?_) (fun h60 => ?_)
      · refine v_iload C dX5_lots_132 rfl ?_
        refine v_iret C Q dX5_lots_134 (Nat.le_of_ble_eq_true rfl) (Nat.le_of_ble_eq_true rfl) ?_
        obtain rfl : i = 2 ^ b := by omega
        have m := mkI_h (I := I) (M := M) (n := n) (k := nI 4) (d := nI a) (p := nI b) (c := nI (2 ^ b))
        rw [hK] at m
        obtain ⟨m0, m13, m1, m2, m3, m4⟩ := m
        have mB := mkI_B (I := I) (M := M) (n := n) (k := nI 4) (d := nI a) (p := nI b) (c := nI (2 ^ b))
        have mF := mkI_F (I := I) (M := M) (n := n) (k := nI 4) (d := nI a) (p := nI b) (c := nI (2 ^ b))
        rw [hK] at mB mF
        have hDD : MsR I' M n (lotD F a b) := by
          refine ⟨by rw [hq _ _ (by omega)]; exact n1, by rw [hq _ _ (by omega)]; exact n2, by rw [hq _ _ (by omega)]; exact n3, by rw [hq _ _ (by omega)]; exact n4, by rw [hq _ _ (by omega)]; exact n5, fun t ht => by rw [hq _ _ (by omega)]; exact n6 t ht, fun t ht => by rw [hq _ _ (by omega)]; exact n7 t ht, fun t ht => by rw [hq _ _ (by omega)]; exact n8 t ht, fun t ht => ?_⟩
          rw [h9' t ht]
          show _ = nI (if t % 6 < a ∧ t / 6 < 2 ^ b then lotV F b a (t / 6) (t % 6) else 0)
          by_cases e2 : t % 6 < a ∧ t / 6 < 2 ^ b
          · rw [if_pos ⟨e2.1, e2.2, Or.inl e2.2⟩, if_pos e2]
          · rw [if_neg (fun q => e2 ⟨q.1, q.2.1⟩), if_neg e2]
        have w := Mq_add (I' := I') (D := lotD F a b) hR (fun q r h => by rw [hq _ _ (by omega)]; exact mF q r h) (by rw [hq _ _ (by omega), hn0]; exact m0) (by rw [hq _ _ (by omega)]; exact m13) (by rw [hn0]; exact ⟨fun g r h1 h2 h3 => by rw [hq _ _ (by omega)]; exact mB.1 g r h1 h2 h3, fun r h => by rw [hq _ _ (by omega)]; exact mB.2.1 r h, fun g r h1 h2 => by rw [hq _ _ (by omega)]; exact mB.2.2.1 g r h1 h2, h9⟩) (by rw [hn0]; exact hDD) hp
        exact w
      · refine v_iconstN 0 C dX5_lots_63 ?_
        refine v_istore C dX5_lots_64 (by decide) ?_
        exact v_less (inner i h60 0 (Nat.zero_le _) I' hq h9 h9' (ih h60)) (by repeat (first | exact trivial | refine And.intro rfl ?_))
    have h0 := loop 0 (Nat.zero_le _) K (fun _ _ _ => rfl) (fun r h => by rw [← hK]; exact mkI_B.2.2.2 r h) (fun t ht => by rw [n9 t ht, if_neg (fun q => by omega)]; rfl)
    rw [Nat.zero_mul] at h0
    refine v_iload_n C dX5_lots_0 rfl ?_
    refine v_iload_n C dX5_lots_1 rfl ?_
    refine v_callS2_1 C (m_X5_lacks T B) lk_X5_84 wt_604 dX5_lots_2 ⟨Nat.le_of_ble_eq_true rfl, Nat.le_of_ble_eq_true rfl⟩ (Nat.le_of_ble_eq_true rfl) ⟨Nat.le_of_ble_eq_true rfl, Nat.le_of_ble_eq_true rfl⟩ ?_
    refine c_X5_lacks ?_
    rw [hl]
    refine v_istore C dX5_lots_5 (by decide) ?_
    refine v_iload C dX5_lots_7 rfl ?_
    first | refine v_if_neN C 25 dX5_lots_9 (by omega) (by decide) (fun h9 => ?_) (fun h9 => ?_) | refine v_if_ne C 25 dX5_lots_9 (by decide) (fun h9 => ?_) (fun h9 => ?_)
    · exact absurd rfl h9
    · refine v_aload_n C dX5_lots_12 rfl ?_
      first | refine gv_5_0 C (by assumption) (by assumption) wt_533 dX5_lots_13 ?_ | refine g_5_0 C (by assumption) wt_533 dX5_lots_13 ?_
      refine v_bipushN 12 (by decide) C dX5_lots_16 ?_
      first | refine v_icmp_neN C 25 dX5_lots_18 (by omega) (by omega) (by decide) (fun h18 => ?_) (fun h18 => ?_) | refine v_icmp_ne C 25 dX5_lots_18 (by decide) (fun h18 => ?_) (fun h18 => ?_)
      · refine v_iload C dX5_lots_25 rfl ?_
        first | refine v_if_geN C 37 dX5_lots_27 (by omega) (by decide) (fun h27 => ?_) (fun h27 => ?_) | refine v_if_ge C 37 dX5_lots_27 (by decide) (fun h27 => ?_) (fun h27 => ?_)
        · refine v_aload_n C dX5_lots_37 rfl ?_
          refine v_iconstN 4 C dX5_lots_38 ?_
          refine v_iload_n C dX5_lots_39 rfl ?_
          refine v_iload_n C dX5_lots_40 rfl ?_
          refine v_iconstN 1 C dX5_lots_41 ?_
          refine v_iload_n C dX5_lots_42 rfl ?_
          first | refine v_ishlN C dX5_lots_43 (by omega) (by rw [Nat.one_mul]; omega) ?_ | refine v_ishl C dX5_lots_43 ?_
          rw [Nat.one_mul]
          refine v_callV4_1 C (m_X5_make T B) lk_X5_92 ⟨wt_612, ws_20⟩ 5 rfl dX5_lots_44 ⟨Nat.le_of_ble_eq_true rfl, Nat.le_of_ble_eq_true rfl⟩ (Nat.le_of_ble_eq_true rfl) ⟨Nat.le_of_ble_eq_true rfl, Nat.le_of_ble_eq_true rfl⟩ (by assumption) (cTo_5 (by assumption)) ?_
          refine c_X5_make hM hn g4 ?_
          refine v_istore C dX5_lots_47 (by decide) ?_
          refine v_lload_n C dX5_lots_49 rfl ?_
          refine v_lstore C dX5_lots_50 (by decide) ?_
          refine v_iconstN 0 C dX5_lots_52 ?_
          refine v_istore C dX5_lots_53 (by decide) ?_
          refine v_eqI hK ?_
          exact v_less h0 (by repeat (first | exact trivial | refine And.intro rfl ?_))
        · exact absurd h27 (fun q => q)
      · exact absurd h18 (by omega)
