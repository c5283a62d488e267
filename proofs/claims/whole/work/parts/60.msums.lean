def xr (f : Nat → Nat) : Nat → Nat
  | 0 => 0
  | d + 1 => xr f d ^^^ f d
theorem xr_lt {f : Nat → Nat} {M : Nat} : ∀ {d : Nat}, (∀ j, j < d → f j < 2 ^ M) → xr f d < 2 ^ M
  | 0, _ => Nat.two_pow_pos M
  | d + 1, h => Nat.xor_lt_two_pow (xr_lt (fun j hj => h j (by omega))) (h d (by omega))
theorem xr_pc (P m : Nat → Nat) : ∀ d, pc (xr (fun j => P j &&& m j) d) % 2 = sgn P m d % 2
  | 0 => by rw [show xr (fun j => P j &&& m j) 0 = 0 from rfl, pc_0]; rfl
  | d + 1 => by
    have ih := xr_pc P m d
    show pc (xr (fun j => P j &&& m j) d ^^^ (P d &&& m d)) % 2 = (sgn P m d + pc (P d &&& m d)) % 2
    rw [pc_xor]
    omega
theorem pm1_0 {n : Nat} (h : n % 2 = 0) : (pm1 n).toInt64 = lN 1 := by unfold pm1; rw [if_pos h]; rfl
theorem pm1_1 {n : Nat} (h : n % 2 = 1) : (pm1 n).toInt64 = -1 := by unfold pm1; rw [if_neg (by omega)]; rfl
def s_X5_waveOf : Sp := fun av z S I J R Post => ∃ (M k : Nat), ∃ (D : SD), ∃ (h : Nat → Nat), av = [.ref M, .int (nI k)] ∧ (MoS S R M) ∧ (MsR I M k D) ∧ (k < 12) ∧ (OkD D) ∧ (∀ j, j < D 2 0 → I (M + 18) j = nI (h j)) ∧ (Post 0 (wvL (fun n => sgn (prt D n) h (D 2 0)) (D 4 0)) none z S I J R)
theorem c_X5_waveOf {M k : Nat} {D : SD} {h : Nat → Nat} {z : Nat} {S : MS} {I : MI} {J : MJ} {R : MR} {Post : PT} (hM : MoS S R M) (hD : MsR I M k D) (hk : k < 12) (hO : OkD D) (hH : ∀ j, j < D 2 0 → I (M + 18) j = nI (h j)) (hp : Post 0 (wvL (fun n => sgn (prt D n) h (D 2 0)) (D 4 0)) none z S I J R) : s_X5_waveOf [.ref M, .int (nI k)] z S I J R Post := ⟨M, k, D, h, rfl, hM, hD, hk, hO, hH, hp⟩
set_option maxRecDepth 100000 in
set_option maxHeartbeats 1000000 in
theorem m_X5_waveOf (T : TC) (B : Nat) : Mt T B yX5_waveOf cX5_waveOf 7 (some .long) 2 (rmL 3 0 0) s_X5_waveOf := by
  refine Mt_of rfl (by rintro _ _ _ _ _ _ _ ⟨_, _, _, _, rfl, -⟩; exact Nat.le_of_ble_eq_true rfl) ?_
  intro X av z S I J R Post h C Q hI
  obtain ⟨M, k, D, h, rfl, hM, hD, hk, hO, hH, hp⟩ := h
  obtain ⟨hS0, hr1, hr2, hr3, hr4, hr5, hr6, hr7, hr8, hr9, hr10, hr11, hr12, hr14, hr15, hr16, hr17, hr18, hr19, hr20, hs1, hs2, hs3, hs4, hs5, hs6, hs7, hs8, hs9, hs10, hs11, hs12, hs13, hs14, hs15, hs16, hs17, hs18, hs19⟩ := id hM
  obtain ⟨g1, g2, g3, g4, g5, g6, g7, g8, g9⟩ := id hD
  obtain ⟨o1, o2, o3, o4, o5, o6, o7, o8, o9, o10, o11, o12⟩ := id hO
  have inner : ∀ n : Nat, n < D 4 0 → ∀ j : Nat, j ≤ D 2 0 → V X 0 0 z S I J R 5 [some (.ref M), some (.int (nI k)), some (.long (wvL (fun n => sgn (prt D n) h (D 2 0)) (n + 1))), none, some (.int (nI (n + 1))), none, none] [] → V X 0 0 z S I J R 22 [some (.ref M), some (.int (nI k)), some (.long (wvL (fun n => sgn (prt D n) h (D 2 0)) n)), none, some (.int (nI n)), some (.int (nI (xr (fun j => prt D n j &&& h j) j))), some (.int (nI j))] [] := by
    intro n hn2
    refine lp_up (D 2 0) ?_
    intro j hj ih K
    have hx : xr (fun j => prt D n j &&& h j) j < 2 ^ 8 := xr_lt (fun i _ => Nat.lt_of_le_of_lt Nat.and_le_left (by have := prt_lt hO n i; omega))
    have e2 : wvL (fun n => sgn (prt D n) h (D 2 0)) (n + 1) = wvL (fun n => sgn (prt D n) h (D 2 0)) n + (pm1 (sgn (prt D n) h (D 2 0))).toInt64 := rfl
    refine v_iload C dX5_waveOf_22 rfl ?_
    refine v_aload_n C dX5_waveOf_24 rfl ?_
    refine g_5_2 C (by assumption) (by assumption) wt_535 dX5_waveOf_25 ?_
    refine v_iload_n C dX5_waveOf_28 rfl ?_
    first | refine v_ialdN C (by assumption) (by omega) (by omega) dX5_waveOf_29 ?_ | refine v_iald C (by assumption) (by assumption) dX5_waveOf_29 ?_
    rw [g2]
    first | refine v_icmp_geN C 61 dX5_waveOf_30 (by omega) (by omega) (by decide) (fun h30 => ?_) (fun h30 => ?_) | refine v_icmp_ge C 61 dX5_waveOf_30 (by decide) (fun h30 => ?_) (fun h30 => ?_)
    · refine v_lload_n C dX5_waveOf_61 rfl ?_
      refine v_iload C dX5_waveOf_62 rfl ?_
      refine v_callS1_1 C (m_X5_odd T B) lk_X5_106 wt_673 dX5_waveOf_64 ⟨Nat.le_of_ble_eq_true rfl, Nat.le_of_ble_eq_true rfl⟩ (Nat.le_of_ble_eq_true rfl) ⟨Nat.le_of_ble_eq_true rfl, Nat.le_of_ble_eq_true rfl⟩ ?_
      refine c_X5_odd (by omega) ?_
      refine v_iconstN 1 C dX5_waveOf_67 ?_
      first | refine v_icmp_neN C 77 dX5_waveOf_68 (by omega) (by omega) (by decide) (fun h68 => ?_) (fun h68 => ?_) | refine v_icmp_ne C 77 dX5_waveOf_68 (by decide) (fun h68 => ?_) (fun h68 => ?_)
      · obtain rfl : j = D 2 0 := by omega
        have hpc := xr_pc (prt D n) h (D 2 0)
        rw [e2, pm1_0 (by omega)] at K
        refine v_lconst (v := lN 1) C dX5_waveOf_77 rfl ?_
        refine v_ladd C dX5_waveOf_78 ?_
        refine v_lstore_n C dX5_waveOf_79 (by decide) ?_
        first | refine v_iincN 1 C dX5_waveOf_80 rfl (by decide) ?_ | refine v_iinc C dX5_waveOf_80 rfl rfl (by decide) ?_
        refine v_goto C 5 dX5_waveOf_83 (by decide) ?_
        exact v_less K (by repeat (first | exact trivial | refine And.intro rfl ?_))
      · obtain rfl : j = D 2 0 := by omega
        have hpc := xr_pc (prt D n) h (D 2 0)
        rw [e2, pm1_1 (by omega)] at K
        refine v_ldc2 C dX5_waveOf_71 wt_777 ?_
        refine v_goto C 78 dX5_waveOf_74 (by decide) ?_
        refine v_ladd C dX5_waveOf_78 ?_
        refine v_lstore_n C dX5_waveOf_79 (by decide) ?_
        first | refine v_iincN 1 C dX5_waveOf_80 rfl (by decide) ?_ | refine v_iinc C dX5_waveOf_80 rfl rfl (by decide) ?_
        refine v_goto C 5 dX5_waveOf_83 (by decide) ?_
        exact v_less K (by repeat (first | exact trivial | refine And.intro rfl ?_))
    · refine v_iload C dX5_waveOf_33 rfl ?_
      refine v_aload_n C dX5_waveOf_35 rfl ?_
      refine v_iload_n C dX5_waveOf_36 rfl ?_
      refine v_iload C dX5_waveOf_37 rfl ?_
      refine v_iload C dX5_waveOf_39 rfl ?_
      refine v_callV3_1 C (m_X5_partOf T B) lk_X5_109 ⟨wt_670, ws_23⟩ 5 rfl dX5_waveOf_41 ⟨Nat.le_of_ble_eq_true rfl, Nat.le_of_ble_eq_true rfl⟩ (Nat.le_of_ble_eq_true rfl) ⟨Nat.le_of_ble_eq_true rfl, Nat.le_of_ble_eq_true rfl⟩ (by assumption) (cTo_5 (by assumption)) ?_
      refine c_X5_partOf hM hD hk hO hn2 (by omega) ?_
      refine v_aload_n C dX5_waveOf_44 rfl ?_
      refine g_5_19 C (by assumption) (by assumption) wt_552 dX5_waveOf_45 ?_
      refine v_iload C dX5_waveOf_48 rfl ?_
      first | refine v_ialdN C (by assumption) (by omega) (by omega) dX5_waveOf_50 ?_ | refine v_iald C (by assumption) (by assumption) dX5_waveOf_50 ?_
      rw [hH j (by omega)]
      first | refine v_iandN C dX5_waveOf_51 ?_ | refine v_iand C dX5_waveOf_51 ?_
      first | refine v_ixorN C dX5_waveOf_52 ?_ | refine v_ixor C dX5_waveOf_52 ?_
      refine v_istore C dX5_waveOf_53 (by decide) ?_
      first | refine v_iincN 1 C dX5_waveOf_55 rfl (by decide) ?_ | refine v_iinc C dX5_waveOf_55 rfl rfl (by decide) ?_
      refine v_goto C 22 dX5_waveOf_58 (by decide) ?_
      exact v_less (ih h30 K) (by repeat (first | exact trivial | refine And.intro rfl ?_))
  have loop : ∀ n : Nat, n ≤ D 4 0 → V X 0 0 z S I J R 5 [some (.ref M), some (.int (nI k)), some (.long (wvL (fun n => sgn (prt D n) h (D 2 0)) n)), none, some (.int (nI n)), none, none] [] := by
    refine lp_up (D 4 0) ?_
    intro n hn2 ih
    refine v_iload C dX5_waveOf_5 rfl ?_
    refine v_aload_n C dX5_waveOf_7 rfl ?_
    refine g_5_4 C (by assumption) (by assumption) wt_537 dX5_waveOf_8 ?_
    refine v_iload_n C dX5_waveOf_11 rfl ?_
    first | refine v_ialdN C (by assumption) (by omega) (by omega) dX5_waveOf_12 ?_ | refine v_iald C (by assumption) (by assumption) dX5_waveOf_12 ?_
    rw [g4]
    first | refine v_icmp_geN C 86 dX5_waveOf_13 (by omega) (by omega) (by decide) (fun h13 => ?_) (fun h13 => ?_) | refine v_icmp_ge C 86 dX5_waveOf_13 (by decide) (fun h13 => ?_) (fun h13 => ?_)
    · refine v_lload_n C dX5_waveOf_86 rfl ?_
      refine v_lret C Q dX5_waveOf_87 (Nat.le_of_ble_eq_true rfl) (Nat.le_of_ble_eq_true rfl) ?_
      obtain rfl : n = D 4 0 := by omega
      exact hp
    · refine v_iconstN 0 C dX5_waveOf_16 ?_
      refine v_istore C dX5_waveOf_17 (by decide) ?_
      refine v_iconstN 0 C dX5_waveOf_19 ?_
      refine v_istore C dX5_waveOf_20 (by decide) ?_
      exact v_less (inner n h13 0 (Nat.zero_le _) (ih h13)) (by repeat (first | exact trivial | refine And.intro rfl ?_))
  refine v_lconst (v := lN 0) C dX5_waveOf_0 rfl ?_
  refine v_lstore_n C dX5_waveOf_1 (by decide) ?_
  refine v_iconstN 0 C dX5_waveOf_2 ?_
  refine v_istore C dX5_waveOf_3 (by decide) ?_
  exact v_less (loop 0 (Nat.zero_le _)) (by repeat (first | exact trivial | refine And.intro rfl ?_))
def s_X5_wave : Sp := fun av z S I J R Post => ∃ (M : Nat), ∃ (st : St), ∃ (s : Int32), av = [.ref M, .int s] ∧ (MoS S R M) ∧ (Rm M st I) ∧ (Ok st) ∧ (Mq M (o_wave st s).2 I J (fun I' J' => Post 0 (o_wave st s).1 none z S I' J' R))
theorem c_X5_wave {M : Nat} {st : St} {s : Int32} {z : Nat} {S : MS} {I : MI} {J : MJ} {R : MR} {Post : PT} (hM : MoS S R M) (hR : Rm M st I) (hO : Ok st) (hp : Mq M (o_wave st s).2 I J (fun I' J' => Post 0 (o_wave st s).1 none z S I' J' R)) : s_X5_wave [.ref M, .int s] z S I J R Post := ⟨M, st, s, rfl, hM, hR, hO, hp⟩
set_option maxRecDepth 100000 in
set_option maxHeartbeats 1000000 in
theorem m_X5_wave (T : TC) (B : Nat) : Mt T B yX5_wave cX5_wave 3 (some .long) 2 (rmL 4 0 0) s_X5_wave := by
  refine Mt_of rfl (by rintro _ _ _ _ _ _ _ ⟨_, _, _, rfl, -⟩; exact Nat.le_of_ble_eq_true rfl) ?_
  intro X av z S I J R Post h C Q hI
  obtain ⟨M, st, s, rfl, hM, hR, hO, hp⟩ := h
  have hn12 := hO.1
  obtain ⟨hn, htl, hms, htr, hrf⟩ := id hR
  obtain ⟨hS0, hr1, hr2, hr3, hr4, hr5, hr6, hr7, hr8, hr9, hr10, hr11, hr12, hr14, hr15, hr16, hr17, hr18, hr19, hr20, hs1, hs2, hs3, hs4, hs5, hs6, hs7, hs8, hs9, hs10, hs11, hs12, hs13, hs14, hs15, hs16, hs17, hs18, hs19⟩ := id hM
  unfold o_wave at hp
  rcases Oo_or s st.1 (by omega) with ho | ⟨k, hk, rfl⟩
  · rw [onS_o ho] at hp
    refine v_aload_n C dX5_wave_0 rfl ?_
    refine v_iload_n C dX5_wave_1 rfl ?_
    refine v_callV1_1 C (m_X5_isScatter T B) lk_X5_80 ⟨wt_624, ws_22⟩ 5 rfl dX5_wave_2 ⟨Nat.le_of_ble_eq_true rfl, Nat.le_of_ble_eq_true rfl⟩ (Nat.le_of_ble_eq_true rfl) ⟨Nat.le_of_ble_eq_true rfl, Nat.le_of_ble_eq_true rfl⟩ (by assumption) (cTo_5 (by assumption)) ?_
    refine c_isS_o hM hn hn12 ho ?_
    first | refine v_if_neN C 14 dX5_wave_5 (by omega) (by decide) (fun h5 => ?_) (fun h5 => ?_) | refine v_if_ne C 14 dX5_wave_5 (by decide) (fun h5 => ?_) (fun h5 => ?_)
    · exact absurd h5 (by decide)
    · refine v_aload_n C dX5_wave_8 rfl ?_
      refine v_iconst (v := -1) C dX5_wave_9 (by decide) ?_
      refine v_callV1_2 C (m_X5_refuseLong T B) lk_X5_143 ⟨wt_739, ws_28⟩ 5 rfl dX5_wave_10 ⟨Nat.le_of_ble_eq_true rfl, Nat.le_of_ble_eq_true rfl⟩ (Nat.le_of_ble_eq_true rfl) ⟨Nat.le_of_ble_eq_true rfl, Nat.le_of_ble_eq_true rfl⟩ (by assumption) (cTo_5 (by assumption)) ?_
      refine c_X5_refuseLong (k := 1) hM (by decide) (by decide) ?_
      refine v_lret C Q dX5_wave_13 (Nat.le_of_ble_eq_true rfl) (Nat.le_of_ble_eq_true rfl) ?_
      have w := Mq_rf (k := 1) hR (by decide) hp
      exact w
  · have hMs := hms k (by omega)
    have hMs0 := hMs
    obtain ⟨hk1, hk2, hk3, hk4, hk5, hk6, hk7, hk8, hk9⟩ := hMs
    have hOk := hO.2.1 k hk
    obtain ⟨o1, o2, o3, o4, o5, o6, o7, o8, o9, o10, o11, o12⟩ := id hOk
    rw [onS_k hk (by omega)] at hp
    by_cases hkd : st.2.1 k 1 0 = 3
    · rw [if_pos hkd] at hp
      refine v_aload_n C dX5_wave_0 rfl ?_
      refine v_iload_n C dX5_wave_1 rfl ?_
      refine v_callV1_1 C (m_X5_isScatter T B) lk_X5_80 ⟨wt_624, ws_22⟩ 5 rfl dX5_wave_2 ⟨Nat.le_of_ble_eq_true rfl, Nat.le_of_ble_eq_true rfl⟩ (Nat.le_of_ble_eq_true rfl) ⟨Nat.le_of_ble_eq_true rfl, Nat.le_of_ble_eq_true rfl⟩ (by assumption) (cTo_5 (by assumption)) ?_
      refine c_isS_k hM hn hn12 hk ?_
      first | refine v_if_neN C 14 dX5_wave_5 (by omega) (by decide) (fun h5 => ?_) (fun h5 => ?_) | refine v_if_ne C 14 dX5_wave_5 (by decide) (fun h5 => ?_) (fun h5 => ?_)
      · refine v_aload_n C dX5_wave_14 rfl ?_
        refine g_5_1 C (by assumption) (by assumption) wt_534 dX5_wave_15 ?_
        refine v_iload_n C dX5_wave_18 rfl ?_
        first | refine v_ialdN C (by assumption) (by omega) (by omega) dX5_wave_19 ?_ | refine v_iald C (by assumption) (by assumption) dX5_wave_19 ?_
        rw [hk1]
        refine v_iconstN 3 C dX5_wave_20 ?_
        first | refine v_icmp_neN C 31 dX5_wave_21 (by omega) (by omega) (by decide) (fun h21 => ?_) (fun h21 => ?_) | refine v_icmp_ne C 31 dX5_wave_21 (by decide) (fun h21 => ?_) (fun h21 => ?_)
        · exact absurd hkd h21
        · refine v_aload_n C dX5_wave_24 rfl ?_
          refine v_bipush (v := -2) C dX5_wave_25 (by decide) ?_
          refine v_callV1_2 C (m_X5_refuseLong T B) lk_X5_143 ⟨wt_739, ws_28⟩ 5 rfl dX5_wave_27 ⟨Nat.le_of_ble_eq_true rfl, Nat.le_of_ble_eq_true rfl⟩ (Nat.le_of_ble_eq_true rfl) ⟨Nat.le_of_ble_eq_true rfl, Nat.le_of_ble_eq_true rfl⟩ (by assumption) (cTo_5 (by assumption)) ?_
          refine c_X5_refuseLong (k := 2) hM (by decide) (by decide) ?_
          refine v_lret C Q dX5_wave_30 (Nat.le_of_ble_eq_true rfl) (Nat.le_of_ble_eq_true rfl) ?_
          have w := Mq_rf (k := 2) hR (by decide) hp
          exact w
      · exact absurd h5 (by decide)
    · rw [if_neg hkd] at hp
      have hMk : ∀ j, j < 6 → I (M + 12) j = st.2.2 2 j := fun j hj => (htr j hj).2.2
      have hc1 : st.2.1 k 4 0 - 1 + 1 = st.2.1 k 4 0 := by omega
      have loop : ∀ j : Nat, j ≤ st.2.1 k 2 0 → ∀ I' : MI, FrS I I' (M + 18) (M + 18) → (∀ i, i < j → myW st.2.2 (nI (st.2.1 k 4 0 - 1)) i = true ∧ I' (M + 18) i = nI (mW st.2.2 i)) → V X 0 0 z S I' J R 33 [some (.ref M), some (.int (nI k)), some (.int (nI j))] [] := by
        refine lp_up (st.2.1 k 2 0) ?_
        intro j hj ih I' hF hA
        have c2 : I' (M + 2) k = nI (st.2.1 k 2 0) := (hF _ _ (by omega)).trans hk2
        have c4 : I' (M + 4) k = nI (st.2.1 k 4 0) := (hF _ _ (by omega)).trans hk4
        have cW := fun h : j < 6 => (hF (M + 12) j (by omega)).trans (hMk j h)
        have cD : MsR I' M k (st.2.1 k) := hMs0.up (fun q i h1 h2 => hF q i (by omega))
        by_cases hmy : j < st.2.1 k 2 0 ∧ ¬ myW st.2.2 (nI (st.2.1 k 4 0 - 1)) j = true
        · rw [if_neg (fun q => hmy.2 (allB_iff.mp q j hmy.1))] at hp
          have hoo := my_Oo (by omega) hmy.2
          rw [hc1] at hoo
          refine v_iload_n C dX5_wave_33 rfl ?_
          refine v_aload_n C dX5_wave_34 rfl ?_
          refine g_5_2 C (by assumption) (by assumption) wt_535 dX5_wave_35 ?_
          refine v_iload_n C dX5_wave_38 rfl ?_
          first | refine v_ialdN C (by assumption) (by omega) (by omega) dX5_wave_39 ?_ | refine v_iald C (by assumption) (by assumption) dX5_wave_39 ?_
          rw [c2]
          first | refine v_icmp_geN C 91 dX5_wave_40 (by omega) (by omega) (by decide) (fun h40 => ?_) (fun h40 => ?_) | refine v_icmp_ge C 91 dX5_wave_40 (by decide) (fun h40 => ?_) (fun h40 => ?_)
          · exact absurd hmy.1 (by omega)
          · refine v_aload_n C dX5_wave_43 rfl ?_
            refine g_5_12 C (by assumption) (by assumption) wt_545 dX5_wave_44 ?_
            refine v_iload_n C dX5_wave_47 rfl ?_
            first | refine v_ialdN C (by assumption) (by omega) (by omega) dX5_wave_48 ?_ | refine v_iald C (by assumption) (by assumption) dX5_wave_48 ?_
            rw [cW (by omega)]
            refine v_i2l C dX5_wave_49 ?_
            refine v_lconst (v := lN 0) C dX5_wave_50 rfl ?_
            refine v_aload_n C dX5_wave_51 rfl ?_
            refine g_5_4 C (by assumption) (by assumption) wt_537 dX5_wave_52 ?_
            refine v_iload_n C dX5_wave_55 rfl ?_
            first | refine v_ialdN C (by assumption) (by omega) (by omega) dX5_wave_56 ?_ | refine v_iald C (by assumption) (by assumption) dX5_wave_56 ?_
            rw [c4]
            refine v_iconstN 1 C dX5_wave_57 ?_
            refine v_isub C dX5_wave_58 ?_
            refine v_i2l C dX5_wave_59 ?_
            refine v_callS3_1 C (m_X5_in T B) lk_X5_76 wt_627 dX5_wave_60 ⟨Nat.le_of_ble_eq_true rfl, Nat.le_of_ble_eq_true rfl⟩ (Nat.le_of_ble_eq_true rfl) ⟨Nat.le_of_ble_eq_true rfl, Nat.le_of_ble_eq_true rfl⟩ ?_
            refine c_in_o (by omega) hoo ?_
            first | refine v_if_neN C 73 dX5_wave_63 (by omega) (by decide) (fun h63 => ?_) (fun h63 => ?_) | refine v_if_ne C 73 dX5_wave_63 (by decide) (fun h63 => ?_) (fun h63 => ?_)
            · exact absurd h63 (by decide)
            · refine v_aload_n C dX5_wave_66 rfl ?_
              refine v_bipush (v := -3) C dX5_wave_67 (by decide) ?_
              refine v_callV1_2 C (m_X5_refuseLong T B) lk_X5_143 ⟨wt_739, ws_28⟩ 5 rfl dX5_wave_69 ⟨Nat.le_of_ble_eq_true rfl, Nat.le_of_ble_eq_true rfl⟩ (Nat.le_of_ble_eq_true rfl) ⟨Nat.le_of_ble_eq_true rfl, Nat.le_of_ble_eq_true rfl⟩ (by assumption) (cTo_5 (by assumption)) ?_
              refine c_X5_refuseLong (k := 3) hM (by decide) (by decide) ?_
              refine v_lret C Q dX5_wave_72 (Nat.le_of_ble_eq_true rfl) (Nat.le_of_ble_eq_true rfl) ?_
              have w := Mq_rf2 (a := 3) hR (hF.wide (by omega) (by omega)) (by decide) hp
              exact w
        · have hmj : j < st.2.1 k 2 0 → myW st.2.2 (nI (st.2.1 k 4 0 - 1)) j = true := fun h => Decidable.byContradiction (fun q => hmy ⟨h, q⟩)
          have hlt : j < st.2.1 k 2 0 → mW st.2.2 j < st.2.1 k 4 0 := fun h => by have := (my_nI (by omega) (hmj h)).2; omega
          have q1 : j < st.2.1 k 2 0 → st.2.2 2 j = nI (mW st.2.2 j) := fun h => (my_nI (by omega) (hmj h)).1
          refine v_iload_n C dX5_wave_33 rfl ?_
          refine v_aload_n C dX5_wave_34 rfl ?_
          refine g_5_2 C (by assumption) (by assumption) wt_535 dX5_wave_35 ?_
          refine v_iload_n C dX5_wave_38 rfl ?_
          first | refine v_ialdN C (by assumption) (by omega) (by omega) dX5_wave_39 ?_ | refine v_iald C (by assumption) (by assumption) dX5_wave_39 ?_
          rw [c2]
          first | refine v_icmp_geN C 91 dX5_wave_40 (by omega) (by omega) (by decide) (fun h40 => ?_) (fun h40 => ?_) | refine v_icmp_ge C 91 dX5_wave_40 (by decide) (fun h40 => ?_) (fun h40 => ?_)
          · refine v_aload_n C dX5_wave_91 rfl ?_
            refine v_iload_n C dX5_wave_92 rfl ?_
            refine v_callV1_2 C (m_X5_waveOf T B) lk_X5_161 ⟨wt_775, ws_31⟩ 5 rfl dX5_wave_93 ⟨Nat.le_of_ble_eq_true rfl, Nat.le_of_ble_eq_true rfl⟩ (Nat.le_of_ble_eq_true rfl) ⟨Nat.le_of_ble_eq_true rfl, Nat.le_of_ble_eq_true rfl⟩ (by assumption) (cTo_5 (by assumption)) ?_
            refine c_X5_waveOf (h := mW st.2.2) hM cD (by omega) hOk (fun i hi => (hA i (by omega)).2) ?_
            refine v_lret C Q dX5_wave_96 (Nat.le_of_ble_eq_true rfl) (Nat.le_of_ble_eq_true rfl) ?_
            obtain rfl : j = st.2.1 k 2 0 := by omega
            rw [if_pos (allB_iff.mpr (fun i hi => (hA i hi).1))] at hp
            have w := Mq_scr hR (hF.wide (by omega) (by omega)) (fun _ _ _ => rfl) hp
            exact w
          · refine v_aload_n C dX5_wave_43 rfl ?_
            refine g_5_12 C (by assumption) (by assumption) wt_545 dX5_wave_44 ?_
            refine v_iload_n C dX5_wave_47 rfl ?_
            first | refine v_ialdN C (by assumption) (by omega) (by omega) dX5_wave_48 ?_ | refine v_iald C (by assumption) (by assumption) dX5_wave_48 ?_
            rw [cW (by omega), q1 h40]
            refine v_i2l C dX5_wave_49 ?_
            refine v_lconst (v := lN 0) C dX5_wave_50 rfl ?_
            refine v_aload_n C dX5_wave_51 rfl ?_
            refine g_5_4 C (by assumption) (by assumption) wt_537 dX5_wave_52 ?_
            refine v_iload_n C dX5_wave_55 rfl ?_
            first | refine v_ialdN C (by assumption) (by omega) (by omega) dX5_wave_56 ?_ | refine v_iald C (by assumption) (by assumption) dX5_wave_56 ?_
            rw [c4]
            refine v_iconstN 1 C dX5_wave_57 ?_
            refine v_isub C dX5_wave_58 ?_
            refine v_i2l C dX5_wave_59 ?_
            refine v_callS3_1 C (m_X5_in T B) lk_X5_76 wt_627 dX5_wave_60 ⟨Nat.le_of_ble_eq_true rfl, Nat.le_of_ble_eq_true rfl⟩ (Nat.le_of_ble_eq_true rfl) ⟨Nat.le_of_ble_eq_true rfl, Nat.le_of_ble_eq_true rfl⟩ ?_
            refine c_in_k (by omega) (hlt h40) ?_
            first | refine v_if_neN C 73 dX5_wave_63 (by omega) (by decide) (fun h63 => ?_) (fun h63 => ?_) | refine v_if_ne C 73 dX5_wave_63 (by decide) (fun h63 => ?_) (fun h63 => ?_)
            · refine v_aload_n C dX5_wave_73 rfl ?_
              refine g_5_19 C (by assumption) (by assumption) wt_552 dX5_wave_74 ?_
              refine v_iload_n C dX5_wave_77 rfl ?_
              refine v_aload_n C dX5_wave_78 rfl ?_
              refine g_5_12 C (by assumption) (by assumption) wt_545 dX5_wave_79 ?_
              refine v_iload_n C dX5_wave_82 rfl ?_
              first | refine v_ialdN C (by assumption) (by omega) (by omega) dX5_wave_83 ?_ | refine v_iald C (by assumption) (by assumption) dX5_wave_83 ?_
              rw [cW (by omega), q1 h40]
              first | refine v_iastN C (by assumption) (by omega) (by omega) dX5_wave_84 ?_ | refine v_iast C (by assumption) (by assumption) dX5_wave_84 ?_
              first | refine v_iincN 1 C dX5_wave_85 rfl (by decide) ?_ | refine v_iinc C dX5_wave_85 rfl rfl (by decide) ?_
              refine v_goto C 33 dX5_wave_88 (by decide) ?_
              refine v_less (ih h40 _ (hF.mu (by omega) (by omega)) (fun i hi => ?_)) (by repeat (first | exact trivial | refine And.intro rfl ?_))
              by_cases e : i = j
              · subst e; rw [mu_at]; exact ⟨hmj h40, rfl⟩
              · rw [mu_other _ _ (by omega)]; exact hA i (by omega)
            · exact absurd h63 (by decide)
      refine v_aload_n C dX5_wave_0 rfl ?_
      refine v_iload_n C dX5_wave_1 rfl ?_
      refine v_callV1_1 C (m_X5_isScatter T B) lk_X5_80 ⟨wt_624, ws_22⟩ 5 rfl dX5_wave_2 ⟨Nat.le_of_ble_eq_true rfl, Nat.le_of_ble_eq_true rfl⟩ (Nat.le_of_ble_eq_true rfl) ⟨Nat.le_of_ble_eq_true rfl, Nat.le_of_ble_eq_true rfl⟩ (by assumption) (cTo_5 (by assumption)) ?_
      refine c_isS_k hM hn hn12 hk ?_
      first | refine v_if_neN C 14 dX5_wave_5 (by omega) (by decide) (fun h5 => ?_) (fun h5 => ?_) | refine v_if_ne C 14 dX5_wave_5 (by decide) (fun h5 => ?_) (fun h5 => ?_)
      · refine v_aload_n C dX5_wave_14 rfl ?_
        refine g_5_1 C (by assumption) (by assumption) wt_534 dX5_wave_15 ?_
        refine v_iload_n C dX5_wave_18 rfl ?_
        first | refine v_ialdN C (by assumption) (by omega) (by omega) dX5_wave_19 ?_ | refine v_iald C (by assumption) (by assumption) dX5_wave_19 ?_
        rw [hk1]
        refine v_iconstN 3 C dX5_wave_20 ?_
        first | refine v_icmp_neN C 31 dX5_wave_21 (by omega) (by omega) (by decide) (fun h21 => ?_) (fun h21 => ?_) | refine v_icmp_ne C 31 dX5_wave_21 (by decide) (fun h21 => ?_) (fun h21 => ?_)
        · refine v_iconstN 0 C dX5_wave_31 ?_
          refine v_istore_n C dX5_wave_32 (by decide) ?_
          exact v_less (loop 0 (Nat.zero_le _) I FrS.rf (fun i hi => absurd hi (by omega))) (by repeat (first | exact trivial | refine And.intro rfl ?_))
        · exact absurd h21 hkd
      · exact absurd h5 (by decide)
def s_X5_sum : Sp := fun av z S I J R Post => ∃ (M : Nat), ∃ (st : St), ∃ (s w : Int32), av = [.ref M, .int s, .int w] ∧ (MoS S R M) ∧ (Rm M st I) ∧ (Ok st) ∧ (Mq M (o_sum st s w).2 I J (fun I' J' => Post 0 (o_sum st s w).1 none z S I' J' R))
theorem c_X5_sum {M : Nat} {st : St} {s w : Int32} {z : Nat} {S : MS} {I : MI} {J : MJ} {R : MR} {Post : PT} (hM : MoS S R M) (hR : Rm M st I) (hO : Ok st) (hp : Mq M (o_sum st s w).2 I J (fun I' J' => Post 0 (o_sum st s w).1 none z S I' J' R)) : s_X5_sum [.ref M, .int s, .int w] z S I J R Post := ⟨M, st, s, w, rfl, hM, hR, hO, hp⟩
set_option maxRecDepth 100000 in
set_option maxHeartbeats 2000000 in
theorem m_X5_sum (T : TC) (B : Nat) : Mt T B yX5_sum cX5_sum 14 (some .long) 2 (rmL 3 0 0) s_X5_sum := by
  refine Mt_of rfl (by rintro _ _ _ _ _ _ _ ⟨_, _, _, _, rfl, -⟩; exact Nat.le_of_ble_eq_true rfl) ?_
  intro X av z S I J R Post h C Q hI
  obtain ⟨M, st, s, w, rfl, hM, hR, hO, hp⟩ := h
  have hn12 := hO.1
  obtain ⟨hn, htl, hms, htr, hrf⟩ := id hR
  obtain ⟨hS0, hr1, hr2, hr3, hr4, hr5, hr6, hr7, hr8, hr9, hr10, hr11, hr12, hr14, hr15, hr16, hr17, hr18, hr19, hr20, hs1, hs2, hs3, hs4, hs5, hs6, hs7, hs8, hs9, hs10, hs11, hs12, hs13, hs14, hs15, hs16, hs17, hs18, hs19⟩ := id hM
  unfold o_sum at hp
  rcases Oo_or s st.1 (by omega) with ho | ⟨k, hk, rfl⟩
  · rw [onS_o ho] at hp
    refine v_aload_n C dX5_sum_0 rfl ?_
    refine v_iload_n C dX5_sum_1 rfl ?_
    refine v_callV1_1 C (m_X5_isScatter T B) lk_X5_80 ⟨wt_624, ws_22⟩ 5 rfl dX5_sum_2 ⟨Nat.le_of_ble_eq_true rfl, Nat.le_of_ble_eq_true rfl⟩ (Nat.le_of_ble_eq_true rfl) ⟨Nat.le_of_ble_eq_true rfl, Nat.le_of_ble_eq_true rfl⟩ (by assumption) (cTo_5 (by assumption)) ?_
    refine c_isS_o hM hn hn12 ho ?_
    first | refine v_if_neN C 14 dX5_sum_5 (by omega) (by decide) (fun h5 => ?_) (fun h5 => ?_) | refine v_if_ne C 14 dX5_sum_5 (by decide) (fun h5 => ?_) (fun h5 => ?_)
    · exact absurd h5 (by decide)
    · refine v_aload_n C dX5_sum_8 rfl ?_
      refine v_iconst (v := -1) C dX5_sum_9 (by decide) ?_
      refine v_callV1_2 C (m_X5_refuseLong T B) lk_X5_143 ⟨wt_739, ws_28⟩ 5 rfl dX5_sum_10 ⟨Nat.le_of_ble_eq_true rfl, Nat.le_of_ble_eq_true rfl⟩ (Nat.le_of_ble_eq_true rfl) ⟨Nat.le_of_ble_eq_true rfl, Nat.le_of_ble_eq_true rfl⟩ (by assumption) (cTo_5 (by assumption)) ?_
      refine c_X5_refuseLong (k := 1) hM (by decide) (by decide) ?_
      refine v_lret C Q dX5_sum_13 (Nat.le_of_ble_eq_true rfl) (Nat.le_of_ble_eq_true rfl) ?_
      have w := Mq_rf (k := 1) hR (by decide) hp
      exact w
  · have hMs := hms k (by omega)
    have hMs0 := hMs
    obtain ⟨hk1, hk2, hk3, hk4, hk5, hk6, hk7, hk8, hk9⟩ := hMs
    have hOk := hO.2.1 k hk
    obtain ⟨o1, o2, o3, o4, o5, o6, o7, o8, o9, o10, o11, o12⟩ := id hOk
    rw [onS_k hk (by omega)] at hp
    rcases Oo_or w 3 (by omega) with hq | ⟨v, hv, rfl⟩
    · rw [onS_o hq] at hp
      refine v_aload_n C dX5_sum_0 rfl ?_
      refine v_iload_n C dX5_sum_1 rfl ?_
      refine v_callV1_1 C (m_X5_isScatter T B) lk_X5_80 ⟨wt_624, ws_22⟩ 5 rfl dX5_sum_2 ⟨Nat.le_of_ble_eq_true rfl, Nat.le_of_ble_eq_true rfl⟩ (Nat.le_of_ble_eq_true rfl) ⟨Nat.le_of_ble_eq_true rfl, Nat.le_of_ble_eq_true rfl⟩ (by assumption) (cTo_5 (by assumption)) ?_
      refine c_isS_k hM hn hn12 hk ?_
      first | refine v_if_neN C 14 dX5_sum_5 (by omega) (by decide) (fun h5 => ?_) (fun h5 => ?_) | refine v_if_ne C 14 dX5_sum_5 (by decide) (fun h5 => ?_) (fun h5 => ?_)
      · refine v_iload_n C dX5_sum_14 rfl ?_
        refine v_i2l C dX5_sum_15 ?_
        refine v_lconst (v := lN 0) C dX5_sum_16 rfl ?_
        refine v_ldc2 C dX5_sum_17 wt_768 ?_
        refine v_eql (x' := lN 2) (by decide +kernel) ?_
        refine v_callS3_1 C (m_X5_in T B) lk_X5_76 wt_627 dX5_sum_20 ⟨Nat.le_of_ble_eq_true rfl, Nat.le_of_ble_eq_true rfl⟩ (Nat.le_of_ble_eq_true rfl) ⟨Nat.le_of_ble_eq_true rfl, Nat.le_of_ble_eq_true rfl⟩ ?_
        refine c_inN_o (n := 2) (by decide) hq ?_
        first | refine v_if_neN C 33 dX5_sum_23 (by omega) (by decide) (fun h23 => ?_) (fun h23 => ?_) | refine v_if_ne C 33 dX5_sum_23 (by decide) (fun h23 => ?_) (fun h23 => ?_)
        · exact absurd h23 (by decide)
        · refine v_aload_n C dX5_sum_26 rfl ?_
          refine v_bipush (v := -2) C dX5_sum_27 (by decide) ?_
          refine v_callV1_2 C (m_X5_refuseLong T B) lk_X5_143 ⟨wt_739, ws_28⟩ 5 rfl dX5_sum_29 ⟨Nat.le_of_ble_eq_true rfl, Nat.le_of_ble_eq_true rfl⟩ (Nat.le_of_ble_eq_true rfl) ⟨Nat.le_of_ble_eq_true rfl, Nat.le_of_ble_eq_true rfl⟩ (by assumption) (cTo_5 (by assumption)) ?_
          refine c_X5_refuseLong (k := 2) hM (by decide) (by decide) ?_
          refine v_lret C Q dX5_sum_32 (Nat.le_of_ble_eq_true rfl) (Nat.le_of_ble_eq_true rfl) ?_
          have w := Mq_rf (k := 2) hR (by decide) hp
          exact w
      · exact absurd h5 (by decide)
    · rw [onS_k hv (by omega)] at hp
      have hMk : ∀ j, j < 6 → I (M + 12) j = st.2.2 2 j := fun j hj => (htr j hj).2.2
      have fin : allB (myW st.2.2 (nI 5)) (st.2.1 k 2 0) = true → sumN (mW st.2.2) (st.2.1 k 2 0) ≤ 5 → V X 0 0 z S I J R 137 [some (.ref M), some (.int (nI k)), some (.int (nI v)), some (.long (lN (sumN (mW st.2.2) (st.2.1 k 2 0)))), none, some (.long (lN (exW (mW st.2.2) (st.2.1 k 2 0)))), none, none, none, none, none, none, none, none] [] := by
        intro hA h5
        rw [if_pos ⟨hA, h5⟩] at hp
        obtain ⟨b1, b2', b3, b4⟩ := sum_bd (m := mW st.2.2) hOk h5
        have hm : ∀ j, j < st.2.1 k 2 0 → I (M + 12) j = nI (mW st.2.2 j) ∧ mW st.2.2 j ≤ 5 := fun j hj => ⟨(hMk j (by omega)).trans (my_nI (by omega) (allB_iff.mp hA j hj)).1, (my_nI (by omega) (allB_iff.mp hA j hj)).2⟩
        have aft : V X 0 0 z S I J R 215 [some (.ref M), some (.int (nI k)), some (.int (nI v)), some (.long (lN (sumN (mW st.2.2) (st.2.1 k 2 0)))), none, some (.long (lN (exW (mW st.2.2) (st.2.1 k 2 0)))), none, none, some (.long (lN (smW (st.2.1 k) (mW st.2.2) (st.2.1 k 4 0)))), none, none, none, none, none] [] := by
          unfold sumW at hp
          generalize hsm : smW (st.2.1 k) (mW st.2.2) (st.2.1 k 4 0) = sm at *
          refine v_iload_n C dX5_sum_215 rfl ?_
          first | refine v_if_neN C 222 dX5_sum_216 (by omega) (by decide) (fun h216 => ?_) (fun h216 => ?_) | refine v_if_ne C 222 dX5_sum_216 (by decide) (fun h216 => ?_) (fun h216 => ?_)
          · rw [if_neg h216] at hp
            refine v_aload_n C dX5_sum_222 rfl ?_
            refine g_5_4 C (by assumption) (by assumption) wt_537 dX5_sum_223 ?_
            refine v_iload_n C dX5_sum_226 rfl ?_
            first | refine v_ialdN C (by assumption) (by omega) (by omega) dX5_sum_227 ?_ | refine v_iald C (by assumption) (by assumption) dX5_sum_227 ?_
            rw [hk4]
            first | refine v_i2lN C dX5_sum_228 (by omega) ?_ | refine v_i2l C dX5_sum_228 ?_
            refine v_lload_n C dX5_sum_229 rfl ?_
            first | refine v_l2iN C dX5_sum_230 ?_ | refine v_l2i C dX5_sum_230 ?_
            refine v_iconstN 1 C dX5_sum_231 ?_
            first | refine v_iaddN C dX5_sum_232 ?_ | refine v_iadd C dX5_sum_232 ?_
            refine v_callS2_2 C (m_X5_power T B) lk_X5_140 wt_751 dX5_sum_233 ⟨Nat.le_of_ble_eq_true rfl, Nat.le_of_ble_eq_true rfl⟩ (Nat.le_of_ble_eq_true rfl) ⟨Nat.le_of_ble_eq_true rfl, Nat.le_of_ble_eq_true rfl⟩ ?_
            refine c_X5_power (by omega) ?_
            refine v_lstore C dX5_sum_236 (by decide) ?_
            refine v_lload C dX5_sum_238 rfl ?_
            refine v_lload C dX5_sum_240 rfl ?_
            first | refine v_lmulN C dX5_sum_242 ?_ | refine v_lmul C dX5_sum_242 ?_
            refine v_lload C dX5_sum_243 rfl ?_
            refine v_lsub C dX5_sum_245 ?_
            refine v_lload C dX5_sum_246 rfl ?_
            refine v_lload C dX5_sum_248 rfl ?_
            first | refine v_lmulN C dX5_sum_250 ?_ | refine v_lmul C dX5_sum_250 ?_
            refine v_iload_n C dX5_sum_251 rfl ?_
            refine v_iconstN 1 C dX5_sum_252 ?_
            first | refine v_icmp_neN C 260 dX5_sum_253 (by omega) (by omega) (by decide) (fun h253 => ?_) (fun h253 => ?_) | refine v_icmp_ne C 260 dX5_sum_253 (by decide) (fun h253 => ?_) (fun h253 => ?_)
            · rw [show decide (v = 2) = decide (0 = 0) from by rw [decide_eq_true (show v = 2 by omega), decide_eq_true rfl]] at hp
              refine v_iconstN 0 C dX5_sum_260 ?_
              refine v_callS3_2 C (m_X5_ratio T B) lk_X5_151 wt_754 dX5_sum_261 ⟨Nat.le_of_ble_eq_true rfl, Nat.le_of_ble_eq_true rfl⟩ (Nat.le_of_ble_eq_true rfl) ⟨Nat.le_of_ble_eq_true rfl, Nat.le_of_ble_eq_true rfl⟩ ?_
              refine c_X5_ratio (by rw [sub_I (by omega) (by omega)]; omega) (by omega) b4 (by omega) ?_
              refine v_lret C Q dX5_sum_264 (Nat.le_of_ble_eq_true rfl) (Nat.le_of_ble_eq_true rfl) ?_
              have w := Mq_same hR hp
              exact w
            · rw [show decide (v = 2) = decide (1 = 0) from by rw [decide_eq_false (show ¬ v = 2 by omega), decide_eq_false (by decide)]] at hp
              refine v_iconstN 1 C dX5_sum_256 ?_
              refine v_goto C 261 dX5_sum_257 (by decide) ?_
              refine v_callS3_2 C (m_X5_ratio T B) lk_X5_151 wt_754 dX5_sum_261 ⟨Nat.le_of_ble_eq_true rfl, Nat.le_of_ble_eq_true rfl⟩ (Nat.le_of_ble_eq_true rfl) ⟨Nat.le_of_ble_eq_true rfl, Nat.le_of_ble_eq_true rfl⟩ ?_
              refine c_X5_ratio (by rw [sub_I (by omega) (by omega)]; omega) (by omega) b4 (by omega) ?_
              refine v_lret C Q dX5_sum_264 (Nat.le_of_ble_eq_true rfl) (Nat.le_of_ble_eq_true rfl) ?_
              have w := Mq_same hR hp
              exact w
          · rw [if_pos h216] at hp
            refine v_lload C dX5_sum_219 rfl ?_
            refine v_lret C Q dX5_sum_221 (Nat.le_of_ble_eq_true rfl) (Nat.le_of_ble_eq_true rfl) ?_
            have w := Mq_same hR hp
            exact w
        have inner : ∀ n : Nat, n < st.2.1 k 4 0 → ∀ j : Nat, j ≤ st.2.1 k 2 0 → V X 0 0 z S I J R 143 [some (.ref M), some (.int (nI k)), some (.int (nI v)), some (.long (lN (sumN (mW st.2.2) (st.2.1 k 2 0)))), none, some (.long (lN (exW (mW st.2.2) (st.2.1 k 2 0)))), none, none, some (.long (lN (smW (st.2.1 k) (mW st.2.2) (n + 1)))), none, some (.int (nI (n + 1))), none, none, none] [] → V X 0 0 z S I J R 160 [some (.ref M), some (.int (nI k)), some (.int (nI v)), some (.long (lN (sumN (mW st.2.2) (st.2.1 k 2 0)))), none, some (.long (lN (exW (mW st.2.2) (st.2.1 k 2 0)))), none, none, some (.long (lN (smW (st.2.1 k) (mW st.2.2) n))), none, some (.int (nI n)), some (.long (lN (prodN (fun j => prt (st.2.1 k) n j ^ mW st.2.2 j) j))), none, some (.int (nI j))] [] := by
          intro n hn2
          refine lp_up (st.2.1 k 2 0) ?_
          intro j hj ih K
          have hpl := prt_lt hOk n j
          refine v_iload C dX5_sum_160 rfl ?_
          refine v_aload_n C dX5_sum_162 rfl ?_
          refine g_5_2 C (by assumption) (by assumption) wt_535 dX5_sum_163 ?_
          refine v_iload_n C dX5_sum_166 rfl ?_
          first | refine v_ialdN C (by assumption) (by omega) (by omega) dX5_sum_167 ?_ | refine v_iald C (by assumption) (by assumption) dX5_sum_167 ?_
          rw [hk2]
          first | refine v_icmp_geN C 202 dX5_sum_168 (by omega) (by omega) (by decide) (fun h168 => ?_) (fun h168 => ?_) | refine v_icmp_ge C 202 dX5_sum_168 (by decide) (fun h168 => ?_) (fun h168 => ?_)
          · refine v_lload C dX5_sum_202 rfl ?_
            refine v_lload C dX5_sum_204 rfl ?_
            first | refine v_laddN C dX5_sum_206 ?_ | refine v_ladd C dX5_sum_206 ?_
            refine v_lstore C dX5_sum_207 (by decide) ?_
            first | refine v_iincN 1 C dX5_sum_209 rfl (by decide) ?_ | refine v_iinc C dX5_sum_209 rfl rfl (by decide) ?_
            refine v_goto C 143 dX5_sum_212 (by decide) ?_
            obtain rfl : j = st.2.1 k 2 0 := by omega
            exact v_less K (by repeat (first | exact trivial | refine And.intro rfl ?_))
          · refine v_lload C dX5_sum_171 rfl ?_
            refine v_aload_n C dX5_sum_173 rfl ?_
            refine v_iload_n C dX5_sum_174 rfl ?_
            refine v_iload C dX5_sum_175 rfl ?_
            refine v_iload C dX5_sum_177 rfl ?_
            refine v_callV3_1 C (m_X5_partOf T B) lk_X5_109 ⟨wt_670, ws_23⟩ 5 rfl dX5_sum_179 ⟨Nat.le_of_ble_eq_true rfl, Nat.le_of_ble_eq_true rfl⟩ (Nat.le_of_ble_eq_true rfl) ⟨Nat.le_of_ble_eq_true rfl, Nat.le_of_ble_eq_true rfl⟩ (by assumption) (cTo_5 (by assumption)) ?_
            refine c_X5_partOf hM hMs0 (by omega) hOk hn2 (by omega) ?_
            first | refine v_i2lN C dX5_sum_182 (by omega) ?_ | refine v_i2l C dX5_sum_182 ?_
            refine v_aload_n C dX5_sum_183 rfl ?_
            refine g_5_12 C (by assumption) (by assumption) wt_545 dX5_sum_184 ?_
            refine v_iload C dX5_sum_187 rfl ?_
            first | refine v_ialdN C (by assumption) (by omega) (by omega) dX5_sum_189 ?_ | refine v_iald C (by assumption) (by assumption) dX5_sum_189 ?_
            rw [(hm j h168).1]
            have hm5 := (hm j h168).2
            refine v_callS2_2 C (m_X5_power T B) lk_X5_140 wt_751 dX5_sum_190 ⟨Nat.le_of_ble_eq_true rfl, Nat.le_of_ble_eq_true rfl⟩ (Nat.le_of_ble_eq_true rfl) ⟨Nat.le_of_ble_eq_true rfl, Nat.le_of_ble_eq_true rfl⟩ ?_
            refine c_X5_power (by omega) ?_
            first | refine v_lmulN C dX5_sum_193 ?_ | refine v_lmul C dX5_sum_193 ?_
            refine v_lstore C dX5_sum_194 (by decide) ?_
            first | refine v_iincN 1 C dX5_sum_196 rfl (by decide) ?_ | refine v_iinc C dX5_sum_196 rfl rfl (by decide) ?_
            refine v_goto C 160 dX5_sum_199 (by decide) ?_
            exact v_less (ih h168 K) (by repeat (first | exact trivial | refine And.intro rfl ?_))
        have loop : ∀ n : Nat, n ≤ st.2.1 k 4 0 → V X 0 0 z S I J R 143 [some (.ref M), some (.int (nI k)), some (.int (nI v)), some (.long (lN (sumN (mW st.2.2) (st.2.1 k 2 0)))), none, some (.long (lN (exW (mW st.2.2) (st.2.1 k 2 0)))), none, none, some (.long (lN (smW (st.2.1 k) (mW st.2.2) n))), none, some (.int (nI n)), none, none, none] [] := by
          refine lp_up (st.2.1 k 4 0) ?_
          intro n hn2 ih
          refine v_iload C dX5_sum_143 rfl ?_
          refine v_aload_n C dX5_sum_145 rfl ?_
          refine g_5_4 C (by assumption) (by assumption) wt_537 dX5_sum_146 ?_
          refine v_iload_n C dX5_sum_149 rfl ?_
          first | refine v_ialdN C (by assumption) (by omega) (by omega) dX5_sum_150 ?_ | refine v_iald C (by assumption) (by assumption) dX5_sum_150 ?_
          rw [hk4]
          first | refine v_icmp_geN C 215 dX5_sum_151 (by omega) (by omega) (by decide) (fun h151 => ?_) (fun h151 => ?_) | refine v_icmp_ge C 215 dX5_sum_151 (by decide) (fun h151 => ?_) (fun h151 => ?_)
          · obtain rfl : n = st.2.1 k 4 0 := by omega
            exact v_less aft (by repeat (first | exact trivial | refine And.intro rfl ?_))
          · refine v_lconst (v := lN 1) C dX5_sum_154 rfl ?_
            refine v_lstore C dX5_sum_155 (by decide) ?_
            refine v_iconstN 0 C dX5_sum_157 ?_
            refine v_istore C dX5_sum_158 (by decide) ?_
            exact v_less (inner n h151 0 (Nat.zero_le _) (ih h151)) (by repeat (first | exact trivial | refine And.intro rfl ?_))
        refine v_lconst (v := lN 0) C dX5_sum_137 rfl ?_
        refine v_lstore C dX5_sum_138 (by decide) ?_
        refine v_iconstN 0 C dX5_sum_140 ?_
        refine v_istore C dX5_sum_141 (by decide) ?_
        exact v_less (loop 0 (Nat.zero_le _)) (by repeat (first | exact trivial | refine And.intro rfl ?_))
      have chk : ∀ j : Nat, j ≤ st.2.1 k 2 0 → ∀ A B2 : Int64, (allB (myW st.2.2 (nI 5)) j = true → A = lN (sumN (mW st.2.2) j) ∧ B2 = lN (exW (mW st.2.2) j)) → V X 0 0 z S I J R 44 [some (.ref M), some (.int (nI k)), some (.int (nI v)), some (.long A), none, some (.long B2), none, some (.int (nI (b2 (allB (myW st.2.2 (nI 5)) j)))), some (.int (nI j)), none, none, none, none, none] [] := by
        refine lp_up (st.2.1 k 2 0) ?_
        intro j hj ih A B2 hAB
        have nx : j < st.2.1 k 2 0 → ∀ g : Bool, g = (allB (myW st.2.2 (nI 5)) j && myW st.2.2 (nI 5) j) → V X 0 0 z S I J R 83 [some (.ref M), some (.int (nI k)), some (.int (nI v)), some (.long A), none, some (.long B2), none, none, some (.int (nI j)), none, none, none, none, none] [.int (nI (b2 g))] := by
          intro hlt g hg
          have hh := ih hlt (A + (st.2.2 2 j).toInt64) (B2 * ((st.2.2 2 j).toInt64 + lN 1)) (fun hT => by
            rw [show allB (myW st.2.2 (nI 5)) (j + 1) = (allB (myW st.2.2 (nI 5)) j && myW st.2.2 (nI 5) j) from rfl, Bool.and_eq_true] at hT
            obtain ⟨q1, q2⟩ := my_nI (by decide) hT.2
            obtain ⟨r1, r2⟩ := hAB hT.1
            rw [q1, r1, r2, nI_l (by omega), lN_add, lN_add, lN_mul]
            exact ⟨rfl, rfl⟩)
          rw [show allB (myW st.2.2 (nI 5)) (j + 1) = g from hg.symm] at hh
          refine v_istore C dX5_sum_83 (by decide) ?_
          refine v_lload_n C dX5_sum_85 rfl ?_
          refine v_aload_n C dX5_sum_86 rfl ?_
          refine g_5_12 C (by assumption) (by assumption) wt_545 dX5_sum_87 ?_
          refine v_iload C dX5_sum_90 rfl ?_
          first | refine v_ialdN C (by assumption) (by omega) (by omega) dX5_sum_92 ?_ | refine v_iald C (by assumption) (by assumption) dX5_sum_92 ?_
          rw [hMk j (by omega)]
          refine v_i2l C dX5_sum_93 ?_
          refine v_ladd C dX5_sum_94 ?_
          refine v_lstore_n C dX5_sum_95 (by decide) ?_
          refine v_lload C dX5_sum_96 rfl ?_
          refine v_aload_n C dX5_sum_98 rfl ?_
          refine g_5_12 C (by assumption) (by assumption) wt_545 dX5_sum_99 ?_
          refine v_iload C dX5_sum_102 rfl ?_
          first | refine v_ialdN C (by assumption) (by omega) (by omega) dX5_sum_104 ?_ | refine v_iald C (by assumption) (by assumption) dX5_sum_104 ?_
          rw [hMk j (by omega)]
          refine v_i2l C dX5_sum_105 ?_
          refine v_lconst (v := lN 1) C dX5_sum_106 rfl ?_
          refine v_ladd C dX5_sum_107 ?_
          refine v_lmul C dX5_sum_108 ?_
          refine v_lstore C dX5_sum_109 (by decide) ?_
          first | refine v_iincN 1 C dX5_sum_111 rfl (by decide) ?_ | refine v_iinc C dX5_sum_111 rfl rfl (by decide) ?_
          refine v_goto C 44 dX5_sum_114 (by decide) ?_
          exact v_less hh (by repeat (first | exact trivial | refine And.intro rfl ?_))
        have oo : j < st.2.1 k 2 0 → ∀ {Post' : PT}, (myW st.2.2 (nI 5) j = true → Post' (nI 1) 0 none z S I J R) → (myW st.2.2 (nI 5) j = false → Post' (nI 0) 0 none z S I J R) → s_X5_in [.long (st.2.2 2 j).toInt64, .long (lN 0), .long (lN 5)] z S I J R Post' := fun hlt Post' k1 k2 => by
          cases hq : myW st.2.2 (nI 5) j with
          | true => exact c_inN_k (by decide) (my_no (by decide) hq) (k1 hq)
          | false => exact c_inN_o (by decide) (my_Oo (by decide) (by rw [hq]; decide)) (k2 hq)
        cases hg0 : allB (myW st.2.2 (nI 5)) j with
        | false =>
          rw [hg0] at nx hAB
          refine v_iload C dX5_sum_44 rfl ?_
          refine v_aload_n C dX5_sum_46 rfl ?_
          refine g_5_2 C (by assumption) (by assumption) wt_535 dX5_sum_47 ?_
          refine v_iload_n C dX5_sum_50 rfl ?_
          first | refine v_ialdN C (by assumption) (by omega) (by omega) dX5_sum_51 ?_ | refine v_iald C (by assumption) (by assumption) dX5_sum_51 ?_
          rw [hk2]
          first | refine v_icmp_geN C 117 dX5_sum_52 (by omega) (by omega) (by decide) (fun h52 => ?_) (fun h52 => ?_) | refine v_icmp_ge C 117 dX5_sum_52 (by decide) (fun h52 => ?_) (fun h52 => ?_)
          · refine v_iload C dX5_sum_117 rfl ?_
            first | refine v_if_eqN C 130 dX5_sum_119 (by omega) (by decide) (fun h119 => ?_) (fun h119 => ?_) | refine v_if_eq C 130 dX5_sum_119 (by decide) (fun h119 => ?_) (fun h119 => ?_)
            · refine v_aload_n C dX5_sum_130 rfl ?_
              refine v_bipush (v := -3) C dX5_sum_131 (by decide) ?_
              refine v_callV1_2 C (m_X5_refuseLong T B) lk_X5_143 ⟨wt_739, ws_28⟩ 5 rfl dX5_sum_133 ⟨Nat.le_of_ble_eq_true rfl, Nat.le_of_ble_eq_true rfl⟩ (Nat.le_of_ble_eq_true rfl) ⟨Nat.le_of_ble_eq_true rfl, Nat.le_of_ble_eq_true rfl⟩ (by assumption) (cTo_5 (by assumption)) ?_
              refine c_X5_refuseLong (k := 3) hM (by decide) (by decide) ?_
              refine v_lret C Q dX5_sum_136 (Nat.le_of_ble_eq_true rfl) (Nat.le_of_ble_eq_true rfl) ?_
              obtain rfl : j = st.2.1 k 2 0 := by omega
              rw [if_neg (by rw [hg0]; exact fun q => absurd q.1 (by decide))] at hp
              have w := Mq_rf (k := 3) hR (by decide) hp
              exact w
            · exact absurd rfl h119
          · refine v_iload C dX5_sum_55 rfl ?_
            first | refine v_if_eqN C 82 dX5_sum_57 (by omega) (by decide) (fun h57 => ?_) (fun h57 => ?_) | refine v_if_eq C 82 dX5_sum_57 (by decide) (fun h57 => ?_) (fun h57 => ?_)
            · refine v_iconstN 0 C dX5_sum_82 ?_
              exact v_less (nx h52 false rfl) (by repeat (first | exact trivial | refine And.intro rfl ?_))
            · exact absurd rfl h57
        | true =>
          rw [hg0] at nx hAB
          obtain ⟨r1, r2⟩ := hAB rfl
          have hsl : sumN (mW st.2.2) j ≤ j * 5 := sumN_le (fun i hi => (my_nI (by decide) (allB_iff.mp hg0 i hi)).2)
          refine v_iload C dX5_sum_44 rfl ?_
          refine v_aload_n C dX5_sum_46 rfl ?_
          refine g_5_2 C (by assumption) (by assumption) wt_535 dX5_sum_47 ?_
          refine v_iload_n C dX5_sum_50 rfl ?_
          first | refine v_ialdN C (by assumption) (by omega) (by omega) dX5_sum_51 ?_ | refine v_iald C (by assumption) (by assumption) dX5_sum_51 ?_
          rw [hk2]
          first | refine v_icmp_geN C 117 dX5_sum_52 (by omega) (by omega) (by decide) (fun h52 => ?_) (fun h52 => ?_) | refine v_icmp_ge C 117 dX5_sum_52 (by decide) (fun h52 => ?_) (fun h52 => ?_)
          · refine v_iload C dX5_sum_117 rfl ?_
            first | refine v_if_eqN C 130 dX5_sum_119 (by omega) (by decide) (fun h119 => ?_) (fun h119 => ?_) | refine v_if_eq C 130 dX5_sum_119 (by decide) (fun h119 => ?_) (fun h119 => ?_)
            · exact absurd h119 (by decide)
            · refine v_lload_n C dX5_sum_122 rfl ?_
              refine v_ldc2 C dX5_sum_123 wt_688 ?_
              refine v_eql (x' := lN 5) (by decide +kernel) ?_
              rw [r1]
              refine v_lcmp C dX5_sum_126 ?_
              first | refine v_lcif_leN C 137 dX5_sum_127 (by omega) (by omega) (by decide) (fun h127 => ?_) (fun h127 => ?_) | refine v_lcif_le C 137 dX5_sum_127 (by decide) (fun h127 => ?_) (fun h127 => ?_)
              · obtain rfl : j = st.2.1 k 2 0 := by omega
                subst r1 r2
                exact v_less (fin hg0 (by omega)) (by repeat (first | exact trivial | refine And.intro rfl ?_))
              · refine v_aload_n C dX5_sum_130 rfl ?_
                refine v_bipush (v := -3) C dX5_sum_131 (by decide) ?_
                refine v_callV1_2 C (m_X5_refuseLong T B) lk_X5_143 ⟨wt_739, ws_28⟩ 5 rfl dX5_sum_133 ⟨Nat.le_of_ble_eq_true rfl, Nat.le_of_ble_eq_true rfl⟩ (Nat.le_of_ble_eq_true rfl) ⟨Nat.le_of_ble_eq_true rfl, Nat.le_of_ble_eq_true rfl⟩ (by assumption) (cTo_5 (by assumption)) ?_
                refine c_X5_refuseLong (k := 3) hM (by decide) (by decide) ?_
                refine v_lret C Q dX5_sum_136 (Nat.le_of_ble_eq_true rfl) (Nat.le_of_ble_eq_true rfl) ?_
                obtain rfl : j = st.2.1 k 2 0 := by omega
                rw [if_neg (fun q => by have := q.2; omega)] at hp
                have w := Mq_rf (k := 3) hR (by decide) hp
                exact w
          · refine v_iload C dX5_sum_55 rfl ?_
            first | refine v_if_eqN C 82 dX5_sum_57 (by omega) (by decide) (fun h57 => ?_) (fun h57 => ?_) | refine v_if_eq C 82 dX5_sum_57 (by decide) (fun h57 => ?_) (fun h57 => ?_)
            · exact absurd h57 (by decide)
            · refine v_aload_n C dX5_sum_60 rfl ?_
              refine g_5_12 C (by assumption) (by assumption) wt_545 dX5_sum_61 ?_
              refine v_iload C dX5_sum_64 rfl ?_
              first | refine v_ialdN C (by assumption) (by omega) (by omega) dX5_sum_66 ?_ | refine v_iald C (by assumption) (by assumption) dX5_sum_66 ?_
              rw [hMk j (by omega)]
              refine v_i2l C dX5_sum_67 ?_
              refine v_lconst (v := lN 0) C dX5_sum_68 rfl ?_
              refine v_ldc2 C dX5_sum_69 wt_688 ?_
              refine v_eql (x' := lN 5) (by decide +kernel) ?_
              refine v_callS3_1 C (m_X5_in T B) lk_X5_76 wt_627 dX5_sum_72 ⟨Nat.le_of_ble_eq_true rfl, Nat.le_of_ble_eq_true rfl⟩ (Nat.le_of_ble_eq_true rfl) ⟨Nat.le_of_ble_eq_true rfl, Nat.le_of_ble_eq_true rfl⟩ ?_
              refine oo h52 (fun hq => ?_) (fun hq => ?_)
              · first | refine v_if_eqN C 82 dX5_sum_75 (by omega) (by decide) (fun h75 => ?_) (fun h75 => ?_) | refine v_if_eq C 82 dX5_sum_75 (by decide) (fun h75 => ?_) (fun h75 => ?_)
                · exact absurd h75 (by decide)
                · refine v_iconstN 1 C dX5_sum_78 ?_
                  refine v_goto C 83 dX5_sum_79 (by decide) ?_
                  exact v_less (nx h52 true (by rw [hq]; rfl)) (by repeat (first | exact trivial | refine And.intro rfl ?_))
              · first | refine v_if_eqN C 82 dX5_sum_75 (by omega) (by decide) (fun h75 => ?_) (fun h75 => ?_) | refine v_if_eq C 82 dX5_sum_75 (by decide) (fun h75 => ?_) (fun h75 => ?_)
                · refine v_iconstN 0 C dX5_sum_82 ?_
                  exact v_less (nx h52 false (by rw [hq]; rfl)) (by repeat (first | exact trivial | refine And.intro rfl ?_))
                · exact absurd rfl h75
      refine v_aload_n C dX5_sum_0 rfl ?_
      refine v_iload_n C dX5_sum_1 rfl ?_
      refine v_callV1_1 C (m_X5_isScatter T B) lk_X5_80 ⟨wt_624, ws_22⟩ 5 rfl dX5_sum_2 ⟨Nat.le_of_ble_eq_true rfl, Nat.le_of_ble_eq_true rfl⟩ (Nat.le_of_ble_eq_true rfl) ⟨Nat.le_of_ble_eq_true rfl, Nat.le_of_ble_eq_true rfl⟩ (by assumption) (cTo_5 (by assumption)) ?_
      refine c_isS_k hM hn hn12 hk ?_
      first | refine v_if_neN C 14 dX5_sum_5 (by omega) (by decide) (fun h5 => ?_) (fun h5 => ?_) | refine v_if_ne C 14 dX5_sum_5 (by decide) (fun h5 => ?_) (fun h5 => ?_)
      · refine v_iload_n C dX5_sum_14 rfl ?_
        refine v_i2l C dX5_sum_15 ?_
        refine v_lconst (v := lN 0) C dX5_sum_16 rfl ?_
        refine v_ldc2 C dX5_sum_17 wt_768 ?_
        refine v_eql (x' := lN 2) (by decide +kernel) ?_
        refine v_callS3_1 C (m_X5_in T B) lk_X5_76 wt_627 dX5_sum_20 ⟨Nat.le_of_ble_eq_true rfl, Nat.le_of_ble_eq_true rfl⟩ (Nat.le_of_ble_eq_true rfl) ⟨Nat.le_of_ble_eq_true rfl, Nat.le_of_ble_eq_true rfl⟩ ?_
        refine c_inN_k (n := 2) (by decide) (Oo_not hv (by decide)) ?_
        first | refine v_if_neN C 33 dX5_sum_23 (by omega) (by decide) (fun h23 => ?_) (fun h23 => ?_) | refine v_if_ne C 33 dX5_sum_23 (by decide) (fun h23 => ?_) (fun h23 => ?_)
        · refine v_lconst (v := lN 0) C dX5_sum_33 rfl ?_
          refine v_lstore_n C dX5_sum_34 (by decide) ?_
          refine v_lconst (v := lN 1) C dX5_sum_35 rfl ?_
          refine v_lstore C dX5_sum_36 (by decide) ?_
          refine v_iconstN 1 C dX5_sum_38 ?_
          refine v_istore C dX5_sum_39 (by decide) ?_
          refine v_iconstN 0 C dX5_sum_41 ?_
          refine v_istore C dX5_sum_42 (by decide) ?_
          exact v_less (chk 0 (Nat.zero_le _) (lN 0) (lN 1) (fun _ => ⟨rfl, rfl⟩)) (by repeat (first | exact trivial | refine And.intro rfl ?_))
        · exact absurd h23 (by decide)
      · exact absurd h5 (by decide)
