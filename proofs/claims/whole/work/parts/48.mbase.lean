theorem l_I (s : Int32) : s.toInt64.toInt = s.toInt := Int32.toInt_toInt64 s
theorem in_iff {s : Int32} {n : Nat} (hn : n < 2147483648) : (lN 0 ≤ s.toInt64 ∧ s.toInt64 ≤ (nI n - nI 1).toInt64) ↔ ¬ Oo s n := by
  have e1 : (nI n - nI 1).toInt = (n : Int) - 1 := by
    rw [Int32.toInt_sub, nI_toInt hn, nI_toInt (by decide)]
    exact Int.bmod_eq_of_le (by omega) (by omega)
  have e0 : (lN 0).toInt = 0 := rfl
  have z0 : (0 : Int32).toInt = 0 := rfl
  unfold Oo
  rw [Int64.le_iff_toInt_le, Int64.le_iff_toInt_le, l_I, l_I, e1, e0, Int32.lt_iff_toInt_lt, Int32.le_iff_toInt_le, nI_toInt hn, z0]
  omega
theorem in_iffN {s : Int32} {n : Nat} (hn : n < 2147483647) : (lN 0 ≤ s.toInt64 ∧ s.toInt64 ≤ lN n) ↔ ¬ Oo s (n + 1) := by
  have e0 : (lN 0).toInt = 0 := rfl
  have z0 : (0 : Int32).toInt = 0 := rfl
  unfold Oo
  rw [Int64.le_iff_toInt_le, Int64.le_iff_toInt_le, l_I, e0, lN_I (by omega), Int32.lt_iff_toInt_lt, Int32.le_iff_toInt_le, nI_toInt (by omega), z0]
  omega
theorem c_in_o {s : Int32} {n : Nat} {z : Nat} {S : MS} {I : MI} {J : MJ} {R : MR} {Post : PT} (hn : n < 2147483648) (ho : Oo s n) (hp : Post (nI 0) 0 none z S I J R) : s_X5_in [.long s.toInt64, .long (lN 0), .long (nI n - nI 1).toInt64] z S I J R Post :=
  c_X5_in ⟨fun h1 h2 => absurd ho ((in_iff hn).mp ⟨h1, h2⟩), fun _ => hp⟩
theorem c_in_k {k n : Nat} {z : Nat} {S : MS} {I : MI} {J : MJ} {R : MR} {Post : PT} (hn : n < 2147483648) (hk : k < n) (hp : Post (nI 1) 0 none z S I J R) : s_X5_in [.long (nI k).toInt64, .long (lN 0), .long (nI n - nI 1).toInt64] z S I J R Post :=
  c_X5_in ⟨fun _ _ => hp, fun q => absurd ((in_iff hn).mpr (Oo_not hk hn)) q⟩
theorem c_inN_o {s : Int32} {n : Nat} {z : Nat} {S : MS} {I : MI} {J : MJ} {R : MR} {Post : PT} (hn : n < 2147483647) (ho : Oo s (n + 1)) (hp : Post (nI 0) 0 none z S I J R) : s_X5_in [.long s.toInt64, .long (lN 0), .long (lN n)] z S I J R Post :=
  c_X5_in ⟨fun h1 h2 => absurd ho ((in_iffN hn).mp ⟨h1, h2⟩), fun _ => hp⟩
theorem c_inN_k {s : Int32} {n : Nat} {z : Nat} {S : MS} {I : MI} {J : MJ} {R : MR} {Post : PT} (hn : n < 2147483647) (hk : ¬ Oo s (n + 1)) (hp : Post (nI 1) 0 none z S I J R) : s_X5_in [.long s.toInt64, .long (lN 0), .long (lN n)] z S I J R Post :=
  c_X5_in ⟨fun _ _ => hp, fun q => absurd ((in_iffN hn).mpr hk) q⟩
def s_X5_refuse : Sp := fun av z S I J R Post => ∃ (M k : Nat), ∃ (v : Int32), av = [.ref M, .int v] ∧ (MoS S R M) ∧ (-v = nI k) ∧ (k < 7) ∧ (Post v 0 none z S (mu I (M + 13) k (I (M + 13) k + nI 1)) J R)
theorem c_X5_refuse {M k : Nat} {v : Int32} {z : Nat} {S : MS} {I : MI} {J : MJ} {R : MR} {Post : PT} (hM : MoS S R M) (hv : -v = nI k) (hk : k < 7) (hp : Post v 0 none z S (mu I (M + 13) k (I (M + 13) k + nI 1)) J R) : s_X5_refuse [.ref M, .int v] z S I J R Post := ⟨M, k, v, rfl, hM, hv, hk, hp⟩
set_option maxRecDepth 100000 in
set_option maxHeartbeats 400000 in
theorem m_X5_refuse (T : TC) (B : Nat) : Mt T B yX5_refuse cX5_refuse 2 (some .int) 1 (rmL 1 0 0) s_X5_refuse := by
  refine Mt_of rfl (by rintro _ _ _ _ _ _ _ ⟨_, _, _, rfl, -⟩; exact Nat.le_of_ble_eq_true rfl) ?_
  intro X av z S I J R Post h C Q hI
  obtain ⟨M, k, v, rfl, hM, hv, hk, hp⟩ := h
  obtain ⟨hS0, hr1, hr2, hr3, hr4, hr5, hr6, hr7, hr8, hr9, hr10, hr11, hr12, hr14, hr15, hr16, hr17, hr18, hr19, hr20, hs1, hs2, hs3, hs4, hs5, hs6, hs7, hs8, hs9, hs10, hs11, hs12, hs13, hs14, hs15, hs16, hs17, hs18, hs19⟩ := id hM
  refine v_aload_n C dX5_refuse_0 rfl ?_
  refine g_5_14 C (by assumption) (by assumption) wt_547 dX5_refuse_1 ?_
  refine v_iload_n C dX5_refuse_4 rfl ?_
  refine v_ineg C dX5_refuse_5 ?_
  rw [hv]
  refine v_dup2 C dX5_refuse_6 rfl rfl ?_
  first | refine v_ialdN C (by assumption) (by omega) (by omega) dX5_refuse_7 ?_ | refine v_iald C (by assumption) (by assumption) dX5_refuse_7 ?_
  refine v_iconstN 1 C dX5_refuse_8 ?_
  refine v_iadd C dX5_refuse_9 ?_
  first | refine v_iastN C (by assumption) (by omega) (by omega) dX5_refuse_10 ?_ | refine v_iast C (by assumption) (by assumption) dX5_refuse_10 ?_
  refine v_iload_n C dX5_refuse_11 rfl ?_
  refine v_iret C Q dX5_refuse_12 (Nat.le_of_ble_eq_true rfl) (Nat.le_of_ble_eq_true rfl) ?_
  exact hp
def s_X5_refuseLong : Sp := fun av z S I J R Post => ∃ (M k : Nat), ∃ (v : Int32), av = [.ref M, .int v] ∧ (MoS S R M) ∧ (-v = nI k) ∧ (k < 7) ∧ (Post 0 (-1000 - v.toInt64) none z S (mu I (M + 13) k (I (M + 13) k + nI 1)) J R)
theorem c_X5_refuseLong {M k : Nat} {v : Int32} {z : Nat} {S : MS} {I : MI} {J : MJ} {R : MR} {Post : PT} (hM : MoS S R M) (hv : -v = nI k) (hk : k < 7) (hp : Post 0 (-1000 - v.toInt64) none z S (mu I (M + 13) k (I (M + 13) k + nI 1)) J R) : s_X5_refuseLong [.ref M, .int v] z S I J R Post := ⟨M, k, v, rfl, hM, hv, hk, hp⟩
set_option maxRecDepth 100000 in
set_option maxHeartbeats 400000 in
theorem m_X5_refuseLong (T : TC) (B : Nat) : Mt T B yX5_refuseLong cX5_refuseLong 2 (some .long) 2 (rmL 1 0 0) s_X5_refuseLong := by
  refine Mt_of rfl (by rintro _ _ _ _ _ _ _ ⟨_, _, _, rfl, -⟩; exact Nat.le_of_ble_eq_true rfl) ?_
  intro X av z S I J R Post h C Q hI
  obtain ⟨M, k, v, rfl, hM, hv, hk, hp⟩ := h
  obtain ⟨hS0, hr1, hr2, hr3, hr4, hr5, hr6, hr7, hr8, hr9, hr10, hr11, hr12, hr14, hr15, hr16, hr17, hr18, hr19, hr20, hs1, hs2, hs3, hs4, hs5, hs6, hs7, hs8, hs9, hs10, hs11, hs12, hs13, hs14, hs15, hs16, hs17, hs18, hs19⟩ := id hM
  refine v_aload_n C dX5_refuseLong_0 rfl ?_
  refine g_5_14 C (by assumption) (by assumption) wt_547 dX5_refuseLong_1 ?_
  refine v_iload_n C dX5_refuseLong_4 rfl ?_
  refine v_ineg C dX5_refuseLong_5 ?_
  rw [hv]
  refine v_dup2 C dX5_refuseLong_6 rfl rfl ?_
  first | refine v_ialdN C (by assumption) (by omega) (by omega) dX5_refuseLong_7 ?_ | refine v_iald C (by assumption) (by assumption) dX5_refuseLong_7 ?_
  refine v_iconstN 1 C dX5_refuseLong_8 ?_
  refine v_iadd C dX5_refuseLong_9 ?_
  first | refine v_iastN C (by assumption) (by omega) (by omega) dX5_refuseLong_10 ?_ | refine v_iast C (by assumption) (by assumption) dX5_refuseLong_10 ?_
  refine v_ldc2 C dX5_refuseLong_11 wt_741 ?_
  refine v_iload_n C dX5_refuseLong_14 rfl ?_
  refine v_i2l C dX5_refuseLong_15 ?_
  refine v_lsub C dX5_refuseLong_16 ?_
  refine v_lret C Q dX5_refuseLong_17 (Nat.le_of_ble_eq_true rfl) (Nat.le_of_ble_eq_true rfl) ?_
  exact hp
def s_X5_isScatter : Sp := fun av z S I J R Post => ∃ (M n : Nat), ∃ (s : Int32), av = [.ref M, .int s] ∧ (MoS S R M) ∧ (I M 0 = nI n) ∧ (n ≤ 12) ∧ ((Oo s n → Post (nI 0) 0 none z S I J R) ∧ (∀ k, k < n → s = nI k → Post (nI 1) 0 none z S I J R))
theorem c_X5_isScatter {M n : Nat} {s : Int32} {z : Nat} {S : MS} {I : MI} {J : MJ} {R : MR} {Post : PT} (hM : MoS S R M) (hn : I M 0 = nI n) (hn12 : n ≤ 12) (hp : (Oo s n → Post (nI 0) 0 none z S I J R) ∧ (∀ k, k < n → s = nI k → Post (nI 1) 0 none z S I J R)) : s_X5_isScatter [.ref M, .int s] z S I J R Post := ⟨M, n, s, rfl, hM, hn, hn12, hp⟩
set_option maxRecDepth 100000 in
set_option maxHeartbeats 400000 in
theorem m_X5_isScatter (T : TC) (B : Nat) : Mt T B yX5_isScatter cX5_isScatter 2 (some .boolean) 1 (rmL 2 0 0) s_X5_isScatter := by
  refine Mt_of rfl (by rintro _ _ _ _ _ _ _ ⟨_, _, _, rfl, -⟩; exact Nat.le_of_ble_eq_true rfl) ?_
  intro X av z S I J R Post h C Q hI
  obtain ⟨M, n, s, rfl, hM, hn, hn12, hp⟩ := h
  have hS0 := hM.1
  rcases Oo_or s n (by omega) with ho | ⟨k, hk, rfl⟩
  · refine v_iload_n C dX5_isScatter_0 rfl ?_
    refine v_i2l C dX5_isScatter_1 ?_
    refine v_lconst (v := lN 0) C dX5_isScatter_2 rfl ?_
    refine v_aload_n C dX5_isScatter_3 rfl ?_
    first | refine gv_5_0 C (by assumption) (by assumption) wt_533 dX5_isScatter_4 ?_ | refine g_5_0 C (by assumption) wt_533 dX5_isScatter_4 ?_
    refine v_iconstN 1 C dX5_isScatter_7 ?_
    refine v_isub C dX5_isScatter_8 ?_
    refine v_i2l C dX5_isScatter_9 ?_
    refine v_callS3_1 C (m_X5_in T B) lk_X5_76 wt_627 dX5_isScatter_10 ⟨Nat.le_of_ble_eq_true rfl, Nat.le_of_ble_eq_true rfl⟩ (Nat.le_of_ble_eq_true rfl) ⟨Nat.le_of_ble_eq_true rfl, Nat.le_of_ble_eq_true rfl⟩ ?_
    refine c_in_o (by omega) ho ?_
    refine v_zret C Q dX5_isScatter_13 (Nat.le_of_ble_eq_true rfl) (Nat.le_of_ble_eq_true rfl) nz_0 ?_
    exact hp.1 ho
  · refine v_iload_n C dX5_isScatter_0 rfl ?_
    refine v_i2l C dX5_isScatter_1 ?_
    refine v_lconst (v := lN 0) C dX5_isScatter_2 rfl ?_
    refine v_aload_n C dX5_isScatter_3 rfl ?_
    first | refine gv_5_0 C (by assumption) (by assumption) wt_533 dX5_isScatter_4 ?_ | refine g_5_0 C (by assumption) wt_533 dX5_isScatter_4 ?_
    refine v_iconstN 1 C dX5_isScatter_7 ?_
    refine v_isub C dX5_isScatter_8 ?_
    refine v_i2l C dX5_isScatter_9 ?_
    refine v_callS3_1 C (m_X5_in T B) lk_X5_76 wt_627 dX5_isScatter_10 ⟨Nat.le_of_ble_eq_true rfl, Nat.le_of_ble_eq_true rfl⟩ (Nat.le_of_ble_eq_true rfl) ⟨Nat.le_of_ble_eq_true rfl, Nat.le_of_ble_eq_true rfl⟩ ?_
    refine c_in_k (by omega) hk ?_
    refine v_zret C Q dX5_isScatter_13 (Nat.le_of_ble_eq_true rfl) (Nat.le_of_ble_eq_true rfl) nz_1 ?_
    exact hp.2 k hk rfl
theorem c_isS_o {M n : Nat} {s : Int32} {z : Nat} {S : MS} {I : MI} {J : MJ} {R : MR} {Post : PT} (hM : MoS S R M) (hn : I M 0 = nI n) (hn12 : n ≤ 12) (ho : Oo s n) (hp : Post (nI 0) 0 none z S I J R) : s_X5_isScatter [.ref M, .int s] z S I J R Post :=
  c_X5_isScatter hM hn hn12 ⟨fun _ => hp, fun k hk e => absurd ho (by subst e; exact Oo_not hk (by omega))⟩
theorem c_isS_k {M n k : Nat} {z : Nat} {S : MS} {I : MI} {J : MJ} {R : MR} {Post : PT} (hM : MoS S R M) (hn : I M 0 = nI n) (hn12 : n ≤ 12) (hk : k < n) (hp : Post (nI 1) 0 none z S I J R) : s_X5_isScatter [.ref M, .int (nI k)] z S I J R Post :=
  c_X5_isScatter hM hn hn12 ⟨fun q => absurd q (Oo_not hk (by omega)), fun _ _ _ => hp⟩
def s_X5_hasDirection : Sp := fun av z S I J R Post => ∃ (M n : Nat), ∃ (dm : Nat → Nat), ∃ (s j : Int32), av = [.ref M, .int s, .int j] ∧ (MoS S R M) ∧ (I M 0 = nI n) ∧ (n ≤ 12) ∧ (∀ k, k < n → I (M + 2) k = nI (dm k) ∧ dm k ≤ 6) ∧ ((Oo s n → Post (nI 0) 0 none z S I J R) ∧ (∀ k, k < n → s = nI k → (Oo j (dm k) → Post (nI 0) 0 none z S I J R) ∧ (∀ l, l < dm k → j = nI l → Post (nI 1) 0 none z S I J R)))
theorem c_X5_hasDirection {M n : Nat} {dm : Nat → Nat} {s j : Int32} {z : Nat} {S : MS} {I : MI} {J : MJ} {R : MR} {Post : PT} (hM : MoS S R M) (hn : I M 0 = nI n) (hn12 : n ≤ 12) (hd : ∀ k, k < n → I (M + 2) k = nI (dm k) ∧ dm k ≤ 6) (hp : (Oo s n → Post (nI 0) 0 none z S I J R) ∧ (∀ k, k < n → s = nI k → (Oo j (dm k) → Post (nI 0) 0 none z S I J R) ∧ (∀ l, l < dm k → j = nI l → Post (nI 1) 0 none z S I J R))) : s_X5_hasDirection [.ref M, .int s, .int j] z S I J R Post := ⟨M, n, dm, s, j, rfl, hM, hn, hn12, hd, hp⟩
set_option maxRecDepth 100000 in
set_option maxHeartbeats 400000 in
theorem m_X5_hasDirection (T : TC) (B : Nat) : Mt T B yX5_hasDirection cX5_hasDirection 3 (some .boolean) 1 (rmL 3 0 0) s_X5_hasDirection := by
  refine Mt_of rfl (by rintro _ _ _ _ _ _ _ ⟨_, _, _, _, _, rfl, -⟩; exact Nat.le_of_ble_eq_true rfl) ?_
  intro X av z S I J R Post h C Q hI
  obtain ⟨M, n, dm, s, j, rfl, hM, hn, hn12, hd, hp⟩ := h
  obtain ⟨hS0, hr1, hr2, hr3, hr4, hr5, hr6, hr7, hr8, hr9, hr10, hr11, hr12, hr14, hr15, hr16, hr17, hr18, hr19, hr20, hs1, hs2, hs3, hs4, hs5, hs6, hs7, hs8, hs9, hs10, hs11, hs12, hs13, hs14, hs15, hs16, hs17, hs18, hs19⟩ := id hM
  rcases Oo_or s n (by omega) with ho | ⟨k, hk, rfl⟩
  · refine v_aload_n C dX5_hasDirection_0 rfl ?_
    refine v_iload_n C dX5_hasDirection_1 rfl ?_
    refine v_callV1_1 C (m_X5_isScatter T B) lk_X5_80 ⟨wt_624, ws_22⟩ 5 rfl dX5_hasDirection_2 ⟨Nat.le_of_ble_eq_true rfl, Nat.le_of_ble_eq_true rfl⟩ (Nat.le_of_ble_eq_true rfl) ⟨Nat.le_of_ble_eq_true rfl, Nat.le_of_ble_eq_true rfl⟩ (by assumption) (cTo_5 (by assumption)) ?_
    refine c_isS_o hM hn hn12 ho ?_
    first | refine v_if_eqN C 30 dX5_hasDirection_5 (by omega) (by decide) (fun h5 => ?_) (fun h5 => ?_) | refine v_if_eq C 30 dX5_hasDirection_5 (by decide) (fun h5 => ?_) (fun h5 => ?_)
    · refine v_iconstN 0 C dX5_hasDirection_30 ?_
      refine v_zret C Q dX5_hasDirection_31 (Nat.le_of_ble_eq_true rfl) (Nat.le_of_ble_eq_true rfl) nz_0 ?_
      exact hp.1 ho
    · exact absurd rfl h5
  · obtain ⟨d1, d2⟩ := hd k hk
    rcases Oo_or j (dm k) (by omega) with ho | ⟨l, hl, rfl⟩
    · refine v_aload_n C dX5_hasDirection_0 rfl ?_
      refine v_iload_n C dX5_hasDirection_1 rfl ?_
      refine v_callV1_1 C (m_X5_isScatter T B) lk_X5_80 ⟨wt_624, ws_22⟩ 5 rfl dX5_hasDirection_2 ⟨Nat.le_of_ble_eq_true rfl, Nat.le_of_ble_eq_true rfl⟩ (Nat.le_of_ble_eq_true rfl) ⟨Nat.le_of_ble_eq_true rfl, Nat.le_of_ble_eq_true rfl⟩ (by assumption) (cTo_5 (by assumption)) ?_
      refine c_isS_k hM hn hn12 hk ?_
      first | refine v_if_eqN C 30 dX5_hasDirection_5 (by omega) (by decide) (fun h5 => ?_) (fun h5 => ?_) | refine v_if_eq C 30 dX5_hasDirection_5 (by decide) (fun h5 => ?_) (fun h5 => ?_)
      · exact absurd h5 (by decide)
      · refine v_iload_n C dX5_hasDirection_8 rfl ?_
        refine v_i2l C dX5_hasDirection_9 ?_
        refine v_lconst (v := lN 0) C dX5_hasDirection_10 rfl ?_
        refine v_aload_n C dX5_hasDirection_11 rfl ?_
        refine g_5_2 C (by assumption) (by assumption) wt_535 dX5_hasDirection_12 ?_
        refine v_iload_n C dX5_hasDirection_15 rfl ?_
        first | refine v_ialdN C (by assumption) (by omega) (by omega) dX5_hasDirection_16 ?_ | refine v_iald C (by assumption) (by assumption) dX5_hasDirection_16 ?_
        rw [d1]
        refine v_iconstN 1 C dX5_hasDirection_17 ?_
        refine v_isub C dX5_hasDirection_18 ?_
        refine v_i2l C dX5_hasDirection_19 ?_
        refine v_callS3_1 C (m_X5_in T B) lk_X5_76 wt_627 dX5_hasDirection_20 ⟨Nat.le_of_ble_eq_true rfl, Nat.le_of_ble_eq_true rfl⟩ (Nat.le_of_ble_eq_true rfl) ⟨Nat.le_of_ble_eq_true rfl, Nat.le_of_ble_eq_true rfl⟩ ?_
        refine c_in_o (by omega) ho ?_
        first | refine v_if_eqN C 30 dX5_hasDirection_23 (by omega) (by decide) (fun h23 => ?_) (fun h23 => ?_) | refine v_if_eq C 30 dX5_hasDirection_23 (by decide) (fun h23 => ?_) (fun h23 => ?_)
        · refine v_iconstN 0 C dX5_hasDirection_30 ?_
          refine v_zret C Q dX5_hasDirection_31 (Nat.le_of_ble_eq_true rfl) (Nat.le_of_ble_eq_true rfl) nz_0 ?_
          exact (hp.2 k hk rfl).1 ho
        · exact absurd rfl h23
    · refine v_aload_n C dX5_hasDirection_0 rfl ?_
      refine v_iload_n C dX5_hasDirection_1 rfl ?_
      refine v_callV1_1 C (m_X5_isScatter T B) lk_X5_80 ⟨wt_624, ws_22⟩ 5 rfl dX5_hasDirection_2 ⟨Nat.le_of_ble_eq_true rfl, Nat.le_of_ble_eq_true rfl⟩ (Nat.le_of_ble_eq_true rfl) ⟨Nat.le_of_ble_eq_true rfl, Nat.le_of_ble_eq_true rfl⟩ (by assumption) (cTo_5 (by assumption)) ?_
      refine c_isS_k hM hn hn12 hk ?_
      first | refine v_if_eqN C 30 dX5_hasDirection_5 (by omega) (by decide) (fun h5 => ?_) (fun h5 => ?_) | refine v_if_eq C 30 dX5_hasDirection_5 (by decide) (fun h5 => ?_) (fun h5 => ?_)
      · exact absurd h5 (by decide)
      · refine v_iload_n C dX5_hasDirection_8 rfl ?_
        refine v_i2l C dX5_hasDirection_9 ?_
        refine v_lconst (v := lN 0) C dX5_hasDirection_10 rfl ?_
        refine v_aload_n C dX5_hasDirection_11 rfl ?_
        refine g_5_2 C (by assumption) (by assumption) wt_535 dX5_hasDirection_12 ?_
        refine v_iload_n C dX5_hasDirection_15 rfl ?_
        first | refine v_ialdN C (by assumption) (by omega) (by omega) dX5_hasDirection_16 ?_ | refine v_iald C (by assumption) (by assumption) dX5_hasDirection_16 ?_
        rw [d1]
        refine v_iconstN 1 C dX5_hasDirection_17 ?_
        refine v_isub C dX5_hasDirection_18 ?_
        refine v_i2l C dX5_hasDirection_19 ?_
        refine v_callS3_1 C (m_X5_in T B) lk_X5_76 wt_627 dX5_hasDirection_20 ⟨Nat.le_of_ble_eq_true rfl, Nat.le_of_ble_eq_true rfl⟩ (Nat.le_of_ble_eq_true rfl) ⟨Nat.le_of_ble_eq_true rfl, Nat.le_of_ble_eq_true rfl⟩ ?_
        refine c_in_k (by omega) hl ?_
        first | refine v_if_eqN C 30 dX5_hasDirection_23 (by omega) (by decide) (fun h23 => ?_) (fun h23 => ?_) | refine v_if_eq C 30 dX5_hasDirection_23 (by decide) (fun h23 => ?_) (fun h23 => ?_)
        · exact absurd h23 (by decide)
        · refine v_iconstN 1 C dX5_hasDirection_26 ?_
          refine v_goto C 31 dX5_hasDirection_27 (by decide) ?_
          refine v_zret C Q dX5_hasDirection_31 (Nat.le_of_ble_eq_true rfl) (Nat.le_of_ble_eq_true rfl) nz_1 ?_
          exact (hp.2 k hk rfl).2 l hl rfl
theorem c_hd_o {M n : Nat} {dm : Nat → Nat} {s j : Int32} {z : Nat} {S : MS} {I : MI} {J : MJ} {R : MR} {Post : PT} (hM : MoS S R M) (hn : I M 0 = nI n) (hn12 : n ≤ 12) (hd : ∀ k, k < n → I (M + 2) k = nI (dm k) ∧ dm k ≤ 6) (ho : Oo s n) (hp : Post (nI 0) 0 none z S I J R) : s_X5_hasDirection [.ref M, .int s, .int j] z S I J R Post :=
  c_X5_hasDirection hM hn hn12 hd ⟨fun _ => hp, fun k hk e => absurd ho (by subst e; exact Oo_not hk (by omega))⟩
theorem c_hd_j {M n k : Nat} {dm : Nat → Nat} {j : Int32} {z : Nat} {S : MS} {I : MI} {J : MJ} {R : MR} {Post : PT} (hM : MoS S R M) (hn : I M 0 = nI n) (hn12 : n ≤ 12) (hd : ∀ k, k < n → I (M + 2) k = nI (dm k) ∧ dm k ≤ 6) (hk : k < n) (ho : Oo j (dm k)) (hp : Post (nI 0) 0 none z S I J R) : s_X5_hasDirection [.ref M, .int (nI k), .int j] z S I J R Post :=
  c_X5_hasDirection hM hn hn12 hd ⟨fun q => absurd q (Oo_not hk (by omega)), fun l hl e => by
    obtain rfl : k = l := (nI_eq (by omega) (by omega)).mp e
    exact ⟨fun _ => hp, fun i hi e => absurd ho (by subst e; exact Oo_not hi (by have := (hd k hk).2; omega))⟩⟩
theorem c_hd_k {M n k l : Nat} {dm : Nat → Nat} {z : Nat} {S : MS} {I : MI} {J : MJ} {R : MR} {Post : PT} (hM : MoS S R M) (hn : I M 0 = nI n) (hn12 : n ≤ 12) (hd : ∀ k, k < n → I (M + 2) k = nI (dm k) ∧ dm k ≤ 6) (hk : k < n) (hl : l < dm k) (hp : Post (nI 1) 0 none z S I J R) : s_X5_hasDirection [.ref M, .int (nI k), .int (nI l)] z S I J R Post :=
  c_X5_hasDirection hM hn hn12 hd ⟨fun q => absurd q (Oo_not hk (by omega)), fun t ht e => by
    obtain rfl : k = t := (nI_eq (by omega) (by omega)).mp e
    exact ⟨fun q => absurd q (Oo_not hl (by have := (hd k hk).2; omega)), fun _ _ _ => hp⟩⟩
def s_X5_make : Sp := fun av z S I J R Post => ∃ (M n : Nat), ∃ (k d p c : Int32), av = [.ref M, .int k, .int d, .int p, .int c] ∧ (MoS S R M) ∧ (I M 0 = nI n) ∧ (n < 12) ∧ (Post (nI n) 0 none z S (mu (mu (mu (mu (mu I M 0 (nI (n + 1))) (M + 1) n k) (M + 2) n d) (M + 3) n p) (M + 4) n c) J R)
theorem c_X5_make {M n : Nat} {k d p c : Int32} {z : Nat} {S : MS} {I : MI} {J : MJ} {R : MR} {Post : PT} (hM : MoS S R M) (hn : I M 0 = nI n) (hn12 : n < 12) (hp : Post (nI n) 0 none z S (mu (mu (mu (mu (mu I M 0 (nI (n + 1))) (M + 1) n k) (M + 2) n d) (M + 3) n p) (M + 4) n c) J R) : s_X5_make [.ref M, .int k, .int d, .int p, .int c] z S I J R Post := ⟨M, n, k, d, p, c, rfl, hM, hn, hn12, hp⟩
set_option maxRecDepth 100000 in
set_option maxHeartbeats 400000 in
theorem m_X5_make (T : TC) (B : Nat) : Mt T B yX5_make cX5_make 6 (some .int) 1 (rmL 1 0 0) s_X5_make := by
  refine Mt_of rfl (by rintro _ _ _ _ _ _ _ ⟨_, _, _, _, _, _, rfl, -⟩; exact Nat.le_of_ble_eq_true rfl) ?_
  intro X av z S I J R Post h C Q hI
  obtain ⟨M, n, k, d, p, c, rfl, hM, hn, hn12, hp⟩ := h
  obtain ⟨hS0, hr1, hr2, hr3, hr4, hr5, hr6, hr7, hr8, hr9, hr10, hr11, hr12, hr14, hr15, hr16, hr17, hr18, hr19, hr20, hs1, hs2, hs3, hs4, hs5, hs6, hs7, hs8, hs9, hs10, hs11, hs12, hs13, hs14, hs15, hs16, hs17, hs18, hs19⟩ := id hM
  refine v_aload_n C dX5_make_0 rfl ?_
  first | refine gv_5_0 C (by assumption) (by assumption) wt_533 dX5_make_1 ?_ | refine g_5_0 C (by assumption) wt_533 dX5_make_1 ?_
  refine v_istore C dX5_make_4 (by decide) ?_
  refine v_aload_n C dX5_make_6 rfl ?_
  refine v_dup C dX5_make_7 rfl ?_
  first | refine gv_5_0 C (by assumption) (by assumption) wt_533 dX5_make_8 ?_ | refine g_5_0 C (by assumption) wt_533 dX5_make_8 ?_
  refine v_iconstN 1 C dX5_make_11 ?_
  first | refine v_iaddN C dX5_make_12 ?_ | refine v_iadd C dX5_make_12 ?_
  refine p_5_0 C (by assumption) wt_533 dX5_make_13 ?_
  refine v_aload_n C dX5_make_16 rfl ?_
  refine g_5_1 C (by assumption) (by assumption) wt_534 dX5_make_17 ?_
  refine v_iload C dX5_make_20 rfl ?_
  refine v_iload_n C dX5_make_22 rfl ?_
  first | refine v_iastN C (by assumption) (by omega) (by omega) dX5_make_23 ?_ | refine v_iast C (by assumption) (by assumption) dX5_make_23 ?_
  refine v_aload_n C dX5_make_24 rfl ?_
  refine g_5_2 C (by assumption) (by assumption) wt_535 dX5_make_25 ?_
  refine v_iload C dX5_make_28 rfl ?_
  refine v_iload_n C dX5_make_30 rfl ?_
  first | refine v_iastN C (by assumption) (by omega) (by omega) dX5_make_31 ?_ | refine v_iast C (by assumption) (by assumption) dX5_make_31 ?_
  refine v_aload_n C dX5_make_32 rfl ?_
  refine g_5_3 C (by assumption) (by assumption) wt_536 dX5_make_33 ?_
  refine v_iload C dX5_make_36 rfl ?_
  refine v_iload_n C dX5_make_38 rfl ?_
  first | refine v_iastN C (by assumption) (by omega) (by omega) dX5_make_39 ?_ | refine v_iast C (by assumption) (by assumption) dX5_make_39 ?_
  refine v_aload_n C dX5_make_40 rfl ?_
  refine g_5_4 C (by assumption) (by assumption) wt_537 dX5_make_41 ?_
  refine v_iload C dX5_make_44 rfl ?_
  refine v_iload C dX5_make_46 rfl ?_
  first | refine v_iastN C (by assumption) (by omega) (by omega) dX5_make_48 ?_ | refine v_iast C (by assumption) (by assumption) dX5_make_48 ?_
  refine v_iload C dX5_make_49 rfl ?_
  refine v_iret C Q dX5_make_51 (Nat.le_of_ble_eq_true rfl) (Nat.le_of_ble_eq_true rfl) ?_
  exact hp
def laF (d p : Int32) : Int32 := if d < nI 1 ∨ p < 0 then -4 else if nI 6 < d ∨ nI 8 < p then -6 else nI 0
def s_X5_lacks : Sp := fun av z S I J R Post => ∃ (d p : Int32), av = [.int d, .int p] ∧ (Post (laF d p) 0 none z S I J R)
theorem c_X5_lacks {d p : Int32} {z : Nat} {S : MS} {I : MI} {J : MJ} {R : MR} {Post : PT} (hp : Post (laF d p) 0 none z S I J R) : s_X5_lacks [.int d, .int p] z S I J R Post := ⟨d, p, rfl, hp⟩
set_option maxRecDepth 100000 in
set_option maxHeartbeats 400000 in
theorem m_X5_lacks (T : TC) (B : Nat) : Mt T B yX5_lacks cX5_lacks 2 (some .int) 1 (rmL 1 0 0) s_X5_lacks := by
  refine Mt_of rfl (by rintro _ _ _ _ _ _ _ ⟨_, _, rfl, -⟩; exact Nat.le_of_ble_eq_true rfl) ?_
  intro X av z S I J R Post h C Q hI
  obtain ⟨d, p, rfl, hp⟩ := h
  refine v_iload_n C dX5_lacks_0 rfl ?_
  refine v_iconstN 1 C dX5_lacks_1 ?_
  refine v_icmp_lt C 9 dX5_lacks_2 (by decide) (fun h2 => ?_) (fun h2 => ?_)
  · refine v_bipush (v := -4) C dX5_lacks_9 (by decide) ?_
    refine v_goto C 32 dX5_lacks_11 (by decide) ?_
    refine v_iret C Q dX5_lacks_32 (Nat.le_of_ble_eq_true rfl) (Nat.le_of_ble_eq_true rfl) ?_
    unfold laF at hp
    first
    | (rw [if_pos (Or.inl h2)] at hp; exact hp)
    | (rw [if_pos (Or.inr (Int32.not_le.mp h6))] at hp; exact hp)
    | (rw [if_neg (fun q => q.elim h2 (fun q => absurd h6 (Int32.not_le.mpr q)))] at hp
       first
       | (rw [if_pos (Or.inl h17)] at hp; exact hp)
       | (rw [if_pos (Or.inr (Int32.not_le.mp h23))] at hp; exact hp)
       | (rw [if_neg (fun q => q.elim h17 (fun q => absurd h23 (Int32.not_le.mpr q)))] at hp; exact hp))
  · refine v_iload_n C dX5_lacks_5 rfl ?_
    refine v_if_ge C 14 dX5_lacks_6 (by decide) (fun h6 => ?_) (fun h6 => ?_)
    · refine v_iload_n C dX5_lacks_14 rfl ?_
      refine v_bipushN 6 (by decide) C dX5_lacks_15 ?_
      refine v_icmp_gt C 26 dX5_lacks_17 (by decide) (fun h17 => ?_) (fun h17 => ?_)
      · refine v_bipush (v := -6) C dX5_lacks_26 (by decide) ?_
        refine v_goto C 32 dX5_lacks_28 (by decide) ?_
        refine v_iret C Q dX5_lacks_32 (Nat.le_of_ble_eq_true rfl) (Nat.le_of_ble_eq_true rfl) ?_
        unfold laF at hp
        first
        | (rw [if_pos (Or.inl h2)] at hp; exact hp)
        | (rw [if_pos (Or.inr (Int32.not_le.mp h6))] at hp; exact hp)
        | (rw [if_neg (fun q => q.elim h2 (fun q => absurd h6 (Int32.not_le.mpr q)))] at hp
           first
           | (rw [if_pos (Or.inl h17)] at hp; exact hp)
           | (rw [if_pos (Or.inr (Int32.not_le.mp h23))] at hp; exact hp)
           | (rw [if_neg (fun q => q.elim h17 (fun q => absurd h23 (Int32.not_le.mpr q)))] at hp; exact hp))
      · refine v_iload_n C dX5_lacks_20 rfl ?_
        refine v_bipushN 8 (by decide) C dX5_lacks_21 ?_
        refine v_icmp_le C 31 dX5_lacks_23 (by decide) (fun h23 => ?_) (fun h23 => ?_)
        · refine v_iconstN 0 C dX5_lacks_31 ?_
          refine v_iret C Q dX5_lacks_32 (Nat.le_of_ble_eq_true rfl) (Nat.le_of_ble_eq_true rfl) ?_
          unfold laF at hp
          first
          | (rw [if_pos (Or.inl h2)] at hp; exact hp)
          | (rw [if_pos (Or.inr (Int32.not_le.mp h6))] at hp; exact hp)
          | (rw [if_neg (fun q => q.elim h2 (fun q => absurd h6 (Int32.not_le.mpr q)))] at hp
             first
             | (rw [if_pos (Or.inl h17)] at hp; exact hp)
             | (rw [if_pos (Or.inr (Int32.not_le.mp h23))] at hp; exact hp)
             | (rw [if_neg (fun q => q.elim h17 (fun q => absurd h23 (Int32.not_le.mpr q)))] at hp; exact hp))
        · refine v_bipush (v := -6) C dX5_lacks_26 (by decide) ?_
          refine v_goto C 32 dX5_lacks_28 (by decide) ?_
          refine v_iret C Q dX5_lacks_32 (Nat.le_of_ble_eq_true rfl) (Nat.le_of_ble_eq_true rfl) ?_
          unfold laF at hp
          first
          | (rw [if_pos (Or.inl h2)] at hp; exact hp)
          | (rw [if_pos (Or.inr (Int32.not_le.mp h6))] at hp; exact hp)
          | (rw [if_neg (fun q => q.elim h2 (fun q => absurd h6 (Int32.not_le.mpr q)))] at hp
             first
             | (rw [if_pos (Or.inl h17)] at hp; exact hp)
             | (rw [if_pos (Or.inr (Int32.not_le.mp h23))] at hp; exact hp)
             | (rw [if_neg (fun q => q.elim h17 (fun q => absurd h23 (Int32.not_le.mpr q)))] at hp; exact hp))
    · refine v_bipush (v := -4) C dX5_lacks_9 (by decide) ?_
      refine v_goto C 32 dX5_lacks_11 (by decide) ?_
      refine v_iret C Q dX5_lacks_32 (Nat.le_of_ble_eq_true rfl) (Nat.le_of_ble_eq_true rfl) ?_
      unfold laF at hp
      first
      | (rw [if_pos (Or.inl h2)] at hp; exact hp)
      | (rw [if_pos (Or.inr (Int32.not_le.mp h6))] at hp; exact hp)
      | (rw [if_neg (fun q => q.elim h2 (fun q => absurd h6 (Int32.not_le.mpr q)))] at hp
         first
         | (rw [if_pos (Or.inl h17)] at hp; exact hp)
         | (rw [if_pos (Or.inr (Int32.not_le.mp h23))] at hp; exact hp)
         | (rw [if_neg (fun q => q.elim h17 (fun q => absurd h23 (Int32.not_le.mpr q)))] at hp; exact hp))
def s_X5_partOf : Sp := fun av z S I J R Post => ∃ (M k n j : Nat), ∃ (D : SD), av = [.ref M, .int (nI k), .int (nI n), .int (nI j)] ∧ (MoS S R M) ∧ (MsR I M k D) ∧ (k < 12) ∧ (OkD D) ∧ (n < D 4 0) ∧ (j < 6) ∧ (Post (nI (prt D n j)) 0 none z S I J R)
theorem c_X5_partOf {M k n j : Nat} {D : SD} {z : Nat} {S : MS} {I : MI} {J : MJ} {R : MR} {Post : PT} (hM : MoS S R M) (hD : MsR I M k D) (hk : k < 12) (hO : OkD D) (hn : n < D 4 0) (hj : j < 6) (hp : Post (nI (prt D n j)) 0 none z S I J R) : s_X5_partOf [.ref M, .int (nI k), .int (nI n), .int (nI j)] z S I J R Post := ⟨M, k, n, j, D, rfl, hM, hD, hk, hO, hn, hj, hp⟩
set_option maxRecDepth 100000 in
set_option maxHeartbeats 1000000 in
theorem m_X5_partOf (T : TC) (B : Nat) : Mt T B yX5_partOf cX5_partOf 6 (some .int) 1 (rmL 2 0 0) s_X5_partOf := by
  refine Mt_of rfl (by rintro _ _ _ _ _ _ _ ⟨_, _, _, _, _, rfl, -⟩; exact Nat.le_of_ble_eq_true rfl) ?_
  intro X av z S I J R Post h C Q hI
  obtain ⟨M, k, n, j, D, rfl, hM, hD, hk, hO, hn, hj, hp⟩ := h
  obtain ⟨hS0, hr1, hr2, hr3, hr4, hr5, hr6, hr7, hr8, hr9, hr10, hr11, hr12, hr14, hr15, hr16, hr17, hr18, hr19, hr20, hs1, hs2, hs3, hs4, hs5, hs6, hs7, hs8, hs9, hs10, hs11, hs12, hs13, hs14, hs15, hs16, hs17, hs18, hs19⟩ := id hM
  obtain ⟨g1, g2, g3, g4, g5, g6, g7, g8, g9⟩ := hD
  obtain ⟨o1, o2, o3, o4, o5, o6, o7, o8, o9, o10, o11, o12⟩ := id hO
  have m6 := g7 j hj
  have m8 := g8 j hj
  have q8 := o11 j
  have hpr : n * D 8 j ≤ 255 * 255 := Nat.mul_le_mul (by omega) (by omega)
  by_cases hk3 : D 1 0 = 3
  · have e : prt D n j = n * D 8 j % D 4 0 := by unfold prt; rw [if_pos hk3]
    rw [e] at hp
    refine v_aload_n C dX5_partOf_0 rfl ?_
    refine g_5_1 C (by assumption) (by assumption) wt_534 dX5_partOf_1 ?_
    refine v_iload_n C dX5_partOf_4 rfl ?_
    first | refine v_ialdN C (by assumption) (by omega) (by omega) dX5_partOf_5 ?_ | refine v_iald C (by assumption) (by assumption) dX5_partOf_5 ?_
    rw [g1]
    refine v_iconstN 3 C dX5_partOf_6 ?_
    first | refine v_icmp_neN C 31 dX5_partOf_7 (by omega) (by omega) (by decide) (fun h7 => ?_) (fun h7 => ?_) | refine v_icmp_ne C 31 dX5_partOf_7 (by decide) (fun h7 => ?_) (fun h7 => ?_)
    · exact absurd hk3 h7
    · refine v_iload_n C dX5_partOf_10 rfl ?_
      refine v_aload_n C dX5_partOf_11 rfl ?_
      refine g_5_8 C (by assumption) (by assumption) wt_541 dX5_partOf_12 ?_
      refine v_bipushN 6 (by decide) C dX5_partOf_15 ?_
      refine v_iload_n C dX5_partOf_17 rfl ?_
      first | refine v_imulN C dX5_partOf_18 ?_ | refine v_imul C dX5_partOf_18 ?_
      refine v_iload_n C dX5_partOf_19 rfl ?_
      first | refine v_iaddN C dX5_partOf_20 ?_ | refine v_iadd C dX5_partOf_20 ?_
      first | refine v_ialdN C (by assumption) (by omega) (by omega) dX5_partOf_21 ?_ | refine v_iald C (by assumption) (by assumption) dX5_partOf_21 ?_
      rw [m8]
      first | refine v_imulN C dX5_partOf_22 ?_ | refine v_imul C dX5_partOf_22 ?_
      refine v_aload_n C dX5_partOf_23 rfl ?_
      refine g_5_4 C (by assumption) (by assumption) wt_537 dX5_partOf_24 ?_
      refine v_iload_n C dX5_partOf_27 rfl ?_
      first | refine v_ialdN C (by assumption) (by omega) (by omega) dX5_partOf_28 ?_ | refine v_iald C (by assumption) (by assumption) dX5_partOf_28 ?_
      rw [g4]
      first | refine v_iremN C dX5_partOf_29 (by omega) (by omega) (by omega) ?_ | refine v_irem C dX5_partOf_29 (by assumption) ?_
      refine v_iret C Q dX5_partOf_30 (Nat.le_of_ble_eq_true rfl) (Nat.le_of_ble_eq_true rfl) ?_
      exact hp
  · by_cases hk4 : D 1 0 = 4
    · have e : prt D n j = D 9 (6 * n + j) := by unfold prt; rw [if_neg hk3, if_pos hk4]
      rw [e] at hp
      have q9 := g9 (6 * n + j) (by omega)
      rw [← Nat.add_assoc] at q9
      refine v_aload_n C dX5_partOf_0 rfl ?_
      refine g_5_1 C (by assumption) (by assumption) wt_534 dX5_partOf_1 ?_
      refine v_iload_n C dX5_partOf_4 rfl ?_
      first | refine v_ialdN C (by assumption) (by omega) (by omega) dX5_partOf_5 ?_ | refine v_iald C (by assumption) (by assumption) dX5_partOf_5 ?_
      rw [g1]
      refine v_iconstN 3 C dX5_partOf_6 ?_
      first | refine v_icmp_neN C 31 dX5_partOf_7 (by omega) (by omega) (by decide) (fun h7 => ?_) (fun h7 => ?_) | refine v_icmp_ne C 31 dX5_partOf_7 (by decide) (fun h7 => ?_) (fun h7 => ?_)
      · refine v_aload_n C dX5_partOf_31 rfl ?_
        refine g_5_1 C (by assumption) (by assumption) wt_534 dX5_partOf_32 ?_
        refine v_iload_n C dX5_partOf_35 rfl ?_
        first | refine v_ialdN C (by assumption) (by omega) (by omega) dX5_partOf_36 ?_ | refine v_iald C (by assumption) (by assumption) dX5_partOf_36 ?_
        rw [g1]
        refine v_iconstN 4 C dX5_partOf_37 ?_
        first | refine v_icmp_neN C 59 dX5_partOf_38 (by omega) (by omega) (by decide) (fun h38 => ?_) (fun h38 => ?_) | refine v_icmp_ne C 59 dX5_partOf_38 (by decide) (fun h38 => ?_) (fun h38 => ?_)
        · exact absurd hk4 h38
        · refine v_aload_n C dX5_partOf_41 rfl ?_
          refine g_5_9 C (by assumption) (by assumption) wt_542 dX5_partOf_42 ?_
          refine v_sipushN 1536 (by decide +kernel) C dX5_partOf_45 ?_
          refine v_iload_n C dX5_partOf_48 rfl ?_
          first | refine v_imulN C dX5_partOf_49 ?_ | refine v_imul C dX5_partOf_49 ?_
          refine v_bipushN 6 (by decide) C dX5_partOf_50 ?_
          refine v_iload_n C dX5_partOf_52 rfl ?_
          first | refine v_imulN C dX5_partOf_53 ?_ | refine v_imul C dX5_partOf_53 ?_
          first | refine v_iaddN C dX5_partOf_54 ?_ | refine v_iadd C dX5_partOf_54 ?_
          refine v_iload_n C dX5_partOf_55 rfl ?_
          first | refine v_iaddN C dX5_partOf_56 ?_ | refine v_iadd C dX5_partOf_56 ?_
          first | refine v_ialdN C (by assumption) (by omega) (by omega) dX5_partOf_57 ?_ | refine v_iald C (by assumption) (by assumption) dX5_partOf_57 ?_
          rw [q9]
          refine v_iret C Q dX5_partOf_58 (Nat.le_of_ble_eq_true rfl) (Nat.le_of_ble_eq_true rfl) ?_
          exact hp
      · exact absurd h7 hk3
    · have e : prt D n j = pm (fun i => D 6 (j * 8 + i)) (D 3 0) n ^^^ D 7 j := by unfold prt; rw [if_neg hk3, if_neg hk4]
      rw [e] at hp
      have g3' : I (M + 3) k = nI (D 3 0) := by rw [g3]; unfold pwI; rw [if_neg hk3]
      have loop : ∀ i : Nat, i ≤ D 3 0 → V X 0 0 z S I J R 65 [some (.ref M), some (.int (nI k)), some (.int (nI n)), some (.int (nI j)), some (.int (nI (pm (fun i => D 6 (j * 8 + i)) i n))), some (.int (nI i))] [] := by
        refine lp_up (D 3 0) ?_
        intro i hi ih
        have r6 := fun h : i < D 3 0 => g6 (j * 8 + i) (by omega)
        have ra : D 6 (j * 8 + i) &&& n < 2147483648 := Nat.lt_of_le_of_lt Nat.and_le_right (by omega)
        refine v_iload C dX5_partOf_65 rfl ?_
        refine v_aload_n C dX5_partOf_67 rfl ?_
        refine g_5_3 C (by assumption) (by assumption) wt_536 dX5_partOf_68 ?_
        refine v_iload_n C dX5_partOf_71 rfl ?_
        first | refine v_ialdN C (by assumption) (by omega) (by omega) dX5_partOf_72 ?_ | refine v_iald C (by assumption) (by assumption) dX5_partOf_72 ?_
        rw [g3']
        first | refine v_icmp_geN C 111 dX5_partOf_73 (by omega) (by omega) (by decide) (fun h73 => ?_) (fun h73 => ?_) | refine v_icmp_ge C 111 dX5_partOf_73 (by decide) (fun h73 => ?_) (fun h73 => ?_)
        · refine v_iload C dX5_partOf_111 rfl ?_
          refine v_aload_n C dX5_partOf_113 rfl ?_
          refine g_5_7 C (by assumption) (by assumption) wt_540 dX5_partOf_114 ?_
          refine v_bipushN 6 (by decide) C dX5_partOf_117 ?_
          refine v_iload_n C dX5_partOf_119 rfl ?_
          first | refine v_imulN C dX5_partOf_120 ?_ | refine v_imul C dX5_partOf_120 ?_
          refine v_iload_n C dX5_partOf_121 rfl ?_
          first | refine v_iaddN C dX5_partOf_122 ?_ | refine v_iadd C dX5_partOf_122 ?_
          first | refine v_ialdN C (by assumption) (by omega) (by omega) dX5_partOf_123 ?_ | refine v_iald C (by assumption) (by assumption) dX5_partOf_123 ?_
          rw [m6]
          first | refine v_ixorN C dX5_partOf_124 ?_ | refine v_ixor C dX5_partOf_124 ?_
          refine v_iret C Q dX5_partOf_125 (Nat.le_of_ble_eq_true rfl) (Nat.le_of_ble_eq_true rfl) ?_
          obtain rfl : i = D 3 0 := by omega
          exact hp
        · refine v_iconstN 2 C dX5_partOf_76 ?_
          refine v_iload C dX5_partOf_77 rfl ?_
          first | refine v_imulN C dX5_partOf_79 ?_ | refine v_imul C dX5_partOf_79 ?_
          refine v_aload_n C dX5_partOf_80 rfl ?_
          refine g_5_6 C (by assumption) (by assumption) wt_539 dX5_partOf_81 ?_
          refine v_bipushN 48 (by decide) C dX5_partOf_84 ?_
          refine v_iload_n C dX5_partOf_86 rfl ?_
          first | refine v_imulN C dX5_partOf_87 ?_ | refine v_imul C dX5_partOf_87 ?_
          refine v_bipushN 8 (by decide) C dX5_partOf_88 ?_
          refine v_iload_n C dX5_partOf_90 rfl ?_
          first | refine v_imulN C dX5_partOf_91 ?_ | refine v_imul C dX5_partOf_91 ?_
          first | refine v_iaddN C dX5_partOf_92 ?_ | refine v_iadd C dX5_partOf_92 ?_
          refine v_iload C dX5_partOf_93 rfl ?_
          first | refine v_iaddN C dX5_partOf_95 ?_ | refine v_iadd C dX5_partOf_95 ?_
          first | refine v_ialdN C (by assumption) (by omega) (by omega) dX5_partOf_96 ?_ | refine v_iald C (by assumption) (by assumption) dX5_partOf_96 ?_
          rw [show 48 * k + 8 * j + i = 48 * k + (j * 8 + i) by omega, r6 h73]
          refine v_iload_n C dX5_partOf_97 rfl ?_
          first | refine v_iandN C dX5_partOf_98 ?_ | refine v_iand C dX5_partOf_98 ?_
          refine v_callS1_1 C (m_X5_odd T B) lk_X5_106 wt_673 dX5_partOf_99 ⟨Nat.le_of_ble_eq_true rfl, Nat.le_of_ble_eq_true rfl⟩ (Nat.le_of_ble_eq_true rfl) ⟨Nat.le_of_ble_eq_true rfl, Nat.le_of_ble_eq_true rfl⟩ ?_
          refine c_X5_odd ra ?_
          first | refine v_iaddN C dX5_partOf_102 ?_ | refine v_iadd C dX5_partOf_102 ?_
          refine v_istore C dX5_partOf_103 (by decide) ?_
          first | refine v_iincN 1 C dX5_partOf_105 rfl (by decide) ?_ | refine v_iinc C dX5_partOf_105 rfl rfl (by decide) ?_
          refine v_goto C 65 dX5_partOf_108 (by decide) ?_
          exact v_less (ih h73) (by repeat (first | exact trivial | refine And.intro rfl ?_))
      refine v_aload_n C dX5_partOf_0 rfl ?_
      refine g_5_1 C (by assumption) (by assumption) wt_534 dX5_partOf_1 ?_
      refine v_iload_n C dX5_partOf_4 rfl ?_
      first | refine v_ialdN C (by assumption) (by omega) (by omega) dX5_partOf_5 ?_ | refine v_iald C (by assumption) (by assumption) dX5_partOf_5 ?_
      rw [g1]
      refine v_iconstN 3 C dX5_partOf_6 ?_
      first | refine v_icmp_neN C 31 dX5_partOf_7 (by omega) (by omega) (by decide) (fun h7 => ?_) (fun h7 => ?_) | refine v_icmp_ne C 31 dX5_partOf_7 (by decide) (fun h7 => ?_) (fun h7 => ?_)
      · refine v_aload_n C dX5_partOf_31 rfl ?_
        refine g_5_1 C (by assumption) (by assumption) wt_534 dX5_partOf_32 ?_
        refine v_iload_n C dX5_partOf_35 rfl ?_
        first | refine v_ialdN C (by assumption) (by omega) (by omega) dX5_partOf_36 ?_ | refine v_iald C (by assumption) (by assumption) dX5_partOf_36 ?_
        rw [g1]
        refine v_iconstN 4 C dX5_partOf_37 ?_
        first | refine v_icmp_neN C 59 dX5_partOf_38 (by omega) (by omega) (by decide) (fun h38 => ?_) (fun h38 => ?_) | refine v_icmp_ne C 59 dX5_partOf_38 (by decide) (fun h38 => ?_) (fun h38 => ?_)
        · refine v_iconstN 0 C dX5_partOf_59 ?_
          refine v_istore C dX5_partOf_60 (by decide) ?_
          refine v_iconstN 0 C dX5_partOf_62 ?_
          refine v_istore C dX5_partOf_63 (by decide) ?_
          exact v_less (loop 0 (Nat.zero_le _)) (by repeat (first | exact trivial | refine And.intro rfl ?_))
        · exact absurd h38 hk4
      · exact absurd h7 hk3
