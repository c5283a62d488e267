def s_X5_gradeOf : Sp := fun av z S I J R Post => ∃ (M k w t K : Nat), ∃ (D : SD), ∃ (fr : Nat → Nat), av = [.ref M, .int (nI k), .int (nI w)] ∧ (MoS S R M) ∧ (MsR I M k D) ∧ (k < 12) ∧ (OkD D) ∧ (D 1 0 < 3) ∧ (w < 64) ∧ (kN w (D 2 0) 6 = K) ∧ (frN w (D 2 0) 6 = fr) ∧ (1 ≤ K) ∧ (∀ i, i < K → fr i < D 2 0) ∧ (∀ a b, a < K → b < K → fr a = fr b → a = b) ∧ (t ≤ D 3 0) ∧ (∀ t', t' < t → ∃ e, sumN e K = D 3 0 - t' ∧ ¬ Ev D fr K e) ∧ (∀ e, sumN e K = D 3 0 - t → Ev D fr K e) ∧ (∀ I' : MI, FrS I I' (M + 15) (M + 17) → Post (nI t) 0 none z S I' J R)
theorem c_X5_gradeOf {M k w t K : Nat} {D : SD} {fr : Nat → Nat} {z : Nat} {S : MS} {I : MI} {J : MJ} {R : MR} {Post : PT} (hM : MoS S R M) (hD : MsR I M k D) (hk : k < 12) (hO : OkD D) (hk3 : D 1 0 < 3) (hw : w < 64) (hKe : kN w (D 2 0) 6 = K) (hfe : frN w (D 2 0) 6 = fr) (hK1 : 1 ≤ K) (hf : ∀ i, i < K → fr i < D 2 0) (inj : ∀ a b, a < K → b < K → fr a = fr b → a = b) (ht : t ≤ D 3 0) (hlo : ∀ t', t' < t → ∃ e, sumN e K = D 3 0 - t' ∧ ¬ Ev D fr K e) (hhi : ∀ e, sumN e K = D 3 0 - t → Ev D fr K e) (hp : ∀ I' : MI, FrS I I' (M + 15) (M + 17) → Post (nI t) 0 none z S I' J R) : s_X5_gradeOf [.ref M, .int (nI k), .int (nI w)] z S I J R Post := ⟨M, k, w, t, K, D, fr, rfl, hM, hD, hk, hO, hk3, hw, hKe, hfe, hK1, hf, inj, ht, hlo, hhi, hp⟩
set_option maxRecDepth 100000 in
set_option maxHeartbeats 1000000 in
theorem m_X5_gradeOf (T : TC) (B : Nat) : Mt T B yX5_gradeOf cX5_gradeOf 4 (some .int) 1 (rmL 5 0 0) s_X5_gradeOf := by
  refine Mt_of rfl (by rintro _ _ _ _ _ _ _ ⟨_, _, _, _, _, _, _, rfl, -⟩; exact Nat.le_of_ble_eq_true rfl) ?_
  intro X av z S I J R Post h C Q hI
  obtain ⟨M, k, w, t, K, D, fr, rfl, hM, hD, hk, hO, hk3, hw, hKe, hfe, hK1, hf, inj, ht, hlo, hhi, hp⟩ := h
  obtain ⟨hS0, hr1, hr2, hr3, hr4, hr5, hr6, hr7, hr8, hr9, hr10, hr11, hr12, hr14, hr15, hr16, hr17, hr18, hr19, hr20, hs1, hs2, hs3, hs4, hs5, hs6, hs7, hs8, hs9, hs10, hs11, hs12, hs13, hs14, hs15, hs16, hs17, hs18, hs19⟩ := id hM
  obtain ⟨g1, g2, g3, g4, g5, g6, g7, g8, g9⟩ := id hD
  have o4 := hO.2.2.2.1
  have g3' : I (M + 3) k = nI (D 3 0) := by rw [g3]; unfold pwI; rw [if_neg (by omega)]
  have loop : ∀ a : Nat, a ≤ t → ∀ I' : MI, FrS I I' (M + 15) (M + 17) → V X 0 0 z S I' J R 2 [some (.ref M), some (.int (nI k)), some (.int (nI w)), some (.int (nI a))] [] := by
    refine lp_up t ?_
    intro a ha ih I' hF
    have c3 : I' (M + 3) k = nI (D 3 0) := (hF _ _ (by omega)).trans g3'
    have cD : MsR I' M k D := hD.up (fun q i h1 h2 => hF q i (by omega))
    by_cases c : a < t
    · obtain ⟨e, he, hn⟩ := hlo a c
      refine v_aload_n C dX5_gradeOf_2 rfl ?_
      refine v_iload_n C dX5_gradeOf_3 rfl ?_
      refine v_aload_n C dX5_gradeOf_4 rfl ?_
      refine g_5_3 C (by assumption) (by assumption) wt_536 dX5_gradeOf_5 ?_
      refine v_iload_n C dX5_gradeOf_8 rfl ?_
      first | refine v_ialdN C (by assumption) (by omega) (by omega) dX5_gradeOf_9 ?_ | refine v_iald C (by assumption) (by assumption) dX5_gradeOf_9 ?_
      rw [c3]
      refine v_iload_n C dX5_gradeOf_10 rfl ?_
      first | refine v_isubN C dX5_gradeOf_11 (by omega) ?_ | refine v_isub C dX5_gradeOf_11 ?_
      refine v_iload_n C dX5_gradeOf_12 rfl ?_
      refine v_callV3_1 C (m_X5_areEven T B) lk_X5_125 ⟨wt_727, ws_27⟩ 5 rfl dX5_gradeOf_13 ⟨Nat.le_of_ble_eq_true rfl, Nat.le_of_ble_eq_true rfl⟩ (Nat.le_of_ble_eq_true rfl) ⟨Nat.le_of_ble_eq_true rfl, Nat.le_of_ble_eq_true rfl⟩ (by assumption) (cTo_5 (by assumption)) ?_
      refine c_X5_areEven (t := D 3 0 - a) hM cD hk hO hk3 hw (by omega) hKe hfe hK1 hf inj ⟨fun h => absurd (h e he) hn, fun _ _ _ I2 hF2 => ?_⟩
      first | refine v_if_neN C 25 dX5_gradeOf_16 (by omega) (by decide) (fun h16 => ?_) (fun h16 => ?_) | refine v_if_ne C 25 dX5_gradeOf_16 (by decide) (fun h16 => ?_) (fun h16 => ?_)
      · exact absurd h16 (by decide)
      · first | refine v_iincN 1 C dX5_gradeOf_19 rfl (by decide) ?_ | refine v_iinc C dX5_gradeOf_19 rfl rfl (by decide) ?_
        refine v_goto C 2 dX5_gradeOf_22 (by decide) ?_
        exact v_less (ih c I2 (hF.tr hF2)) (by repeat (first | exact trivial | refine And.intro rfl ?_))
    · obtain rfl : a = t := by omega
      refine v_aload_n C dX5_gradeOf_2 rfl ?_
      refine v_iload_n C dX5_gradeOf_3 rfl ?_
      refine v_aload_n C dX5_gradeOf_4 rfl ?_
      refine g_5_3 C (by assumption) (by assumption) wt_536 dX5_gradeOf_5 ?_
      refine v_iload_n C dX5_gradeOf_8 rfl ?_
      first | refine v_ialdN C (by assumption) (by omega) (by omega) dX5_gradeOf_9 ?_ | refine v_iald C (by assumption) (by assumption) dX5_gradeOf_9 ?_
      rw [c3]
      refine v_iload_n C dX5_gradeOf_10 rfl ?_
      first | refine v_isubN C dX5_gradeOf_11 (by omega) ?_ | refine v_isub C dX5_gradeOf_11 ?_
      refine v_iload_n C dX5_gradeOf_12 rfl ?_
      refine v_callV3_1 C (m_X5_areEven T B) lk_X5_125 ⟨wt_727, ws_27⟩ 5 rfl dX5_gradeOf_13 ⟨Nat.le_of_ble_eq_true rfl, Nat.le_of_ble_eq_true rfl⟩ (Nat.le_of_ble_eq_true rfl) ⟨Nat.le_of_ble_eq_true rfl, Nat.le_of_ble_eq_true rfl⟩ (by assumption) (cTo_5 (by assumption)) ?_
      refine c_X5_areEven (t := D 3 0 - a) hM cD hk hO hk3 hw (by omega) hKe hfe hK1 hf inj ⟨fun _ I2 hF2 => ?_, fun e he hn => absurd (hhi e he) hn⟩
      first | refine v_if_neN C 25 dX5_gradeOf_16 (by omega) (by decide) (fun h16 => ?_) (fun h16 => ?_) | refine v_if_ne C 25 dX5_gradeOf_16 (by decide) (fun h16 => ?_) (fun h16 => ?_)
      · refine v_iload_n C dX5_gradeOf_25 rfl ?_
        refine v_iret C Q dX5_gradeOf_26 (Nat.le_of_ble_eq_true rfl) (Nat.le_of_ble_eq_true rfl) ?_
        exact hp I2 (hF.tr hF2)
      · exact absurd h16 (by decide)
  refine v_iconstN 0 C dX5_gradeOf_0 ?_
  refine v_istore_n C dX5_gradeOf_1 (by decide) ?_
  exact v_less (loop 0 (Nat.zero_le _) I FrS.rf) (by repeat (first | exact trivial | refine And.intro rfl ?_))
