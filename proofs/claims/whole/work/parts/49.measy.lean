theorem MsR_5 {I : MI} {M k s v : Nat} {N : Nat → SD} (h : MsR I M s (N s)) : MsR (mu I (M + 5) (k) (nI v)) M s (upF N k (mu (N k) 5 0 v) s) := by
  obtain ⟨a1, a2, a3, a4, a5, a6, a7, a8, a9⟩ := h
  have q : ∀ b t, b ≠ M + 5 → mu I (M + 5) (k) (nI v) b t = I b t := fun b t hb => congrFun (mu_ne _ _ hb) t
  by_cases e : s = k
  · subst e
    rw [upF_at]
    have o : ∀ g t, g ≠ 5 → mu (N s) 5 0 v g t = N s g t := fun g t hg => mu_other _ _ (fun c => hg c.1)
    exact ⟨by rw [o _ _ (by decide), q _ _ (by omega)]; exact a1,
      by rw [o _ _ (by decide), q _ _ (by omega)]; exact a2,
      by unfold pwI; rw [o 1 0 (by decide), o 3 0 (by decide), q _ _ (by omega)]; exact a3,
      by rw [o _ _ (by decide), q _ _ (by omega)]; exact a4,
      by rw [mu_at, mu_at],
      fun t ht => by rw [o _ _ (by decide), q _ _ (by omega)]; exact a6 t ht,
      fun t ht => by rw [o _ _ (by decide), q _ _ (by omega)]; exact a7 t ht,
      fun t ht => by rw [o _ _ (by decide), q _ _ (by omega)]; exact a8 t ht,
      fun t ht => by rw [o _ _ (by decide), q _ _ (by omega)]; exact a9 t ht⟩
  · rw [upF_ne _ _ e]
    exact ⟨by rw [q _ _ (by omega)]; exact a1, by rw [q _ _ (by omega)]; exact a2, by rw [q _ _ (by omega)]; exact a3, by rw [q _ _ (by omega)]; exact a4, by rw [mu_other _ _ (by omega)]; exact a5, fun t ht => by rw [q _ _ (by omega)]; exact a6 t ht, fun t ht => by rw [q _ _ (by omega)]; exact a7 t ht, fun t ht => by rw [q _ _ (by omega)]; exact a8 t ht, fun t ht => by rw [q _ _ (by omega)]; exact a9 t ht⟩
theorem MsR_6 {I : MI} {M k s i v : Nat} {N : Nat → SD} (h : MsR I M s (N s)) (hi : i < 48) : MsR (mu I (M + 6) (48 * k + i) (nI v)) M s (upF N k (mu (N k) 6 i v) s) := by
  obtain ⟨a1, a2, a3, a4, a5, a6, a7, a8, a9⟩ := h
  have q : ∀ b t, b ≠ M + 6 → mu I (M + 6) (48 * k + i) (nI v) b t = I b t := fun b t hb => congrFun (mu_ne _ _ hb) t
  by_cases e : s = k
  · subst e
    rw [upF_at]
    have o : ∀ g t, g ≠ 6 → mu (N s) 6 i v g t = N s g t := fun g t hg => mu_other _ _ (fun c => hg c.1)
    exact ⟨by rw [o _ _ (by decide), q _ _ (by omega)]; exact a1,
      by rw [o _ _ (by decide), q _ _ (by omega)]; exact a2,
      by unfold pwI; rw [o 1 0 (by decide), o 3 0 (by decide), q _ _ (by omega)]; exact a3,
      by rw [o _ _ (by decide), q _ _ (by omega)]; exact a4,
      by rw [o _ _ (by decide), q _ _ (by omega)]; exact a5,
      fun t ht => by
        by_cases c : t = i
        · subst c; rw [mu_at, mu_at]
        · rw [mu_other _ _ (by omega), mu_other _ _ (by omega)]; exact a6 t ht,
      fun t ht => by rw [o _ _ (by decide), q _ _ (by omega)]; exact a7 t ht,
      fun t ht => by rw [o _ _ (by decide), q _ _ (by omega)]; exact a8 t ht,
      fun t ht => by rw [o _ _ (by decide), q _ _ (by omega)]; exact a9 t ht⟩
  · rw [upF_ne _ _ e]
    exact ⟨by rw [q _ _ (by omega)]; exact a1, by rw [q _ _ (by omega)]; exact a2, by rw [q _ _ (by omega)]; exact a3, by rw [q _ _ (by omega)]; exact a4, by rw [q _ _ (by omega)]; exact a5, fun t ht => by rw [mu_other _ _ (by omega)]; exact a6 t ht, fun t ht => by rw [q _ _ (by omega)]; exact a7 t ht, fun t ht => by rw [q _ _ (by omega)]; exact a8 t ht, fun t ht => by rw [q _ _ (by omega)]; exact a9 t ht⟩
theorem MsR_7 {I : MI} {M k s i v : Nat} {N : Nat → SD} (h : MsR I M s (N s)) (hi : i < 6) : MsR (mu I (M + 7) (6 * k + i) (nI v)) M s (upF N k (mu (N k) 7 i v) s) := by
  obtain ⟨a1, a2, a3, a4, a5, a6, a7, a8, a9⟩ := h
  have q : ∀ b t, b ≠ M + 7 → mu I (M + 7) (6 * k + i) (nI v) b t = I b t := fun b t hb => congrFun (mu_ne _ _ hb) t
  by_cases e : s = k
  · subst e
    rw [upF_at]
    have o : ∀ g t, g ≠ 7 → mu (N s) 7 i v g t = N s g t := fun g t hg => mu_other _ _ (fun c => hg c.1)
    exact ⟨by rw [o _ _ (by decide), q _ _ (by omega)]; exact a1,
      by rw [o _ _ (by decide), q _ _ (by omega)]; exact a2,
      by unfold pwI; rw [o 1 0 (by decide), o 3 0 (by decide), q _ _ (by omega)]; exact a3,
      by rw [o _ _ (by decide), q _ _ (by omega)]; exact a4,
      by rw [o _ _ (by decide), q _ _ (by omega)]; exact a5,
      fun t ht => by rw [o _ _ (by decide), q _ _ (by omega)]; exact a6 t ht,
      fun t ht => by
        by_cases c : t = i
        · subst c; rw [mu_at, mu_at]
        · rw [mu_other _ _ (by omega), mu_other _ _ (by omega)]; exact a7 t ht,
      fun t ht => by rw [o _ _ (by decide), q _ _ (by omega)]; exact a8 t ht,
      fun t ht => by rw [o _ _ (by decide), q _ _ (by omega)]; exact a9 t ht⟩
  · rw [upF_ne _ _ e]
    exact ⟨by rw [q _ _ (by omega)]; exact a1, by rw [q _ _ (by omega)]; exact a2, by rw [q _ _ (by omega)]; exact a3, by rw [q _ _ (by omega)]; exact a4, by rw [q _ _ (by omega)]; exact a5, fun t ht => by rw [q _ _ (by omega)]; exact a6 t ht, fun t ht => by rw [mu_other _ _ (by omega)]; exact a7 t ht, fun t ht => by rw [q _ _ (by omega)]; exact a8 t ht, fun t ht => by rw [q _ _ (by omega)]; exact a9 t ht⟩
theorem MsR_8 {I : MI} {M k s i v : Nat} {N : Nat → SD} (h : MsR I M s (N s)) (hi : i < 6) : MsR (mu I (M + 8) (6 * k + i) (nI v)) M s (upF N k (mu (N k) 8 i v) s) := by
  obtain ⟨a1, a2, a3, a4, a5, a6, a7, a8, a9⟩ := h
  have q : ∀ b t, b ≠ M + 8 → mu I (M + 8) (6 * k + i) (nI v) b t = I b t := fun b t hb => congrFun (mu_ne _ _ hb) t
  by_cases e : s = k
  · subst e
    rw [upF_at]
    have o : ∀ g t, g ≠ 8 → mu (N s) 8 i v g t = N s g t := fun g t hg => mu_other _ _ (fun c => hg c.1)
    exact ⟨by rw [o _ _ (by decide), q _ _ (by omega)]; exact a1,
      by rw [o _ _ (by decide), q _ _ (by omega)]; exact a2,
      by unfold pwI; rw [o 1 0 (by decide), o 3 0 (by decide), q _ _ (by omega)]; exact a3,
      by rw [o _ _ (by decide), q _ _ (by omega)]; exact a4,
      by rw [o _ _ (by decide), q _ _ (by omega)]; exact a5,
      fun t ht => by rw [o _ _ (by decide), q _ _ (by omega)]; exact a6 t ht,
      fun t ht => by rw [o _ _ (by decide), q _ _ (by omega)]; exact a7 t ht,
      fun t ht => by
        by_cases c : t = i
        · subst c; rw [mu_at, mu_at]
        · rw [mu_other _ _ (by omega), mu_other _ _ (by omega)]; exact a8 t ht,
      fun t ht => by rw [o _ _ (by decide), q _ _ (by omega)]; exact a9 t ht⟩
  · rw [upF_ne _ _ e]
    exact ⟨by rw [q _ _ (by omega)]; exact a1, by rw [q _ _ (by omega)]; exact a2, by rw [q _ _ (by omega)]; exact a3, by rw [q _ _ (by omega)]; exact a4, by rw [q _ _ (by omega)]; exact a5, fun t ht => by rw [q _ _ (by omega)]; exact a6 t ht, fun t ht => by rw [q _ _ (by omega)]; exact a7 t ht, fun t ht => by rw [mu_other _ _ (by omega)]; exact a8 t ht, fun t ht => by rw [q _ _ (by omega)]; exact a9 t ht⟩
theorem MsR_9 {I : MI} {M k s i v : Nat} {N : Nat → SD} (h : MsR I M s (N s)) (hi : i < 1536) : MsR (mu I (M + 9) (1536 * k + i) (nI v)) M s (upF N k (mu (N k) 9 i v) s) := by
  obtain ⟨a1, a2, a3, a4, a5, a6, a7, a8, a9⟩ := h
  have q : ∀ b t, b ≠ M + 9 → mu I (M + 9) (1536 * k + i) (nI v) b t = I b t := fun b t hb => congrFun (mu_ne _ _ hb) t
  by_cases e : s = k
  · subst e
    rw [upF_at]
    have o : ∀ g t, g ≠ 9 → mu (N s) 9 i v g t = N s g t := fun g t hg => mu_other _ _ (fun c => hg c.1)
    exact ⟨by rw [o _ _ (by decide), q _ _ (by omega)]; exact a1,
      by rw [o _ _ (by decide), q _ _ (by omega)]; exact a2,
      by unfold pwI; rw [o 1 0 (by decide), o 3 0 (by decide), q _ _ (by omega)]; exact a3,
      by rw [o _ _ (by decide), q _ _ (by omega)]; exact a4,
      by rw [o _ _ (by decide), q _ _ (by omega)]; exact a5,
      fun t ht => by rw [o _ _ (by decide), q _ _ (by omega)]; exact a6 t ht,
      fun t ht => by rw [o _ _ (by decide), q _ _ (by omega)]; exact a7 t ht,
      fun t ht => by rw [o _ _ (by decide), q _ _ (by omega)]; exact a8 t ht,
      fun t ht => by
        by_cases c : t = i
        · subst c; rw [mu_at, mu_at]
        · rw [mu_other _ _ (by omega), mu_other _ _ (by omega)]; exact a9 t ht⟩
  · rw [upF_ne _ _ e]
    exact ⟨by rw [q _ _ (by omega)]; exact a1, by rw [q _ _ (by omega)]; exact a2, by rw [q _ _ (by omega)]; exact a3, by rw [q _ _ (by omega)]; exact a4, by rw [q _ _ (by omega)]; exact a5, fun t ht => by rw [q _ _ (by omega)]; exact a6 t ht, fun t ht => by rw [q _ _ (by omega)]; exact a7 t ht, fun t ht => by rw [q _ _ (by omega)]; exact a8 t ht, fun t ht => by rw [mu_other _ _ (by omega)]; exact a9 t ht⟩
theorem Mq_set {M k : Nat} {st : St} {I I' : MI} {J : MJ} {D : SD} {Q : MI → MJ → Prop} (h : Rm M st I) (hF : FrS I I' (M + 1) (M + 9)) (hD : ∀ s, s < 12 → MsR I' M s (upF st.2.1 k D s)) (q : Mq M (setS st k D) I J Q) : Q I' J := by
  obtain ⟨h1, h2, h3, h4, h5⟩ := h
  exact q I' J ⟨(hF _ _ (by omega)).trans h1, (hF _ _ (by omega)).trans h2, hD, fun j hj => by rw [hF _ _ (by omega), hF _ _ (by omega), hF _ _ (by omega)]; exact h4 j hj, fun i hi => (hF _ _ (by omega)).trans (h5 i hi)⟩ (hF.wide (by omega) (by omega)) (fun _ _ _ => rfl)
def s_X5_scatter : Sp := fun av z S I J R Post => ∃ (M : Nat), ∃ (st : St), ∃ (s w : Int32), av = [.ref M, .int s, .int w] ∧ (MoS S R M) ∧ (Rm M st I) ∧ (Ok st) ∧ (Mq M (o_scatter st s w).2 I J (fun I' J' => Post (o_scatter st s w).1 0 none z S I' J' R))
theorem c_X5_scatter {M : Nat} {st : St} {s w : Int32} {z : Nat} {S : MS} {I : MI} {J : MJ} {R : MR} {Post : PT} (hM : MoS S R M) (hR : Rm M st I) (hO : Ok st) (hp : Mq M (o_scatter st s w).2 I J (fun I' J' => Post (o_scatter st s w).1 0 none z S I' J' R)) : s_X5_scatter [.ref M, .int s, .int w] z S I J R Post := ⟨M, st, s, w, rfl, hM, hR, hO, hp⟩
set_option maxRecDepth 100000 in
set_option maxHeartbeats 1000000 in
theorem m_X5_scatter (T : TC) (B : Nat) : Mt T B yX5_scatter cX5_scatter 3 (some .int) 1 (rmL 3 0 0) s_X5_scatter := by
  refine Mt_of rfl (by rintro _ _ _ _ _ _ _ ⟨_, _, _, _, rfl, -⟩; exact Nat.le_of_ble_eq_true rfl) ?_
  intro X av z S I J R Post h C Q hI
  obtain ⟨M, st, s, w, rfl, hM, hR, hO, hp⟩ := h
  have hn12 := hO.1
  obtain ⟨hn, htl, hms, htr, hrf⟩ := id hR
  obtain ⟨hS0, hr1, hr2, hr3, hr4, hr5, hr6, hr7, hr8, hr9, hr10, hr11, hr12, hr14, hr15, hr16, hr17, hr18, hr19, hr20, hs1, hs2, hs3, hs4, hs5, hs6, hs7, hs8, hs9, hs10, hs11, hs12, hs13, hs14, hs15, hs16, hs17, hs18, hs19⟩ := id hM
  unfold o_scatter at hp
  rcases Oo_or s st.1 (by omega) with ho | ⟨k, hk, rfl⟩
  · rw [onS_o ho] at hp
    refine v_aload_n C dX5_scatter_0 rfl ?_
    refine v_iload_n C dX5_scatter_1 rfl ?_
    refine v_callV1_1 C (m_X5_isScatter T B) lk_X5_80 ⟨wt_624, ws_22⟩ 5 rfl dX5_scatter_2 ⟨Nat.le_of_ble_eq_true rfl, Nat.le_of_ble_eq_true rfl⟩ (Nat.le_of_ble_eq_true rfl) ⟨Nat.le_of_ble_eq_true rfl, Nat.le_of_ble_eq_true rfl⟩ (by assumption) (cTo_5 (by assumption)) ?_
    refine c_isS_o hM hn hn12 ho ?_
    first | refine v_if_neN C 14 dX5_scatter_5 (by omega) (by decide) (fun h5 => ?_) (fun h5 => ?_) | refine v_if_ne C 14 dX5_scatter_5 (by decide) (fun h5 => ?_) (fun h5 => ?_)
    · exact absurd h5 (by decide)
    · refine v_aload_n C dX5_scatter_8 rfl ?_
      refine v_iconst (v := -1) C dX5_scatter_9 (by decide) ?_
      refine v_callV1_1 C (m_X5_refuse T B) lk_X5_88 ⟨wt_608, ws_19⟩ 5 rfl dX5_scatter_10 ⟨Nat.le_of_ble_eq_true rfl, Nat.le_of_ble_eq_true rfl⟩ (Nat.le_of_ble_eq_true rfl) ⟨Nat.le_of_ble_eq_true rfl, Nat.le_of_ble_eq_true rfl⟩ (by assumption) (cTo_5 (by assumption)) ?_
      refine c_X5_refuse (k := 1) hM (by decide) (by decide) ?_
      refine v_iret C Q dX5_scatter_13 (Nat.le_of_ble_eq_true rfl) (Nat.le_of_ble_eq_true rfl) ?_
      have w := Mq_rf (k := 1) hR (by decide) hp
      exact w
  · have hMs := hms k (by omega)
    have hMs0 := hMs
    obtain ⟨hk1, hk2, hk3, hk4, hk5, hk6, hk7, hk8, hk9⟩ := hMs
    have hOk := hO.2.1 k hk
    obtain ⟨o1, o2, o3, o4, o5, o6, o7, o8, o9, o10, o11, o12⟩ := id hOk
    rw [onS_k hk (by omega)] at hp
    rcases Oo_or w 5 (by omega) with hw | ⟨v, hv, rfl⟩
    · rw [onS_o hw] at hp
      have hw' : w.toInt < 0 ∨ 4 < w.toInt := by
        rcases hw with q | q
        · exact Or.inl (Int32.lt_iff_toInt_lt.mp q)
        · have := Int32.le_iff_toInt_le.mp q
          rw [nI_toInt (by decide)] at this
          exact Or.inr (by omega)
      refine v_aload_n C dX5_scatter_0 rfl ?_
      refine v_iload_n C dX5_scatter_1 rfl ?_
      refine v_callV1_1 C (m_X5_isScatter T B) lk_X5_80 ⟨wt_624, ws_22⟩ 5 rfl dX5_scatter_2 ⟨Nat.le_of_ble_eq_true rfl, Nat.le_of_ble_eq_true rfl⟩ (Nat.le_of_ble_eq_true rfl) ⟨Nat.le_of_ble_eq_true rfl, Nat.le_of_ble_eq_true rfl⟩ (by assumption) (cTo_5 (by assumption)) ?_
      refine c_isS_k hM hn hn12 hk ?_
      first | refine v_if_neN C 14 dX5_scatter_5 (by omega) (by decide) (fun h5 => ?_) (fun h5 => ?_) | refine v_if_ne C 14 dX5_scatter_5 (by decide) (fun h5 => ?_) (fun h5 => ?_)
      · refine v_iload_n C dX5_scatter_14 rfl ?_
        refine v_tableOut C 83 dX5_scatter_15 hw' (by decide) ?_
        refine v_aload_n C dX5_scatter_83 rfl ?_
        refine v_bipush (v := -2) C dX5_scatter_84 (by decide) ?_
        refine v_callV1_1 C (m_X5_refuse T B) lk_X5_88 ⟨wt_608, ws_19⟩ 5 rfl dX5_scatter_86 ⟨Nat.le_of_ble_eq_true rfl, Nat.le_of_ble_eq_true rfl⟩ (Nat.le_of_ble_eq_true rfl) ⟨Nat.le_of_ble_eq_true rfl, Nat.le_of_ble_eq_true rfl⟩ (by assumption) (cTo_5 (by assumption)) ?_
        refine c_X5_refuse (k := 2) hM (by decide) (by decide) ?_
        refine v_iret C Q dX5_scatter_89 (Nat.le_of_ble_eq_true rfl) (Nat.le_of_ble_eq_true rfl) ?_
        have w := Mq_rf (k := 2) hR (by decide) hp
        exact w
      · exact absurd h5 (by decide)
    · rw [onS_k hv (by omega)] at hp
      rcases (show v = 0 ∨ v = 1 ∨ v = 2 ∨ v = 3 ∨ v = 4 by omega) with rfl | rfl | rfl | rfl | rfl
      · refine v_aload_n C dX5_scatter_0 rfl ?_
        refine v_iload_n C dX5_scatter_1 rfl ?_
        refine v_callV1_1 C (m_X5_isScatter T B) lk_X5_80 ⟨wt_624, ws_22⟩ 5 rfl dX5_scatter_2 ⟨Nat.le_of_ble_eq_true rfl, Nat.le_of_ble_eq_true rfl⟩ (Nat.le_of_ble_eq_true rfl) ⟨Nat.le_of_ble_eq_true rfl, Nat.le_of_ble_eq_true rfl⟩ (by assumption) (cTo_5 (by assumption)) ?_
        refine c_isS_k hM hn hn12 hk ?_
        first | refine v_if_neN C 14 dX5_scatter_5 (by omega) (by decide) (fun h5 => ?_) (fun h5 => ?_) | refine v_if_ne C 14 dX5_scatter_5 (by decide) (fun h5 => ?_) (fun h5 => ?_)
        · refine v_iload_n C dX5_scatter_14 rfl ?_
          refine v_tableIn C 48 dX5_scatter_15 (by decide) (by decide) rfl (by decide) ?_
          refine v_aload_n C dX5_scatter_48 rfl ?_
          refine g_5_1 C (by assumption) (by assumption) wt_534 dX5_scatter_49 ?_
          refine v_iload_n C dX5_scatter_52 rfl ?_
          first | refine v_ialdN C (by assumption) (by omega) (by omega) dX5_scatter_53 ?_ | refine v_iald C (by assumption) (by assumption) dX5_scatter_53 ?_
          rw [hk1]
          refine v_iret C Q dX5_scatter_54 (Nat.le_of_ble_eq_true rfl) (Nat.le_of_ble_eq_true rfl) ?_
          have w := Mq_same hR hp
          exact w
        · exact absurd h5 (by decide)
      · refine v_aload_n C dX5_scatter_0 rfl ?_
        refine v_iload_n C dX5_scatter_1 rfl ?_
        refine v_callV1_1 C (m_X5_isScatter T B) lk_X5_80 ⟨wt_624, ws_22⟩ 5 rfl dX5_scatter_2 ⟨Nat.le_of_ble_eq_true rfl, Nat.le_of_ble_eq_true rfl⟩ (Nat.le_of_ble_eq_true rfl) ⟨Nat.le_of_ble_eq_true rfl, Nat.le_of_ble_eq_true rfl⟩ (by assumption) (cTo_5 (by assumption)) ?_
        refine c_isS_k hM hn hn12 hk ?_
        first | refine v_if_neN C 14 dX5_scatter_5 (by omega) (by decide) (fun h5 => ?_) (fun h5 => ?_) | refine v_if_ne C 14 dX5_scatter_5 (by decide) (fun h5 => ?_) (fun h5 => ?_)
        · refine v_iload_n C dX5_scatter_14 rfl ?_
          refine v_tableIn C 55 dX5_scatter_15 (by decide) (by decide) rfl (by decide) ?_
          refine v_aload_n C dX5_scatter_55 rfl ?_
          refine g_5_2 C (by assumption) (by assumption) wt_535 dX5_scatter_56 ?_
          refine v_iload_n C dX5_scatter_59 rfl ?_
          first | refine v_ialdN C (by assumption) (by omega) (by omega) dX5_scatter_60 ?_ | refine v_iald C (by assumption) (by assumption) dX5_scatter_60 ?_
          rw [hk2]
          refine v_iret C Q dX5_scatter_61 (Nat.le_of_ble_eq_true rfl) (Nat.le_of_ble_eq_true rfl) ?_
          have w := Mq_same hR hp
          exact w
        · exact absurd h5 (by decide)
      · refine v_aload_n C dX5_scatter_0 rfl ?_
        refine v_iload_n C dX5_scatter_1 rfl ?_
        refine v_callV1_1 C (m_X5_isScatter T B) lk_X5_80 ⟨wt_624, ws_22⟩ 5 rfl dX5_scatter_2 ⟨Nat.le_of_ble_eq_true rfl, Nat.le_of_ble_eq_true rfl⟩ (Nat.le_of_ble_eq_true rfl) ⟨Nat.le_of_ble_eq_true rfl, Nat.le_of_ble_eq_true rfl⟩ (by assumption) (cTo_5 (by assumption)) ?_
        refine c_isS_k hM hn hn12 hk ?_
        first | refine v_if_neN C 14 dX5_scatter_5 (by omega) (by decide) (fun h5 => ?_) (fun h5 => ?_) | refine v_if_ne C 14 dX5_scatter_5 (by decide) (fun h5 => ?_) (fun h5 => ?_)
        · refine v_iload_n C dX5_scatter_14 rfl ?_
          refine v_tableIn C 62 dX5_scatter_15 (by decide) (by decide) rfl (by decide) ?_
          refine v_aload_n C dX5_scatter_62 rfl ?_
          refine g_5_4 C (by assumption) (by assumption) wt_537 dX5_scatter_63 ?_
          refine v_iload_n C dX5_scatter_66 rfl ?_
          first | refine v_ialdN C (by assumption) (by omega) (by omega) dX5_scatter_67 ?_ | refine v_iald C (by assumption) (by assumption) dX5_scatter_67 ?_
          rw [hk4]
          refine v_iret C Q dX5_scatter_68 (Nat.le_of_ble_eq_true rfl) (Nat.le_of_ble_eq_true rfl) ?_
          have w := Mq_same hR hp
          exact w
        · exact absurd h5 (by decide)
      · refine v_aload_n C dX5_scatter_0 rfl ?_
        refine v_iload_n C dX5_scatter_1 rfl ?_
        refine v_callV1_1 C (m_X5_isScatter T B) lk_X5_80 ⟨wt_624, ws_22⟩ 5 rfl dX5_scatter_2 ⟨Nat.le_of_ble_eq_true rfl, Nat.le_of_ble_eq_true rfl⟩ (Nat.le_of_ble_eq_true rfl) ⟨Nat.le_of_ble_eq_true rfl, Nat.le_of_ble_eq_true rfl⟩ (by assumption) (cTo_5 (by assumption)) ?_
        refine c_isS_k hM hn hn12 hk ?_
        first | refine v_if_neN C 14 dX5_scatter_5 (by omega) (by decide) (fun h5 => ?_) (fun h5 => ?_) | refine v_if_ne C 14 dX5_scatter_5 (by decide) (fun h5 => ?_) (fun h5 => ?_)
        · refine v_iload_n C dX5_scatter_14 rfl ?_
          refine v_tableIn C 69 dX5_scatter_15 (by decide) (by decide) rfl (by decide) ?_
          refine v_aload_n C dX5_scatter_69 rfl ?_
          refine g_5_3 C (by assumption) (by assumption) wt_536 dX5_scatter_70 ?_
          refine v_iload_n C dX5_scatter_73 rfl ?_
          first | refine v_ialdN C (by assumption) (by omega) (by omega) dX5_scatter_74 ?_ | refine v_iald C (by assumption) (by assumption) dX5_scatter_74 ?_
          rw [hk3]
          refine v_iret C Q dX5_scatter_75 (Nat.le_of_ble_eq_true rfl) (Nat.le_of_ble_eq_true rfl) ?_
          have w := Mq_same hR hp
          exact w
        · exact absurd h5 (by decide)
      · refine v_aload_n C dX5_scatter_0 rfl ?_
        refine v_iload_n C dX5_scatter_1 rfl ?_
        refine v_callV1_1 C (m_X5_isScatter T B) lk_X5_80 ⟨wt_624, ws_22⟩ 5 rfl dX5_scatter_2 ⟨Nat.le_of_ble_eq_true rfl, Nat.le_of_ble_eq_true rfl⟩ (Nat.le_of_ble_eq_true rfl) ⟨Nat.le_of_ble_eq_true rfl, Nat.le_of_ble_eq_true rfl⟩ (by assumption) (cTo_5 (by assumption)) ?_
        refine c_isS_k hM hn hn12 hk ?_
        first | refine v_if_neN C 14 dX5_scatter_5 (by omega) (by decide) (fun h5 => ?_) (fun h5 => ?_) | refine v_if_ne C 14 dX5_scatter_5 (by decide) (fun h5 => ?_) (fun h5 => ?_)
        · refine v_iload_n C dX5_scatter_14 rfl ?_
          refine v_tableIn C 76 dX5_scatter_15 (by decide) (by decide) rfl (by decide) ?_
          refine v_aload_n C dX5_scatter_76 rfl ?_
          refine g_5_5 C (by assumption) (by assumption) wt_538 dX5_scatter_77 ?_
          refine v_iload_n C dX5_scatter_80 rfl ?_
          first | refine v_ialdN C (by assumption) (by omega) (by omega) dX5_scatter_81 ?_ | refine v_iald C (by assumption) (by assumption) dX5_scatter_81 ?_
          rw [hk5]
          refine v_iret C Q dX5_scatter_82 (Nat.le_of_ble_eq_true rfl) (Nat.le_of_ble_eq_true rfl) ?_
          have w := Mq_same hR hp
          exact w
        · exact absurd h5 (by decide)
theorem Rm_dm {M : Nat} {st : St} {I : MI} (h : Rm M st I) (hO : Ok st) : ∀ k, k < st.1 → I (M + 2) k = nI (st.2.1 k 2 0) ∧ st.2.1 k 2 0 ≤ 6 := fun k hk => ⟨(h.2.2.1 k (by have := hO.1; omega)).2.1, (hO.2.1 k hk).2.2.1⟩
def s_X5_part : Sp := fun av z S I J R Post => ∃ (M : Nat), ∃ (st : St), ∃ (s n j : Int32), av = [.ref M, .int s, .int n, .int j] ∧ (MoS S R M) ∧ (Rm M st I) ∧ (Ok st) ∧ (Mq M (o_part st s n j).2 I J (fun I' J' => Post (o_part st s n j).1 0 none z S I' J' R))
theorem c_X5_part {M : Nat} {st : St} {s n j : Int32} {z : Nat} {S : MS} {I : MI} {J : MJ} {R : MR} {Post : PT} (hM : MoS S R M) (hR : Rm M st I) (hO : Ok st) (hp : Mq M (o_part st s n j).2 I J (fun I' J' => Post (o_part st s n j).1 0 none z S I' J' R)) : s_X5_part [.ref M, .int s, .int n, .int j] z S I J R Post := ⟨M, st, s, n, j, rfl, hM, hR, hO, hp⟩
set_option maxRecDepth 100000 in
set_option maxHeartbeats 1000000 in
theorem m_X5_part (T : TC) (B : Nat) : Mt T B yX5_part cX5_part 4 (some .int) 1 (rmL 4 0 0) s_X5_part := by
  refine Mt_of rfl (by rintro _ _ _ _ _ _ _ ⟨_, _, _, _, _, rfl, -⟩; exact Nat.le_of_ble_eq_true rfl) ?_
  intro X av z S I J R Post h C Q hI
  obtain ⟨M, st, s, n, j, rfl, hM, hR, hO, hp⟩ := h
  have hn12 := hO.1
  obtain ⟨hn, htl, hms, htr, hrf⟩ := id hR
  obtain ⟨hS0, hr1, hr2, hr3, hr4, hr5, hr6, hr7, hr8, hr9, hr10, hr11, hr12, hr14, hr15, hr16, hr17, hr18, hr19, hr20, hs1, hs2, hs3, hs4, hs5, hs6, hs7, hs8, hs9, hs10, hs11, hs12, hs13, hs14, hs15, hs16, hs17, hs18, hs19⟩ := id hM
  have hdm := Rm_dm hR hO
  unfold o_part at hp
  rcases Oo_or s st.1 (by omega) with ho | ⟨k, hk, rfl⟩
  · rw [onS_o ho] at hp
    refine v_aload_n C dX5_part_0 rfl ?_
    refine v_iload_n C dX5_part_1 rfl ?_
    refine v_iload_n C dX5_part_2 rfl ?_
    refine v_callV2_1 C (m_X5_hasDirection T B) lk_X5_96 ⟨wt_620, ws_21⟩ 5 rfl dX5_part_3 ⟨Nat.le_of_ble_eq_true rfl, Nat.le_of_ble_eq_true rfl⟩ (Nat.le_of_ble_eq_true rfl) ⟨Nat.le_of_ble_eq_true rfl, Nat.le_of_ble_eq_true rfl⟩ (by assumption) (cTo_5 (by assumption)) ?_
    refine c_hd_o hM hn hn12 hdm ho ?_
    first | refine v_if_eqN C 37 dX5_part_6 (by omega) (by decide) (fun h6 => ?_) (fun h6 => ?_) | refine v_if_eq C 37 dX5_part_6 (by decide) (fun h6 => ?_) (fun h6 => ?_)
    · refine v_aload_n C dX5_part_37 rfl ?_
      refine v_iconst (v := -1) C dX5_part_38 (by decide) ?_
      refine v_callV1_1 C (m_X5_refuse T B) lk_X5_88 ⟨wt_608, ws_19⟩ 5 rfl dX5_part_39 ⟨Nat.le_of_ble_eq_true rfl, Nat.le_of_ble_eq_true rfl⟩ (Nat.le_of_ble_eq_true rfl) ⟨Nat.le_of_ble_eq_true rfl, Nat.le_of_ble_eq_true rfl⟩ (by assumption) (cTo_5 (by assumption)) ?_
      refine c_X5_refuse (k := 1) hM (by decide) (by decide) ?_
      refine v_iret C Q dX5_part_42 (Nat.le_of_ble_eq_true rfl) (Nat.le_of_ble_eq_true rfl) ?_
      have w := Mq_rf (k := 1) hR (by decide) hp
      exact w
    · exact absurd rfl h6
  · have hMs := hms k (by omega)
    have hMs0 := hMs
    obtain ⟨hk1, hk2, hk3, hk4, hk5, hk6, hk7, hk8, hk9⟩ := hMs
    have hOk := hO.2.1 k hk
    obtain ⟨o1, o2, o3, o4, o5, o6, o7, o8, o9, o10, o11, o12⟩ := id hOk
    rw [onS_k hk (by omega)] at hp
    rcases Oo_or n (st.2.1 k 4 0) (by omega) with hq | ⟨m, hm, rfl⟩
    · rw [onS_o hq] at hp
      rcases Oo_or j (st.2.1 k 2 0) (by omega) with hl | ⟨l, hl, rfl⟩
      · refine v_aload_n C dX5_part_0 rfl ?_
        refine v_iload_n C dX5_part_1 rfl ?_
        refine v_iload_n C dX5_part_2 rfl ?_
        refine v_callV2_1 C (m_X5_hasDirection T B) lk_X5_96 ⟨wt_620, ws_21⟩ 5 rfl dX5_part_3 ⟨Nat.le_of_ble_eq_true rfl, Nat.le_of_ble_eq_true rfl⟩ (Nat.le_of_ble_eq_true rfl) ⟨Nat.le_of_ble_eq_true rfl, Nat.le_of_ble_eq_true rfl⟩ (by assumption) (cTo_5 (by assumption)) ?_
        refine c_hd_j hM hn hn12 hdm hk hl ?_
        first | refine v_if_eqN C 37 dX5_part_6 (by omega) (by decide) (fun h6 => ?_) (fun h6 => ?_) | refine v_if_eq C 37 dX5_part_6 (by decide) (fun h6 => ?_) (fun h6 => ?_)
        · refine v_aload_n C dX5_part_37 rfl ?_
          refine v_iconst (v := -1) C dX5_part_38 (by decide) ?_
          refine v_callV1_1 C (m_X5_refuse T B) lk_X5_88 ⟨wt_608, ws_19⟩ 5 rfl dX5_part_39 ⟨Nat.le_of_ble_eq_true rfl, Nat.le_of_ble_eq_true rfl⟩ (Nat.le_of_ble_eq_true rfl) ⟨Nat.le_of_ble_eq_true rfl, Nat.le_of_ble_eq_true rfl⟩ (by assumption) (cTo_5 (by assumption)) ?_
          refine c_X5_refuse (k := 1) hM (by decide) (by decide) ?_
          refine v_iret C Q dX5_part_42 (Nat.le_of_ble_eq_true rfl) (Nat.le_of_ble_eq_true rfl) ?_
          have w := Mq_rf (k := 1) hR (by decide) hp
          exact w
        · exact absurd rfl h6
      · refine v_aload_n C dX5_part_0 rfl ?_
        refine v_iload_n C dX5_part_1 rfl ?_
        refine v_iload_n C dX5_part_2 rfl ?_
        refine v_callV2_1 C (m_X5_hasDirection T B) lk_X5_96 ⟨wt_620, ws_21⟩ 5 rfl dX5_part_3 ⟨Nat.le_of_ble_eq_true rfl, Nat.le_of_ble_eq_true rfl⟩ (Nat.le_of_ble_eq_true rfl) ⟨Nat.le_of_ble_eq_true rfl, Nat.le_of_ble_eq_true rfl⟩ (by assumption) (cTo_5 (by assumption)) ?_
        refine c_hd_k hM hn hn12 hdm hk hl ?_
        first | refine v_if_eqN C 37 dX5_part_6 (by omega) (by decide) (fun h6 => ?_) (fun h6 => ?_) | refine v_if_eq C 37 dX5_part_6 (by decide) (fun h6 => ?_) (fun h6 => ?_)
        · exact absurd h6 (by decide)
        · refine v_iload_n C dX5_part_9 rfl ?_
          refine v_i2l C dX5_part_10 ?_
          refine v_lconst (v := lN 0) C dX5_part_11 rfl ?_
          refine v_aload_n C dX5_part_12 rfl ?_
          refine g_5_4 C (by assumption) (by assumption) wt_537 dX5_part_13 ?_
          refine v_iload_n C dX5_part_16 rfl ?_
          first | refine v_ialdN C (by assumption) (by omega) (by omega) dX5_part_17 ?_ | refine v_iald C (by assumption) (by assumption) dX5_part_17 ?_
          rw [hk4]
          refine v_iconstN 1 C dX5_part_18 ?_
          refine v_isub C dX5_part_19 ?_
          refine v_i2l C dX5_part_20 ?_
          refine v_callS3_1 C (m_X5_in T B) lk_X5_76 wt_627 dX5_part_21 ⟨Nat.le_of_ble_eq_true rfl, Nat.le_of_ble_eq_true rfl⟩ (Nat.le_of_ble_eq_true rfl) ⟨Nat.le_of_ble_eq_true rfl, Nat.le_of_ble_eq_true rfl⟩ ?_
          refine c_in_o (by omega) hq ?_
          first | refine v_if_eqN C 37 dX5_part_24 (by omega) (by decide) (fun h24 => ?_) (fun h24 => ?_) | refine v_if_eq C 37 dX5_part_24 (by decide) (fun h24 => ?_) (fun h24 => ?_)
          · refine v_aload_n C dX5_part_37 rfl ?_
            refine v_iconst (v := -1) C dX5_part_38 (by decide) ?_
            refine v_callV1_1 C (m_X5_refuse T B) lk_X5_88 ⟨wt_608, ws_19⟩ 5 rfl dX5_part_39 ⟨Nat.le_of_ble_eq_true rfl, Nat.le_of_ble_eq_true rfl⟩ (Nat.le_of_ble_eq_true rfl) ⟨Nat.le_of_ble_eq_true rfl, Nat.le_of_ble_eq_true rfl⟩ (by assumption) (cTo_5 (by assumption)) ?_
            refine c_X5_refuse (k := 1) hM (by decide) (by decide) ?_
            refine v_iret C Q dX5_part_42 (Nat.le_of_ble_eq_true rfl) (Nat.le_of_ble_eq_true rfl) ?_
            have w := Mq_rf (k := 1) hR (by decide) hp
            exact w
          · exact absurd rfl h24
    · rw [onS_k hm (by omega)] at hp
      rcases Oo_or j (st.2.1 k 2 0) (by omega) with hl | ⟨l, hl, rfl⟩
      · rw [onS_o hl] at hp
        refine v_aload_n C dX5_part_0 rfl ?_
        refine v_iload_n C dX5_part_1 rfl ?_
        refine v_iload_n C dX5_part_2 rfl ?_
        refine v_callV2_1 C (m_X5_hasDirection T B) lk_X5_96 ⟨wt_620, ws_21⟩ 5 rfl dX5_part_3 ⟨Nat.le_of_ble_eq_true rfl, Nat.le_of_ble_eq_true rfl⟩ (Nat.le_of_ble_eq_true rfl) ⟨Nat.le_of_ble_eq_true rfl, Nat.le_of_ble_eq_true rfl⟩ (by assumption) (cTo_5 (by assumption)) ?_
        refine c_hd_j hM hn hn12 hdm hk hl ?_
        first | refine v_if_eqN C 37 dX5_part_6 (by omega) (by decide) (fun h6 => ?_) (fun h6 => ?_) | refine v_if_eq C 37 dX5_part_6 (by decide) (fun h6 => ?_) (fun h6 => ?_)
        · refine v_aload_n C dX5_part_37 rfl ?_
          refine v_iconst (v := -1) C dX5_part_38 (by decide) ?_
          refine v_callV1_1 C (m_X5_refuse T B) lk_X5_88 ⟨wt_608, ws_19⟩ 5 rfl dX5_part_39 ⟨Nat.le_of_ble_eq_true rfl, Nat.le_of_ble_eq_true rfl⟩ (Nat.le_of_ble_eq_true rfl) ⟨Nat.le_of_ble_eq_true rfl, Nat.le_of_ble_eq_true rfl⟩ (by assumption) (cTo_5 (by assumption)) ?_
          refine c_X5_refuse (k := 1) hM (by decide) (by decide) ?_
          refine v_iret C Q dX5_part_42 (Nat.le_of_ble_eq_true rfl) (Nat.le_of_ble_eq_true rfl) ?_
          have w := Mq_rf (k := 1) hR (by decide) hp
          exact w
        · exact absurd rfl h6
      · rw [onS_k hl (by omega)] at hp
        refine v_aload_n C dX5_part_0 rfl ?_
        refine v_iload_n C dX5_part_1 rfl ?_
        refine v_iload_n C dX5_part_2 rfl ?_
        refine v_callV2_1 C (m_X5_hasDirection T B) lk_X5_96 ⟨wt_620, ws_21⟩ 5 rfl dX5_part_3 ⟨Nat.le_of_ble_eq_true rfl, Nat.le_of_ble_eq_true rfl⟩ (Nat.le_of_ble_eq_true rfl) ⟨Nat.le_of_ble_eq_true rfl, Nat.le_of_ble_eq_true rfl⟩ (by assumption) (cTo_5 (by assumption)) ?_
        refine c_hd_k hM hn hn12 hdm hk hl ?_
        first | refine v_if_eqN C 37 dX5_part_6 (by omega) (by decide) (fun h6 => ?_) (fun h6 => ?_) | refine v_if_eq C 37 dX5_part_6 (by decide) (fun h6 => ?_) (fun h6 => ?_)
        · exact absurd h6 (by decide)
        · refine v_iload_n C dX5_part_9 rfl ?_
          refine v_i2l C dX5_part_10 ?_
          refine v_lconst (v := lN 0) C dX5_part_11 rfl ?_
          refine v_aload_n C dX5_part_12 rfl ?_
          refine g_5_4 C (by assumption) (by assumption) wt_537 dX5_part_13 ?_
          refine v_iload_n C dX5_part_16 rfl ?_
          first | refine v_ialdN C (by assumption) (by omega) (by omega) dX5_part_17 ?_ | refine v_iald C (by assumption) (by assumption) dX5_part_17 ?_
          rw [hk4]
          refine v_iconstN 1 C dX5_part_18 ?_
          refine v_isub C dX5_part_19 ?_
          refine v_i2l C dX5_part_20 ?_
          refine v_callS3_1 C (m_X5_in T B) lk_X5_76 wt_627 dX5_part_21 ⟨Nat.le_of_ble_eq_true rfl, Nat.le_of_ble_eq_true rfl⟩ (Nat.le_of_ble_eq_true rfl) ⟨Nat.le_of_ble_eq_true rfl, Nat.le_of_ble_eq_true rfl⟩ ?_
          refine c_in_k (by omega) hm ?_
          first | refine v_if_eqN C 37 dX5_part_24 (by omega) (by decide) (fun h24 => ?_) (fun h24 => ?_) | refine v_if_eq C 37 dX5_part_24 (by decide) (fun h24 => ?_) (fun h24 => ?_)
          · exact absurd h24 (by decide)
          · refine v_aload_n C dX5_part_27 rfl ?_
            refine v_iload_n C dX5_part_28 rfl ?_
            refine v_iload_n C dX5_part_29 rfl ?_
            refine v_iload_n C dX5_part_30 rfl ?_
            refine v_callV3_1 C (m_X5_partOf T B) lk_X5_109 ⟨wt_670, ws_23⟩ 5 rfl dX5_part_31 ⟨Nat.le_of_ble_eq_true rfl, Nat.le_of_ble_eq_true rfl⟩ (Nat.le_of_ble_eq_true rfl) ⟨Nat.le_of_ble_eq_true rfl, Nat.le_of_ble_eq_true rfl⟩ (by assumption) (cTo_5 (by assumption)) ?_
            refine c_X5_partOf hM hMs0 (by omega) hOk hm (by omega) ?_
            refine v_goto C 42 dX5_part_34 (by decide) ?_
            refine v_iret C Q dX5_part_42 (Nat.le_of_ble_eq_true rfl) (Nat.le_of_ble_eq_true rfl) ?_
            have w := Mq_same hR hp
            exact w
def s_X5_next : Sp := fun av z S I J R Post => ∃ (M : Nat), ∃ (st : St), ∃ (s : Int32), av = [.ref M, .int s] ∧ (MoS S R M) ∧ (Rm M st I) ∧ (Ok st) ∧ (Mq M (o_next st s).2 I J (fun I' J' => Post (o_next st s).1 0 none z S I' J' R))
theorem c_X5_next {M : Nat} {st : St} {s : Int32} {z : Nat} {S : MS} {I : MI} {J : MJ} {R : MR} {Post : PT} (hM : MoS S R M) (hR : Rm M st I) (hO : Ok st) (hp : Mq M (o_next st s).2 I J (fun I' J' => Post (o_next st s).1 0 none z S I' J' R)) : s_X5_next [.ref M, .int s] z S I J R Post := ⟨M, st, s, rfl, hM, hR, hO, hp⟩
set_option maxRecDepth 100000 in
set_option maxHeartbeats 1000000 in
theorem m_X5_next (T : TC) (B : Nat) : Mt T B yX5_next cX5_next 3 (some .int) 1 (rmL 3 0 0) s_X5_next := by
  refine Mt_of rfl (by rintro _ _ _ _ _ _ _ ⟨_, _, _, rfl, -⟩; exact Nat.le_of_ble_eq_true rfl) ?_
  intro X av z S I J R Post h C Q hI
  obtain ⟨M, st, s, rfl, hM, hR, hO, hp⟩ := h
  have hn12 := hO.1
  obtain ⟨hn, htl, hms, htr, hrf⟩ := id hR
  obtain ⟨hS0, hr1, hr2, hr3, hr4, hr5, hr6, hr7, hr8, hr9, hr10, hr11, hr12, hr14, hr15, hr16, hr17, hr18, hr19, hr20, hs1, hs2, hs3, hs4, hs5, hs6, hs7, hs8, hs9, hs10, hs11, hs12, hs13, hs14, hs15, hs16, hs17, hs18, hs19⟩ := id hM
  unfold o_next at hp
  rcases Oo_or s st.1 (by omega) with ho | ⟨k, hk, rfl⟩
  · rw [onS_o ho] at hp
    refine v_aload_n C dX5_next_0 rfl ?_
    refine v_iload_n C dX5_next_1 rfl ?_
    refine v_callV1_1 C (m_X5_isScatter T B) lk_X5_80 ⟨wt_624, ws_22⟩ 5 rfl dX5_next_2 ⟨Nat.le_of_ble_eq_true rfl, Nat.le_of_ble_eq_true rfl⟩ (Nat.le_of_ble_eq_true rfl) ⟨Nat.le_of_ble_eq_true rfl, Nat.le_of_ble_eq_true rfl⟩ (by assumption) (cTo_5 (by assumption)) ?_
    refine c_isS_o hM hn hn12 ho ?_
    first | refine v_if_neN C 14 dX5_next_5 (by omega) (by decide) (fun h5 => ?_) (fun h5 => ?_) | refine v_if_ne C 14 dX5_next_5 (by decide) (fun h5 => ?_) (fun h5 => ?_)
    · exact absurd h5 (by decide)
    · refine v_aload_n C dX5_next_8 rfl ?_
      refine v_iconst (v := -1) C dX5_next_9 (by decide) ?_
      refine v_callV1_1 C (m_X5_refuse T B) lk_X5_88 ⟨wt_608, ws_19⟩ 5 rfl dX5_next_10 ⟨Nat.le_of_ble_eq_true rfl, Nat.le_of_ble_eq_true rfl⟩ (Nat.le_of_ble_eq_true rfl) ⟨Nat.le_of_ble_eq_true rfl, Nat.le_of_ble_eq_true rfl⟩ (by assumption) (cTo_5 (by assumption)) ?_
      refine c_X5_refuse (k := 1) hM (by decide) (by decide) ?_
      refine v_iret C Q dX5_next_13 (Nat.le_of_ble_eq_true rfl) (Nat.le_of_ble_eq_true rfl) ?_
      have w := Mq_rf (k := 1) hR (by decide) hp
      exact w
  · have hMs := hms k (by omega)
    have hMs0 := hMs
    obtain ⟨hk1, hk2, hk3, hk4, hk5, hk6, hk7, hk8, hk9⟩ := hMs
    have hOk := hO.2.1 k hk
    obtain ⟨o1, o2, o3, o4, o5, o6, o7, o8, o9, o10, o11, o12⟩ := id hOk
    rw [onS_k hk (by omega)] at hp
    have hmd : st.2.1 k 5 0 % st.2.1 k 4 0 < st.2.1 k 4 0 := Nat.mod_lt _ (by omega)
    have cl : ∀ g : Nat, ¬ 1000000 ≤ st.2.1 k 5 0 → gry (st.2.1 k 1 0) (st.2.1 k 5 0) (st.2.1 k 4 0) = g → Post (nI g) 0 none z S (mu (mu I (M + 5) k (nI (st.2.1 k 5 0 + 1))) M 13 (mu I (M + 5) k (nI (st.2.1 k 5 0 + 1)) M 13 + nI 1)) J R := by
      intro g hlt hg
      rw [if_neg hlt, hg] at hp
      refine hp _ _ ⟨?_, ?_, fun s hs => ?_, fun j hj => ?_, fun i hi => ?_⟩ ((FrS.rf.mu (by omega) (by omega)).mu (by omega) (by omega)) (fun _ _ _ => rfl)
      · rw [mu_other _ _ (by omega), mu_ne _ _ (by omega)]; exact hn
      · rw [mu_at, mu_ne _ _ (by omega), htl]; exact (mu_at st.2.2 4 0 _).symm
      · exact (MsR_5 (hms s hs)).up (fun q i h1 h2 => congrFun (mu_ne _ _ (by omega)) i)
      · show _ = mu st.2.2 4 0 (st.2.2 4 0 + nI 1) 0 j ∧ _ = mu st.2.2 4 0 (st.2.2 4 0 + nI 1) 1 j ∧ _ = mu st.2.2 4 0 (st.2.2 4 0 + nI 1) 2 j
        rw [mu_ne _ _ (by omega), mu_ne _ _ (by omega), mu_ne _ _ (by omega), mu_ne _ _ (by omega), mu_ne _ _ (by omega), mu_ne _ _ (by omega), mu_ne _ _ (by omega), mu_ne _ _ (by omega), mu_ne _ _ (by omega)]; exact htr j hj
      · show _ = mu st.2.2 4 0 (st.2.2 4 0 + nI 1) 3 i
        rw [mu_ne _ _ (by omega), mu_ne _ _ (by omega), mu_ne _ _ (by omega)]; exact hrf i hi
    have hk1' : mu (mu I (M + 5) k (nI (st.2.1 k 5 0 + 1))) M 13 (mu I (M + 5) k (nI (st.2.1 k 5 0 + 1)) M 13 + nI 1) (M + 1) k = nI (st.2.1 k 1 0) := by
      rw [mu_ne _ _ (by omega), mu_ne _ _ (by omega)]; exact hk1
    refine v_aload_n C dX5_next_0 rfl ?_
    refine v_iload_n C dX5_next_1 rfl ?_
    refine v_callV1_1 C (m_X5_isScatter T B) lk_X5_80 ⟨wt_624, ws_22⟩ 5 rfl dX5_next_2 ⟨Nat.le_of_ble_eq_true rfl, Nat.le_of_ble_eq_true rfl⟩ (Nat.le_of_ble_eq_true rfl) ⟨Nat.le_of_ble_eq_true rfl, Nat.le_of_ble_eq_true rfl⟩ (by assumption) (cTo_5 (by assumption)) ?_
    refine c_isS_k hM hn hn12 hk ?_
    first | refine v_if_neN C 14 dX5_next_5 (by omega) (by decide) (fun h5 => ?_) (fun h5 => ?_) | refine v_if_ne C 14 dX5_next_5 (by decide) (fun h5 => ?_) (fun h5 => ?_)
    · refine v_aload_n C dX5_next_14 rfl ?_
      refine g_5_5 C (by assumption) (by assumption) wt_538 dX5_next_15 ?_
      refine v_iload_n C dX5_next_18 rfl ?_
      first | refine v_ialdN C (by assumption) (by omega) (by omega) dX5_next_19 ?_ | refine v_iald C (by assumption) (by assumption) dX5_next_19 ?_
      rw [hk5]
      refine v_ldc C dX5_next_20 wt_679 ?_
      refine v_eqi (x' := nI 1000000) (by decide +kernel) ?_
      first | refine v_icmp_neN C 32 dX5_next_22 (by omega) (by omega) (by decide) (fun h22 => ?_) (fun h22 => ?_) | refine v_icmp_ne C 32 dX5_next_22 (by decide) (fun h22 => ?_) (fun h22 => ?_)
      · refine v_aload_n C dX5_next_32 rfl ?_
        refine g_5_5 C (by assumption) (by assumption) wt_538 dX5_next_33 ?_
        refine v_iload_n C dX5_next_36 rfl ?_
        first | refine v_ialdN C (by assumption) (by omega) (by omega) dX5_next_37 ?_ | refine v_iald C (by assumption) (by assumption) dX5_next_37 ?_
        rw [hk5]
        refine v_aload_n C dX5_next_38 rfl ?_
        refine g_5_4 C (by assumption) (by assumption) wt_537 dX5_next_39 ?_
        refine v_iload_n C dX5_next_42 rfl ?_
        first | refine v_ialdN C (by assumption) (by omega) (by omega) dX5_next_43 ?_ | refine v_iald C (by assumption) (by assumption) dX5_next_43 ?_
        rw [hk4]
        first | refine v_iremN C dX5_next_44 (by omega) (by omega) (by omega) ?_ | refine v_irem C dX5_next_44 (by assumption) ?_
        refine v_istore_n C dX5_next_45 (by decide) ?_
        refine v_aload_n C dX5_next_46 rfl ?_
        refine g_5_5 C (by assumption) (by assumption) wt_538 dX5_next_47 ?_
        refine v_iload_n C dX5_next_50 rfl ?_
        refine v_dup2 C dX5_next_51 rfl rfl ?_
        first | refine v_ialdN C (by assumption) (by omega) (by omega) dX5_next_52 ?_ | refine v_iald C (by assumption) (by assumption) dX5_next_52 ?_
        rw [hk5]
        refine v_iconstN 1 C dX5_next_53 ?_
        first | refine v_iaddN C dX5_next_54 ?_ | refine v_iadd C dX5_next_54 ?_
        first | refine v_iastN C (by assumption) (by omega) (by omega) dX5_next_55 ?_ | refine v_iast C (by assumption) (by assumption) dX5_next_55 ?_
        refine v_aload_n C dX5_next_56 rfl ?_
        refine v_dup C dX5_next_57 rfl ?_
        first | refine gv_5_13 C (by assumption) (by assumption) wt_546 dX5_next_58 ?_ | refine g_5_13 C (by assumption) wt_546 dX5_next_58 ?_
        refine v_iconstN 1 C dX5_next_61 ?_
        refine v_iadd C dX5_next_62 ?_
        refine p_5_13 C (by assumption) wt_546 dX5_next_63 ?_
        refine v_aload_n C dX5_next_66 rfl ?_
        refine g_5_1 C (by assumption) (by assumption) wt_534 dX5_next_67 ?_
        refine v_iload_n C dX5_next_70 rfl ?_
        first | refine v_ialdN C (by assumption) (by omega) (by omega) dX5_next_71 ?_ | refine v_iald C (by assumption) (by assumption) dX5_next_71 ?_
        rw [hk1']
        refine v_iconstN 3 C dX5_next_72 ?_
        first | refine v_icmp_neN C 80 dX5_next_73 (by omega) (by omega) (by decide) (fun h73 => ?_) (fun h73 => ?_) | refine v_icmp_ne C 80 dX5_next_73 (by decide) (fun h73 => ?_) (fun h73 => ?_)
        · refine v_iload_n C dX5_next_80 rfl ?_
          refine v_iload_n C dX5_next_81 rfl ?_
          refine v_iconstN 1 C dX5_next_82 ?_
          first | refine v_ishrN C dX5_next_83 (by omega) (by omega) ?_ | refine v_ishr C dX5_next_83 ?_
          first | refine v_ixorN C dX5_next_84 ?_ | refine v_ixor C dX5_next_84 ?_
          refine v_iret C Q dX5_next_85 (Nat.le_of_ble_eq_true rfl) (Nat.le_of_ble_eq_true rfl) ?_
          first
          | exact cl _ (by omega) (by unfold gry; rw [if_pos h73])
          | exact cl _ (by omega) (by unfold gry; rw [if_neg h73, Nat.pow_one])
        · refine v_iload_n C dX5_next_76 rfl ?_
          refine v_goto C 85 dX5_next_77 (by decide) ?_
          refine v_iret C Q dX5_next_85 (Nat.le_of_ble_eq_true rfl) (Nat.le_of_ble_eq_true rfl) ?_
          first
          | exact cl _ (by omega) (by unfold gry; rw [if_pos h73])
          | exact cl _ (by omega) (by unfold gry; rw [if_neg h73, Nat.pow_one])
      · rw [if_pos (by omega)] at hp
        refine v_aload_n C dX5_next_25 rfl ?_
        refine v_bipush (v := -6) C dX5_next_26 (by decide) ?_
        refine v_callV1_1 C (m_X5_refuse T B) lk_X5_88 ⟨wt_608, ws_19⟩ 5 rfl dX5_next_28 ⟨Nat.le_of_ble_eq_true rfl, Nat.le_of_ble_eq_true rfl⟩ (Nat.le_of_ble_eq_true rfl) ⟨Nat.le_of_ble_eq_true rfl, Nat.le_of_ble_eq_true rfl⟩ (by assumption) (cTo_5 (by assumption)) ?_
        refine c_X5_refuse (k := 6) hM (by decide) (by decide) ?_
        refine v_iret C Q dX5_next_31 (Nat.le_of_ble_eq_true rfl) (Nat.le_of_ble_eq_true rfl) ?_
        have w := Mq_rf (k := 6) hR (by decide) hp
        exact w
    · exact absurd h5 (by decide)
def s_X5_skip : Sp := fun av z S I J R Post => ∃ (M : Nat), ∃ (st : St), ∃ (s t : Int32), av = [.ref M, .int s, .int t] ∧ (MoS S R M) ∧ (Rm M st I) ∧ (Ok st) ∧ (Mq M (o_skip st s t).2 I J (fun I' J' => Post (o_skip st s t).1 0 none z S I' J' R))
theorem c_X5_skip {M : Nat} {st : St} {s t : Int32} {z : Nat} {S : MS} {I : MI} {J : MJ} {R : MR} {Post : PT} (hM : MoS S R M) (hR : Rm M st I) (hO : Ok st) (hp : Mq M (o_skip st s t).2 I J (fun I' J' => Post (o_skip st s t).1 0 none z S I' J' R)) : s_X5_skip [.ref M, .int s, .int t] z S I J R Post := ⟨M, st, s, t, rfl, hM, hR, hO, hp⟩
set_option maxRecDepth 100000 in
set_option maxHeartbeats 1000000 in
theorem m_X5_skip (T : TC) (B : Nat) : Mt T B yX5_skip cX5_skip 4 (some .int) 1 (rmL 3 0 0) s_X5_skip := by
  refine Mt_of rfl (by rintro _ _ _ _ _ _ _ ⟨_, _, _, _, rfl, -⟩; exact Nat.le_of_ble_eq_true rfl) ?_
  intro X av z S I J R Post h C Q hI
  obtain ⟨M, st, s, t, rfl, hM, hR, hO, hp⟩ := h
  have hn12 := hO.1
  obtain ⟨hn, htl, hms, htr, hrf⟩ := id hR
  obtain ⟨hS0, hr1, hr2, hr3, hr4, hr5, hr6, hr7, hr8, hr9, hr10, hr11, hr12, hr14, hr15, hr16, hr17, hr18, hr19, hr20, hs1, hs2, hs3, hs4, hs5, hs6, hs7, hs8, hs9, hs10, hs11, hs12, hs13, hs14, hs15, hs16, hs17, hs18, hs19⟩ := id hM
  unfold o_skip at hp
  rcases Oo_or s st.1 (by omega) with ho | ⟨k, hk, rfl⟩
  · rw [onS_o ho] at hp
    refine v_aload_n C dX5_skip_0 rfl ?_
    refine v_iload_n C dX5_skip_1 rfl ?_
    refine v_callV1_1 C (m_X5_isScatter T B) lk_X5_80 ⟨wt_624, ws_22⟩ 5 rfl dX5_skip_2 ⟨Nat.le_of_ble_eq_true rfl, Nat.le_of_ble_eq_true rfl⟩ (Nat.le_of_ble_eq_true rfl) ⟨Nat.le_of_ble_eq_true rfl, Nat.le_of_ble_eq_true rfl⟩ (by assumption) (cTo_5 (by assumption)) ?_
    refine c_isS_o hM hn hn12 ho ?_
    first | refine v_if_neN C 14 dX5_skip_5 (by omega) (by decide) (fun h5 => ?_) (fun h5 => ?_) | refine v_if_ne C 14 dX5_skip_5 (by decide) (fun h5 => ?_) (fun h5 => ?_)
    · exact absurd h5 (by decide)
    · refine v_aload_n C dX5_skip_8 rfl ?_
      refine v_iconst (v := -1) C dX5_skip_9 (by decide) ?_
      refine v_callV1_1 C (m_X5_refuse T B) lk_X5_88 ⟨wt_608, ws_19⟩ 5 rfl dX5_skip_10 ⟨Nat.le_of_ble_eq_true rfl, Nat.le_of_ble_eq_true rfl⟩ (Nat.le_of_ble_eq_true rfl) ⟨Nat.le_of_ble_eq_true rfl, Nat.le_of_ble_eq_true rfl⟩ (by assumption) (cTo_5 (by assumption)) ?_
      refine c_X5_refuse (k := 1) hM (by decide) (by decide) ?_
      refine v_iret C Q dX5_skip_13 (Nat.le_of_ble_eq_true rfl) (Nat.le_of_ble_eq_true rfl) ?_
      have w := Mq_rf (k := 1) hR (by decide) hp
      exact w
  · have hMs := hms k (by omega)
    have hMs0 := hMs
    obtain ⟨hk1, hk2, hk3, hk4, hk5, hk6, hk7, hk8, hk9⟩ := hMs
    have hOk := hO.2.1 k hk
    obtain ⟨o1, o2, o3, o4, o5, o6, o7, o8, o9, o10, o11, o12⟩ := id hOk
    rw [onS_k hk (by omega)] at hp
    rcases Oo_or t 1000001 (by omega) with hq | ⟨m, hm, rfl⟩
    · refine v_aload_n C dX5_skip_0 rfl ?_
      refine v_iload_n C dX5_skip_1 rfl ?_
      refine v_callV1_1 C (m_X5_isScatter T B) lk_X5_80 ⟨wt_624, ws_22⟩ 5 rfl dX5_skip_2 ⟨Nat.le_of_ble_eq_true rfl, Nat.le_of_ble_eq_true rfl⟩ (Nat.le_of_ble_eq_true rfl) ⟨Nat.le_of_ble_eq_true rfl, Nat.le_of_ble_eq_true rfl⟩ (by assumption) (cTo_5 (by assumption)) ?_
      refine c_isS_k hM hn hn12 hk ?_
      first | refine v_if_neN C 14 dX5_skip_5 (by omega) (by decide) (fun h5 => ?_) (fun h5 => ?_) | refine v_if_ne C 14 dX5_skip_5 (by decide) (fun h5 => ?_) (fun h5 => ?_)
      · refine v_iload_n C dX5_skip_14 rfl ?_
        refine v_if_ge C 25 dX5_skip_15 (by decide) (fun h15 => ?_) (fun h15 => ?_)
        · rw [if_neg (Int32.not_lt.mpr h15), onS_o hq] at hp
          refine v_iload_n C dX5_skip_25 rfl ?_
          refine v_ldc C dX5_skip_26 wt_679 ?_
          refine v_eqi (x' := nI 1000000) (by decide +kernel) ?_
          refine v_icmp_le C 38 dX5_skip_28 (by decide) (fun h28 => ?_) (fun h28 => ?_)
          · exact absurd h28 (Oo_le (by decide) hq (Int32.not_lt.mpr h15))
          · refine v_aload_n C dX5_skip_31 rfl ?_
            refine v_bipush (v := -6) C dX5_skip_32 (by decide) ?_
            refine v_callV1_1 C (m_X5_refuse T B) lk_X5_88 ⟨wt_608, ws_19⟩ 5 rfl dX5_skip_34 ⟨Nat.le_of_ble_eq_true rfl, Nat.le_of_ble_eq_true rfl⟩ (Nat.le_of_ble_eq_true rfl) ⟨Nat.le_of_ble_eq_true rfl, Nat.le_of_ble_eq_true rfl⟩ (by assumption) (cTo_5 (by assumption)) ?_
            refine c_X5_refuse (k := 6) hM (by decide) (by decide) ?_
            refine v_iret C Q dX5_skip_37 (Nat.le_of_ble_eq_true rfl) (Nat.le_of_ble_eq_true rfl) ?_
            have w := Mq_rf (k := 6) hR (by decide) hp
            exact w
        · rw [if_pos (Int32.not_le.mp h15)] at hp
          refine v_aload_n C dX5_skip_18 rfl ?_
          refine v_bipush (v := -4) C dX5_skip_19 (by decide) ?_
          refine v_callV1_1 C (m_X5_refuse T B) lk_X5_88 ⟨wt_608, ws_19⟩ 5 rfl dX5_skip_21 ⟨Nat.le_of_ble_eq_true rfl, Nat.le_of_ble_eq_true rfl⟩ (Nat.le_of_ble_eq_true rfl) ⟨Nat.le_of_ble_eq_true rfl, Nat.le_of_ble_eq_true rfl⟩ (by assumption) (cTo_5 (by assumption)) ?_
          refine c_X5_refuse (k := 4) hM (by decide) (by decide) ?_
          refine v_iret C Q dX5_skip_24 (Nat.le_of_ble_eq_true rfl) (Nat.le_of_ble_eq_true rfl) ?_
          have w := Mq_rf (k := 4) hR (by decide) hp
          exact w
      · exact absurd h5 (by decide)
    · rw [if_neg (Int32.not_lt.mpr (show (0 : Int32) ≤ nI m from nI_le (Nat.zero_le m) (by omega))), onS_k hm (by omega)] at hp
      refine v_aload_n C dX5_skip_0 rfl ?_
      refine v_iload_n C dX5_skip_1 rfl ?_
      refine v_callV1_1 C (m_X5_isScatter T B) lk_X5_80 ⟨wt_624, ws_22⟩ 5 rfl dX5_skip_2 ⟨Nat.le_of_ble_eq_true rfl, Nat.le_of_ble_eq_true rfl⟩ (Nat.le_of_ble_eq_true rfl) ⟨Nat.le_of_ble_eq_true rfl, Nat.le_of_ble_eq_true rfl⟩ (by assumption) (cTo_5 (by assumption)) ?_
      refine c_isS_k hM hn hn12 hk ?_
      first | refine v_if_neN C 14 dX5_skip_5 (by omega) (by decide) (fun h5 => ?_) (fun h5 => ?_) | refine v_if_ne C 14 dX5_skip_5 (by decide) (fun h5 => ?_) (fun h5 => ?_)
      · refine v_iload_n C dX5_skip_14 rfl ?_
        first | refine v_if_geN C 25 dX5_skip_15 (by omega) (by decide) (fun h15 => ?_) (fun h15 => ?_) | refine v_if_ge C 25 dX5_skip_15 (by decide) (fun h15 => ?_) (fun h15 => ?_)
        · refine v_iload_n C dX5_skip_25 rfl ?_
          refine v_ldc C dX5_skip_26 wt_679 ?_
          refine v_eqi (x' := nI 1000000) (by decide +kernel) ?_
          first | refine v_icmp_leN C 38 dX5_skip_28 (by omega) (by omega) (by decide) (fun h28 => ?_) (fun h28 => ?_) | refine v_icmp_le C 38 dX5_skip_28 (by decide) (fun h28 => ?_) (fun h28 => ?_)
          · refine v_aload_n C dX5_skip_38 rfl ?_
            refine g_5_5 C (by assumption) (by assumption) wt_538 dX5_skip_39 ?_
            refine v_iload_n C dX5_skip_42 rfl ?_
            first | refine v_ialdN C (by assumption) (by omega) (by omega) dX5_skip_43 ?_ | refine v_iald C (by assumption) (by assumption) dX5_skip_43 ?_
            rw [hk5]
            refine v_istore_n C dX5_skip_44 (by decide) ?_
            refine v_aload_n C dX5_skip_45 rfl ?_
            refine g_5_5 C (by assumption) (by assumption) wt_538 dX5_skip_46 ?_
            refine v_iload_n C dX5_skip_49 rfl ?_
            refine v_iload_n C dX5_skip_50 rfl ?_
            first | refine v_iastN C (by assumption) (by omega) (by omega) dX5_skip_51 ?_ | refine v_iast C (by assumption) (by assumption) dX5_skip_51 ?_
            refine v_iload_n C dX5_skip_52 rfl ?_
            refine v_iret C Q dX5_skip_53 (Nat.le_of_ble_eq_true rfl) (Nat.le_of_ble_eq_true rfl) ?_
            have w := Mq_set hR (FrS.rf.mu (by omega) (by omega)) (fun s hs => MsR_5 (hms s hs)) hp
            exact w
          · exact absurd h28 (by omega)
        · exact absurd h15 (fun q => q)
      · exact absurd h5 (by decide)
def s_X5_side : Sp := fun av z S I J R Post => ∃ (M : Nat), ∃ (st : St), ∃ (j l h : Int32), av = [.ref M, .int j, .int l, .int h] ∧ (MoS S R M) ∧ (Rm M st I) ∧ (Ok st) ∧ (Mq M (o_side st j l h).2 I J (fun I' J' => Post (o_side st j l h).1 0 none z S I' J' R))
theorem c_X5_side {M : Nat} {st : St} {j l h : Int32} {z : Nat} {S : MS} {I : MI} {J : MJ} {R : MR} {Post : PT} (hM : MoS S R M) (hR : Rm M st I) (hO : Ok st) (hp : Mq M (o_side st j l h).2 I J (fun I' J' => Post (o_side st j l h).1 0 none z S I' J' R)) : s_X5_side [.ref M, .int j, .int l, .int h] z S I J R Post := ⟨M, st, j, l, h, rfl, hM, hR, hO, hp⟩
set_option maxRecDepth 100000 in
set_option maxHeartbeats 1000000 in
theorem m_X5_side (T : TC) (B : Nat) : Mt T B yX5_side cX5_side 4 (some .int) 1 (rmL 2 0 0) s_X5_side := by
  refine Mt_of rfl (by rintro _ _ _ _ _ _ _ ⟨_, _, _, _, _, rfl, -⟩; exact Nat.le_of_ble_eq_true rfl) ?_
  intro X av z S I J R Post h C Q hI
  obtain ⟨M, st, j, l, h, rfl, hM, hR, hO, hp⟩ := h
  have hn12 := hO.1
  obtain ⟨hn, htl, hms, htr, hrf⟩ := id hR
  obtain ⟨hS0, hr1, hr2, hr3, hr4, hr5, hr6, hr7, hr8, hr9, hr10, hr11, hr12, hr14, hr15, hr16, hr17, hr18, hr19, hr20, hs1, hs2, hs3, hs4, hs5, hs6, hs7, hs8, hs9, hs10, hs11, hs12, hs13, hs14, hs15, hs16, hs17, hs18, hs19⟩ := id hM
  unfold o_side at hp
  rcases Oo_or j 6 (by omega) with ho | ⟨k, hk, rfl⟩
  · rw [onS_o ho] at hp
    refine v_iload_n C dX5_side_0 rfl ?_
    refine v_i2l C dX5_side_1 ?_
    refine v_lconst (v := lN 0) C dX5_side_2 rfl ?_
    refine v_ldc2 C dX5_side_3 wt_688 ?_
    refine v_eql (x' := lN 5) (by decide +kernel) ?_
    refine v_callS3_1 C (m_X5_in T B) lk_X5_76 wt_627 dX5_side_6 ⟨Nat.le_of_ble_eq_true rfl, Nat.le_of_ble_eq_true rfl⟩ (Nat.le_of_ble_eq_true rfl) ⟨Nat.le_of_ble_eq_true rfl, Nat.le_of_ble_eq_true rfl⟩ ?_
    refine c_inN_o (by decide) ho ?_
    first | refine v_if_neN C 18 dX5_side_9 (by omega) (by decide) (fun h9 => ?_) (fun h9 => ?_) | refine v_if_ne C 18 dX5_side_9 (by decide) (fun h9 => ?_) (fun h9 => ?_)
    · exact absurd h9 (by decide)
    · refine v_aload_n C dX5_side_12 rfl ?_
      refine v_iconst (v := -1) C dX5_side_13 (by decide) ?_
      refine v_callV1_1 C (m_X5_refuse T B) lk_X5_88 ⟨wt_608, ws_19⟩ 5 rfl dX5_side_14 ⟨Nat.le_of_ble_eq_true rfl, Nat.le_of_ble_eq_true rfl⟩ (Nat.le_of_ble_eq_true rfl) ⟨Nat.le_of_ble_eq_true rfl, Nat.le_of_ble_eq_true rfl⟩ (by assumption) (cTo_5 (by assumption)) ?_
      refine c_X5_refuse (k := 1) hM (by decide) (by decide) ?_
      refine v_iret C Q dX5_side_17 (Nat.le_of_ble_eq_true rfl) (Nat.le_of_ble_eq_true rfl) ?_
      have w := Mq_rf (k := 1) hR (by decide) hp
      exact w
  · rw [onS_k hk (by omega)] at hp
    refine v_iload_n C dX5_side_0 rfl ?_
    refine v_i2l C dX5_side_1 ?_
    refine v_lconst (v := lN 0) C dX5_side_2 rfl ?_
    refine v_ldc2 C dX5_side_3 wt_688 ?_
    refine v_eql (x' := lN 5) (by decide +kernel) ?_
    refine v_callS3_1 C (m_X5_in T B) lk_X5_76 wt_627 dX5_side_6 ⟨Nat.le_of_ble_eq_true rfl, Nat.le_of_ble_eq_true rfl⟩ (Nat.le_of_ble_eq_true rfl) ⟨Nat.le_of_ble_eq_true rfl, Nat.le_of_ble_eq_true rfl⟩ ?_
    refine c_inN_k (by decide) (Oo_not hk (by decide)) ?_
    first | refine v_if_neN C 18 dX5_side_9 (by omega) (by decide) (fun h9 => ?_) (fun h9 => ?_) | refine v_if_ne C 18 dX5_side_9 (by decide) (fun h9 => ?_) (fun h9 => ?_)
    · refine v_aload_n C dX5_side_18 rfl ?_
      refine g_5_10 C (by assumption) (by assumption) wt_543 dX5_side_19 ?_
      refine v_iload_n C dX5_side_22 rfl ?_
      refine v_iload_n C dX5_side_23 rfl ?_
      first | refine v_iastN C (by assumption) (by omega) (by omega) dX5_side_24 ?_ | refine v_iast C (by assumption) (by assumption) dX5_side_24 ?_
      refine v_aload_n C dX5_side_25 rfl ?_
      refine g_5_11 C (by assumption) (by assumption) wt_544 dX5_side_26 ?_
      refine v_iload_n C dX5_side_29 rfl ?_
      refine v_iload_n C dX5_side_30 rfl ?_
      first | refine v_iastN C (by assumption) (by omega) (by omega) dX5_side_31 ?_ | refine v_iast C (by assumption) (by assumption) dX5_side_31 ?_
      refine v_iconstN 1 C dX5_side_32 ?_
      refine v_iret C Q dX5_side_33 (Nat.le_of_ble_eq_true rfl) (Nat.le_of_ble_eq_true rfl) ?_
      have w := Mq_fr hR ((FrS.rf.mu (b := M + 10) (k := k) (x := l) (by omega) (by omega)).mu (b := M + 11) (k := k) (x := h) (by omega) (by omega)) (fun q i h1 h2 => by rw [mu_ne _ _ (by omega), mu_ne _ _ (by omega)]) (by rw [mu_ne _ _ (by omega), mu_ne _ _ (by omega)]) (by rw [mu_ne _ _ (by omega), mu_ne _ _ (by omega), mu_ne _ _ (by omega), mu_ne _ _ (by omega)]; exact htl) (fun i hi => ?_) (fun i hi => ?_) hp
      · exact w
      · obtain ⟨b1, b2, b3⟩ := htr i hi
        by_cases e : i = k
        · subst e; simp [mu, b3]
        · simp [mu, b1, b2, b3, e]
      · rw [mu_ne _ _ (by omega), mu_ne _ _ (by omega), mu_ne _ _ (by omega), mu_ne _ _ (by omega)]; exact hrf i hi
    · exact absurd h9 (by decide)
def s_X5_mark : Sp := fun av z S I J R Post => ∃ (M : Nat), ∃ (st : St), ∃ (j v : Int32), av = [.ref M, .int j, .int v] ∧ (MoS S R M) ∧ (Rm M st I) ∧ (Ok st) ∧ (Mq M (o_mark st j v).2 I J (fun I' J' => Post (o_mark st j v).1 0 none z S I' J' R))
theorem c_X5_mark {M : Nat} {st : St} {j v : Int32} {z : Nat} {S : MS} {I : MI} {J : MJ} {R : MR} {Post : PT} (hM : MoS S R M) (hR : Rm M st I) (hO : Ok st) (hp : Mq M (o_mark st j v).2 I J (fun I' J' => Post (o_mark st j v).1 0 none z S I' J' R)) : s_X5_mark [.ref M, .int j, .int v] z S I J R Post := ⟨M, st, j, v, rfl, hM, hR, hO, hp⟩
set_option maxRecDepth 100000 in
set_option maxHeartbeats 1000000 in
theorem m_X5_mark (T : TC) (B : Nat) : Mt T B yX5_mark cX5_mark 4 (some .int) 1 (rmL 2 0 0) s_X5_mark := by
  refine Mt_of rfl (by rintro _ _ _ _ _ _ _ ⟨_, _, _, _, rfl, -⟩; exact Nat.le_of_ble_eq_true rfl) ?_
  intro X av z S I J R Post h C Q hI
  obtain ⟨M, st, j, v, rfl, hM, hR, hO, hp⟩ := h
  have hn12 := hO.1
  obtain ⟨hn, htl, hms, htr, hrf⟩ := id hR
  obtain ⟨hS0, hr1, hr2, hr3, hr4, hr5, hr6, hr7, hr8, hr9, hr10, hr11, hr12, hr14, hr15, hr16, hr17, hr18, hr19, hr20, hs1, hs2, hs3, hs4, hs5, hs6, hs7, hs8, hs9, hs10, hs11, hs12, hs13, hs14, hs15, hs16, hs17, hs18, hs19⟩ := id hM
  unfold o_mark at hp
  rcases Oo_or j 6 (by omega) with ho | ⟨k, hk, rfl⟩
  · rw [onS_o ho] at hp
    refine v_iload_n C dX5_mark_0 rfl ?_
    refine v_i2l C dX5_mark_1 ?_
    refine v_lconst (v := lN 0) C dX5_mark_2 rfl ?_
    refine v_ldc2 C dX5_mark_3 wt_688 ?_
    refine v_eql (x' := lN 5) (by decide +kernel) ?_
    refine v_callS3_1 C (m_X5_in T B) lk_X5_76 wt_627 dX5_mark_6 ⟨Nat.le_of_ble_eq_true rfl, Nat.le_of_ble_eq_true rfl⟩ (Nat.le_of_ble_eq_true rfl) ⟨Nat.le_of_ble_eq_true rfl, Nat.le_of_ble_eq_true rfl⟩ ?_
    refine c_inN_o (by decide) ho ?_
    first | refine v_if_neN C 18 dX5_mark_9 (by omega) (by decide) (fun h9 => ?_) (fun h9 => ?_) | refine v_if_ne C 18 dX5_mark_9 (by decide) (fun h9 => ?_) (fun h9 => ?_)
    · exact absurd h9 (by decide)
    · refine v_aload_n C dX5_mark_12 rfl ?_
      refine v_iconst (v := -1) C dX5_mark_13 (by decide) ?_
      refine v_callV1_1 C (m_X5_refuse T B) lk_X5_88 ⟨wt_608, ws_19⟩ 5 rfl dX5_mark_14 ⟨Nat.le_of_ble_eq_true rfl, Nat.le_of_ble_eq_true rfl⟩ (Nat.le_of_ble_eq_true rfl) ⟨Nat.le_of_ble_eq_true rfl, Nat.le_of_ble_eq_true rfl⟩ (by assumption) (cTo_5 (by assumption)) ?_
      refine c_X5_refuse (k := 1) hM (by decide) (by decide) ?_
      refine v_iret C Q dX5_mark_17 (Nat.le_of_ble_eq_true rfl) (Nat.le_of_ble_eq_true rfl) ?_
      have w := Mq_rf (k := 1) hR (by decide) hp
      exact w
  · rw [onS_k hk (by omega)] at hp
    have hv0 : I (M + 12) k = st.2.2 2 k := (htr k hk).2.2
    refine v_iload_n C dX5_mark_0 rfl ?_
    refine v_i2l C dX5_mark_1 ?_
    refine v_lconst (v := lN 0) C dX5_mark_2 rfl ?_
    refine v_ldc2 C dX5_mark_3 wt_688 ?_
    refine v_eql (x' := lN 5) (by decide +kernel) ?_
    refine v_callS3_1 C (m_X5_in T B) lk_X5_76 wt_627 dX5_mark_6 ⟨Nat.le_of_ble_eq_true rfl, Nat.le_of_ble_eq_true rfl⟩ (Nat.le_of_ble_eq_true rfl) ⟨Nat.le_of_ble_eq_true rfl, Nat.le_of_ble_eq_true rfl⟩ ?_
    refine c_inN_k (by decide) (Oo_not hk (by decide)) ?_
    first | refine v_if_neN C 18 dX5_mark_9 (by omega) (by decide) (fun h9 => ?_) (fun h9 => ?_) | refine v_if_ne C 18 dX5_mark_9 (by decide) (fun h9 => ?_) (fun h9 => ?_)
    · refine v_aload_n C dX5_mark_18 rfl ?_
      refine g_5_12 C (by assumption) (by assumption) wt_545 dX5_mark_19 ?_
      refine v_iload_n C dX5_mark_22 rfl ?_
      first | refine v_ialdN C (by assumption) (by omega) (by omega) dX5_mark_23 ?_ | refine v_iald C (by assumption) (by assumption) dX5_mark_23 ?_
      rw [hv0]
      refine v_istore_n C dX5_mark_24 (by decide) ?_
      refine v_aload_n C dX5_mark_25 rfl ?_
      refine g_5_12 C (by assumption) (by assumption) wt_545 dX5_mark_26 ?_
      refine v_iload_n C dX5_mark_29 rfl ?_
      refine v_iload_n C dX5_mark_30 rfl ?_
      first | refine v_iastN C (by assumption) (by omega) (by omega) dX5_mark_31 ?_ | refine v_iast C (by assumption) (by assumption) dX5_mark_31 ?_
      refine v_iload_n C dX5_mark_32 rfl ?_
      refine v_iret C Q dX5_mark_33 (Nat.le_of_ble_eq_true rfl) (Nat.le_of_ble_eq_true rfl) ?_
      have w := Mq_fr hR (FrS.rf.mu (b := M + 12) (k := k) (x := v) (by omega) (by omega)) (fun q i h1 h2 => by rw [mu_ne _ _ (by omega)]) (by rw [mu_ne _ _ (by omega)]) (by rw [mu_ne _ _ (by omega), mu_ne _ _ (by omega)]; exact htl) (fun i hi => ?_) (fun i hi => ?_) hp
      · exact w
      · obtain ⟨b1, b2, b3⟩ := htr i hi
        by_cases e : i = k
        · subst e; simp [mu, b1, b2]
        · simp [mu, b1, b2, b3, e]
      · rw [mu_ne _ _ (by omega), mu_ne _ _ (by omega)]; exact hrf i hi
    · exact absurd h9 (by decide)
def s_X5_status : Sp := fun av z S I J R Post => ∃ (M : Nat), ∃ (st : St), ∃ (w : Int32), av = [.ref M, .int w] ∧ (MoS S R M) ∧ (Rm M st I) ∧ (Ok st) ∧ (Mq M (o_status st w).2 I J (fun I' J' => Post (o_status st w).1 0 none z S I' J' R))
theorem c_X5_status {M : Nat} {st : St} {w : Int32} {z : Nat} {S : MS} {I : MI} {J : MJ} {R : MR} {Post : PT} (hM : MoS S R M) (hR : Rm M st I) (hO : Ok st) (hp : Mq M (o_status st w).2 I J (fun I' J' => Post (o_status st w).1 0 none z S I' J' R)) : s_X5_status [.ref M, .int w] z S I J R Post := ⟨M, st, w, rfl, hM, hR, hO, hp⟩
set_option maxRecDepth 100000 in
set_option maxHeartbeats 1000000 in
theorem m_X5_status (T : TC) (B : Nat) : Mt T B yX5_status cX5_status 2 (some .int) 1 (rmL 2 0 0) s_X5_status := by
  refine Mt_of rfl (by rintro _ _ _ _ _ _ _ ⟨_, _, _, rfl, -⟩; exact Nat.le_of_ble_eq_true rfl) ?_
  intro X av z S I J R Post h C Q hI
  obtain ⟨M, st, w, rfl, hM, hR, hO, hp⟩ := h
  have hn12 := hO.1
  obtain ⟨hn, htl, hms, htr, hrf⟩ := id hR
  obtain ⟨hS0, hr1, hr2, hr3, hr4, hr5, hr6, hr7, hr8, hr9, hr10, hr11, hr12, hr14, hr15, hr16, hr17, hr18, hr19, hr20, hs1, hs2, hs3, hs4, hs5, hs6, hs7, hs8, hs9, hs10, hs11, hs12, hs13, hs14, hs15, hs16, hs17, hs18, hs19⟩ := id hM
  unfold o_status at hp
  by_cases e0 : w = 0
  · subst e0
    rw [if_pos rfl] at hp
    refine v_iload_n C dX5_status_0 rfl ?_
    refine v_if_ne C 11 dX5_status_1 (by decide) (fun h1 => ?_) (fun h1 => ?_)
    · exact absurd rfl h1
    · refine v_aload_n C dX5_status_4 rfl ?_
      first | refine gv_5_0 C (by assumption) (by assumption) wt_533 dX5_status_5 ?_ | refine g_5_0 C (by assumption) wt_533 dX5_status_5 ?_
      refine v_goto C 51 dX5_status_8 (by decide) ?_
      refine v_iret C Q dX5_status_51 (Nat.le_of_ble_eq_true rfl) (Nat.le_of_ble_eq_true rfl) ?_
      have w := Mq_same hR hp
      exact w
  · rw [if_neg e0] at hp
    by_cases e1 : w = nI 1
    · subst e1
      rw [if_pos rfl] at hp
      refine v_iload_n C dX5_status_0 rfl ?_
      first | refine v_if_neN C 11 dX5_status_1 (by omega) (by decide) (fun h1 => ?_) (fun h1 => ?_) | refine v_if_ne C 11 dX5_status_1 (by decide) (fun h1 => ?_) (fun h1 => ?_)
      · refine v_iload_n C dX5_status_11 rfl ?_
        refine v_iconstN 1 C dX5_status_12 ?_
        first | refine v_icmp_neN C 23 dX5_status_13 (by omega) (by omega) (by decide) (fun h13 => ?_) (fun h13 => ?_) | refine v_icmp_ne C 23 dX5_status_13 (by decide) (fun h13 => ?_) (fun h13 => ?_)
        · exact absurd rfl h13
        · refine v_aload_n C dX5_status_16 rfl ?_
          first | refine gv_5_13 C (by assumption) (by assumption) wt_546 dX5_status_17 ?_ | refine g_5_13 C (by assumption) wt_546 dX5_status_17 ?_
          refine v_goto C 51 dX5_status_20 (by decide) ?_
          refine v_iret C Q dX5_status_51 (Nat.le_of_ble_eq_true rfl) (Nat.le_of_ble_eq_true rfl) ?_
          have w := Mq_same hR hp
          exact w
      · exact absurd h1 (by decide)
    · rw [if_neg e1] at hp
      have ie : (lN 11 ≤ w.toInt64 ∧ w.toInt64 ≤ lN 16) ↔ ¬ (w < nI 11 ∨ nI 16 < w) := by
        rw [Int64.le_iff_toInt_le, Int64.le_iff_toInt_le, l_I, Int32.lt_iff_toInt_lt, Int32.lt_iff_toInt_lt, nI_toInt (by decide), nI_toInt (by decide), lN_I (by decide), lN_I (by decide)]
        omega
      by_cases e2 : w < nI 11 ∨ nI 16 < w
      · rw [if_pos e2] at hp
        refine v_iload_n C dX5_status_0 rfl ?_
        refine v_if_ne C 11 dX5_status_1 (by decide) (fun h1 => ?_) (fun h1 => ?_)
        · refine v_iload_n C dX5_status_11 rfl ?_
          refine v_iconstN 1 C dX5_status_12 ?_
          refine v_icmp_ne C 23 dX5_status_13 (by decide) (fun h13 => ?_) (fun h13 => ?_)
          · refine v_iload_n C dX5_status_23 rfl ?_
            refine v_i2l C dX5_status_24 ?_
            refine v_ldc2 C dX5_status_25 wt_794 ?_
            refine v_eql (x' := lN 11) (by decide +kernel) ?_
            refine v_ldc2 C dX5_status_28 wt_795 ?_
            refine v_eql (x' := lN 16) (by decide +kernel) ?_
            refine v_callS3_1 C (m_X5_in T B) lk_X5_76 wt_627 dX5_status_31 ⟨Nat.le_of_ble_eq_true rfl, Nat.le_of_ble_eq_true rfl⟩ (Nat.le_of_ble_eq_true rfl) ⟨Nat.le_of_ble_eq_true rfl, Nat.le_of_ble_eq_true rfl⟩ ?_
            refine c_X5_in ⟨fun h1 h2 => absurd e2 (ie.mp ⟨h1, h2⟩), fun _ => ?_⟩
            first | refine v_if_eqN C 49 dX5_status_34 (by omega) (by decide) (fun h34 => ?_) (fun h34 => ?_) | refine v_if_eq C 49 dX5_status_34 (by decide) (fun h34 => ?_) (fun h34 => ?_)
            · refine v_bipush (v := -9) C dX5_status_49 (by decide) ?_
              refine v_iret C Q dX5_status_51 (Nat.le_of_ble_eq_true rfl) (Nat.le_of_ble_eq_true rfl) ?_
              have w := Mq_same hR hp
              exact w
            · exact absurd rfl h34
          · exact absurd h13 e1
        · exact absurd h1 e0
      · rw [if_neg e2] at hp
        have w1 : ¬ w < nI 11 := fun q => e2 (Or.inl q)
        have w2 : ¬ nI 16 < w := fun q => e2 (Or.inr q)
        have w0 : ¬ w < 0 := fun q => by
          have a1 := Int32.le_iff_toInt_le.mp (Int32.not_lt.mp w1)
          have a2 := Int32.lt_iff_toInt_lt.mp q
          rw [nI_toInt (by decide)] at a1
          have : (0 : Int32).toInt = 0 := rfl
          omega
        obtain ⟨v, hv, rfl⟩ := nI_of2 (M := nI 16) (n := 16) (nI_toInt (by decide)) w0 (Int32.not_lt.mp w2)
        have hv1 : 11 ≤ v := Nat.le_of_not_lt (fun q => w1 (nI_lt q (by decide)))
        rw [vN_nI (by omega)] at hp
        have hr0 := hrf (v - 10) (by omega)
        refine v_iload_n C dX5_status_0 rfl ?_
        first | refine v_if_neN C 11 dX5_status_1 (by omega) (by decide) (fun h1 => ?_) (fun h1 => ?_) | refine v_if_ne C 11 dX5_status_1 (by decide) (fun h1 => ?_) (fun h1 => ?_)
        · refine v_iload_n C dX5_status_11 rfl ?_
          refine v_iconstN 1 C dX5_status_12 ?_
          first | refine v_icmp_neN C 23 dX5_status_13 (by omega) (by omega) (by decide) (fun h13 => ?_) (fun h13 => ?_) | refine v_icmp_ne C 23 dX5_status_13 (by decide) (fun h13 => ?_) (fun h13 => ?_)
          · refine v_iload_n C dX5_status_23 rfl ?_
            refine v_i2l C dX5_status_24 ?_
            refine v_ldc2 C dX5_status_25 wt_794 ?_
            refine v_eql (x' := lN 11) (by decide +kernel) ?_
            refine v_ldc2 C dX5_status_28 wt_795 ?_
            refine v_eql (x' := lN 16) (by decide +kernel) ?_
            refine v_callS3_1 C (m_X5_in T B) lk_X5_76 wt_627 dX5_status_31 ⟨Nat.le_of_ble_eq_true rfl, Nat.le_of_ble_eq_true rfl⟩ (Nat.le_of_ble_eq_true rfl) ⟨Nat.le_of_ble_eq_true rfl, Nat.le_of_ble_eq_true rfl⟩ ?_
            refine c_X5_in ⟨fun _ _ => ?_, fun q => absurd (ie.mpr e2) q⟩
            first | refine v_if_eqN C 49 dX5_status_34 (by omega) (by decide) (fun h34 => ?_) (fun h34 => ?_) | refine v_if_eq C 49 dX5_status_34 (by decide) (fun h34 => ?_) (fun h34 => ?_)
            · exact absurd h34 (by decide)
            · refine v_aload_n C dX5_status_37 rfl ?_
              refine g_5_14 C (by assumption) (by assumption) wt_547 dX5_status_38 ?_
              refine v_iload_n C dX5_status_41 rfl ?_
              refine v_bipushN 10 (by decide) C dX5_status_42 ?_
              first | refine v_isubN C dX5_status_44 (by omega) ?_ | refine v_isub C dX5_status_44 ?_
              first | refine v_ialdN C (by assumption) (by omega) (by omega) dX5_status_45 ?_ | refine v_iald C (by assumption) (by assumption) dX5_status_45 ?_
              rw [hr0]
              refine v_goto C 51 dX5_status_46 (by decide) ?_
              refine v_iret C Q dX5_status_51 (Nat.le_of_ble_eq_true rfl) (Nat.le_of_ble_eq_true rfl) ?_
              have w := Mq_same hR hp
              exact w
          · exact absurd h13 (by omega)
        · exact absurd h1 (by omega)
