theorem ur_all {q : Nat → Nat} {s c : Nat} : ∀ f b, (∀ i, i < f → q (b + i) * 2 ^ s = c) → ur q s c f b = -9
  | 0, _, _ => rfl
  | f + 1, b, h => by
    simp only [ur]
    rw [if_pos (show q b * 2 ^ s = c from h 0 (by omega)), ur_all f (b + 1) (fun i hi => by rw [show b + 1 + i = b + (i + 1) by omega]; exact h (i + 1) (by omega))]
theorem ur_fst {q : Nat → Nat} {s c : Nat} : ∀ f b e, e < f → (∀ i, i < e → q (b + i) * 2 ^ s = c) → ¬ q (b + e) * 2 ^ s = c → ur q s c f b = nI (q (b + e))
  | 0, _, _, h, _, _ => absurd h (by omega)
  | f + 1, b, 0, _, _, hn => by
    simp only [ur]
    rw [if_neg (show ¬ q b * 2 ^ s = c from hn)]; rfl
  | f + 1, b, e + 1, he, h, hn => by
    simp only [ur]
    rw [if_pos (show q b * 2 ^ s = c from h 0 (by omega)), ur_fst f (b + 1) e (by omega) (fun i hi => by rw [show b + 1 + i = b + (i + 1) by omega]; exact h (i + 1) (by omega)) (by rw [show b + 1 + e = b + (e + 1) by omega]; exact hn), show b + 1 + e = b + (e + 1) by omega]
/-- with more boxes than points the first box isn't even -/
theorem un_more {D : SD} {m : Nat → Nat} (hO : OkD D) (hk3 : D 1 0 ≠ 3) (h : D 3 0 < sumN m (D 2 0)) (b : Nat) : ¬ qB D m b * 2 ^ sumN m (D 2 0) = D 4 0 := fun q => by
  have e := hO.2.2.2.2.2.2.1 hk3
  have p1 : 2 ^ D 3 0 < 2 ^ sumN m (D 2 0) := Nat.pow_lt_pow_right (by decide) h
  have p2 := Nat.two_pow_pos (D 3 0)
  rcases Nat.eq_zero_or_pos (qB D m b) with z | z
  · rw [z, Nat.zero_mul] at q; omega
  · have : 1 * 2 ^ sumN m (D 2 0) ≤ qB D m b * 2 ^ sumN m (D 2 0) := Nat.mul_le_mul_right _ z
    omega
theorem unW_all {D : SD} {W : Nat → Nat → Int32} (hO : OkD D) (hk3 : D 1 0 ≠ 3) (h : ∀ b, b < 2 ^ sumN (mW W) (D 2 0) → qB D (mW W) b * 2 ^ sumN (mW W) (D 2 0) = D 4 0) : unW D W = -9 := by
  have hle : sumN (mW W) (D 2 0) ≤ D 3 0 := Nat.le_of_not_lt (fun q => un_more hO hk3 q 0 (h 0 (Nat.two_pow_pos _)))
  unfold unW
  rw [if_pos hle]
  exact ur_all _ 0 (fun i hi => by rw [Nat.zero_add]; exact h i hi)
theorem unW_fst {D : SD} {W : Nat → Nat → Int32} {b : Nat} (hO : OkD D) (hk3 : D 1 0 ≠ 3) (hb : b < 2 ^ sumN (mW W) (D 2 0)) (h : ∀ i, i < b → qB D (mW W) i * 2 ^ sumN (mW W) (D 2 0) = D 4 0) (hn : ¬ qB D (mW W) b * 2 ^ sumN (mW W) (D 2 0) = D 4 0) : unW D W = nI (qB D (mW W) b) := by
  unfold unW
  by_cases hle : sumN (mW W) (D 2 0) ≤ D 3 0
  · rw [if_pos hle]
    have := ur_fst (q := qB D (mW W)) (s := sumN (mW W) (D 2 0)) (c := D 4 0) _ 0 b hb (fun i hi => by rw [Nat.zero_add]; exact h i hi) (by rw [Nat.zero_add]; exact hn)
    rw [Nat.zero_add] at this
    exact this
  · rw [if_neg hle]
    have hb0 : b = 0 := by
      rcases Nat.eq_zero_or_pos b with z | z
      · exact z
      · exact absurd (h 0 z) (un_more hO hk3 (by omega) 0)
    subst hb0
    exact ur_fst (q := qB D (mW W)) (s := sumN (mW W) (D 2 0)) (c := D 4 0) 1 0 0 (by omega) (fun i hi => absurd hi (by omega)) hn
theorem nI_ne9 {n : Nat} (h : n < 2147483648) : ¬ nI n = -9 := fun q => by
  have h1 := nI_toInt h
  rw [q] at h1
  have h2 : ((-9 : Int32)).toInt = -9 := rfl
  omega
def s_X5_lacksShape : Sp := fun av z S I J R Post => ∃ (M : Nat), ∃ (st : St), ∃ (s : Int32), av = [.ref M, .int s] ∧ (MoS S R M) ∧ (Rm M st I) ∧ (Ok st) ∧ ((Oo s st.1 → Post (-1) 0 none z S I J R) ∧ (∀ k, k < st.1 → s = nI k → ∀ I' : MI, FrS I I' (M + 16) (M + 16) → (shD st k = nI 0 → ∀ j, j < st.2.1 k 2 0 → I' (M + 16) j = nI (mW st.2.2 j)) → Post (shD st k) 0 none z S I' J R))
theorem c_X5_lacksShape {M : Nat} {st : St} {s : Int32} {z : Nat} {S : MS} {I : MI} {J : MJ} {R : MR} {Post : PT} (hM : MoS S R M) (hR : Rm M st I) (hO : Ok st) (hp : (Oo s st.1 → Post (-1) 0 none z S I J R) ∧ (∀ k, k < st.1 → s = nI k → ∀ I' : MI, FrS I I' (M + 16) (M + 16) → (shD st k = nI 0 → ∀ j, j < st.2.1 k 2 0 → I' (M + 16) j = nI (mW st.2.2 j)) → Post (shD st k) 0 none z S I' J R)) : s_X5_lacksShape [.ref M, .int s] z S I J R Post := ⟨M, st, s, rfl, hM, hR, hO, hp⟩
set_option maxRecDepth 100000 in
set_option maxHeartbeats 2000000 in
theorem m_X5_lacksShape (T : TC) (B : Nat) : Mt T B yX5_lacksShape cX5_lacksShape 4 (some .int) 1 (rmL 3 0 0) s_X5_lacksShape := by
  refine Mt_of rfl (by rintro _ _ _ _ _ _ _ ⟨_, _, _, rfl, -⟩; exact Nat.le_of_ble_eq_true rfl) ?_
  intro X av z S I J R Post h C Q hI
  obtain ⟨M, st, s, rfl, hM, hR, hO, hp⟩ := h
  have hn12 := hO.1
  obtain ⟨hn, htl, hms, htr, hrf⟩ := id hR
  obtain ⟨hS0, hr1, hr2, hr3, hr4, hr5, hr6, hr7, hr8, hr9, hr10, hr11, hr12, hr14, hr15, hr16, hr17, hr18, hr19, hr20, hs1, hs2, hs3, hs4, hs5, hs6, hs7, hs8, hs9, hs10, hs11, hs12, hs13, hs14, hs15, hs16, hs17, hs18, hs19⟩ := id hM
  rcases Oo_or s st.1 (by omega) with ho | ⟨k, hk, rfl⟩
  · refine v_aload_n C dX5_lacksShape_0 rfl ?_
    refine v_iload_n C dX5_lacksShape_1 rfl ?_
    refine v_callV1_1 C (m_X5_isScatter T B) lk_X5_80 ⟨wt_624, ws_22⟩ 5 rfl dX5_lacksShape_2 ⟨Nat.le_of_ble_eq_true rfl, Nat.le_of_ble_eq_true rfl⟩ (Nat.le_of_ble_eq_true rfl) ⟨Nat.le_of_ble_eq_true rfl, Nat.le_of_ble_eq_true rfl⟩ (by assumption) (cTo_5 (by assumption)) ?_
    refine c_isS_o hM hn hn12 ho ?_
    first | refine v_if_neN C 10 dX5_lacksShape_5 (by omega) (by decide) (fun h5 => ?_) (fun h5 => ?_) | refine v_if_ne C 10 dX5_lacksShape_5 (by decide) (fun h5 => ?_) (fun h5 => ?_)
    · exact absurd h5 (by decide)
    · refine v_iconst (v := -1) C dX5_lacksShape_8 (by decide) ?_
      refine v_iret C Q dX5_lacksShape_9 (Nat.le_of_ble_eq_true rfl) (Nat.le_of_ble_eq_true rfl) ?_
      exact hp.1 ho
  · have hMs := hms k (by omega)
    have hMs0 := hMs
    obtain ⟨hk1, hk2, hk3, hk4, hk5, hk6, hk7, hk8, hk9⟩ := hMs
    have hOk := hO.2.1 k hk
    obtain ⟨o1, o2, o3, o4, o5, o6, o7, o8, o9, o10, o11, o12⟩ := id hOk
    have hp := hp.2 k hk rfl
    have hW : ∀ j, j < 6 → I (M + 12) j = st.2.2 2 j := fun j hj => (htr j hj).2.2
    by_cases hk3' : st.2.1 k 1 0 = 3
    · have e : shD st k = -2 := by unfold shD shW; rw [if_pos hk3']
      rw [e] at hp
      refine v_aload_n C dX5_lacksShape_0 rfl ?_
      refine v_iload_n C dX5_lacksShape_1 rfl ?_
      refine v_callV1_1 C (m_X5_isScatter T B) lk_X5_80 ⟨wt_624, ws_22⟩ 5 rfl dX5_lacksShape_2 ⟨Nat.le_of_ble_eq_true rfl, Nat.le_of_ble_eq_true rfl⟩ (Nat.le_of_ble_eq_true rfl) ⟨Nat.le_of_ble_eq_true rfl, Nat.le_of_ble_eq_true rfl⟩ (by assumption) (cTo_5 (by assumption)) ?_
      refine c_isS_k hM hn hn12 hk ?_
      first | refine v_if_neN C 10 dX5_lacksShape_5 (by omega) (by decide) (fun h5 => ?_) (fun h5 => ?_) | refine v_if_ne C 10 dX5_lacksShape_5 (by decide) (fun h5 => ?_) (fun h5 => ?_)
      · refine v_aload_n C dX5_lacksShape_10 rfl ?_
        refine g_5_1 C (by assumption) (by assumption) wt_534 dX5_lacksShape_11 ?_
        refine v_iload_n C dX5_lacksShape_14 rfl ?_
        first | refine v_ialdN C (by assumption) (by omega) (by omega) dX5_lacksShape_15 ?_ | refine v_iald C (by assumption) (by assumption) dX5_lacksShape_15 ?_
        rw [hk1]
        refine v_iconstN 3 C dX5_lacksShape_16 ?_
        first | refine v_icmp_neN C 23 dX5_lacksShape_17 (by omega) (by omega) (by decide) (fun h17 => ?_) (fun h17 => ?_) | refine v_icmp_ne C 23 dX5_lacksShape_17 (by decide) (fun h17 => ?_) (fun h17 => ?_)
        · exact absurd hk3' h17
        · refine v_bipush (v := -2) C dX5_lacksShape_20 (by decide) ?_
          refine v_iret C Q dX5_lacksShape_22 (Nat.le_of_ble_eq_true rfl) (Nat.le_of_ble_eq_true rfl) ?_
          exact hp I FrS.rf (fun q => absurd q (by decide))
      · exact absurd h5 (by decide)
    · have hpw : I (M + 3) k = nI (st.2.1 k 3 0) := by rw [hk3]; unfold pwI; rw [if_neg hk3']
      have loop : ∀ j : Nat, j ≤ st.2.1 k 2 0 → ∀ I' : MI, FrS I I' (M + 16) (M + 16) → (∀ i, i < j → myW st.2.2 (nI (st.2.1 k 3 0)) i = true ∧ I' (M + 16) i = nI (mW st.2.2 i)) → V X 0 0 z S I' J R 27 [some (.ref M), some (.int (nI k)), some (.int (nI (sumN (mW st.2.2) j))), some (.int (nI j))] [] := by
        refine lp_up (st.2.1 k 2 0) ?_
        intro j hj ih I' hF hA
        have c2 : I' (M + 2) k = nI (st.2.1 k 2 0) := (hF _ _ (by omega)).trans hk2
        have c3 : I' (M + 3) k = nI (st.2.1 k 3 0) := (hF _ _ (by omega)).trans hpw
        have cW := fun h : j < 6 => (hF (M + 12) j (by omega)).trans (hW j h)
        have hsl : sumN (mW st.2.2) j ≤ j * 8 := sumN_le (fun i hi => Nat.le_trans (my_nI (by omega) (hA i hi).1).2 o4)
        by_cases hmy : j < st.2.1 k 2 0 ∧ ¬ myW st.2.2 (nI (st.2.1 k 3 0)) j = true
        · have hoo : Oo (st.2.2 2 j) (st.2.1 k 3 0 + 1) := by
            rcases Oo_or (st.2.2 2 j) (st.2.1 k 3 0 + 1) (by omega) with q | ⟨a, ha, e⟩
            · exact q
            · exact absurd (by unfold myW; rw [e, decide_eq_false (nI_pos (by omega)), decide_eq_true (nI_le (by omega) (by omega))]; rfl) hmy.2
          have e : shD st k = -3 := by
            unfold shD shW
            rw [if_neg hk3', if_pos]
            exact allB_false hmy.1 (by simpa using hmy.2)
          rw [e] at hp
          refine v_iload_n C dX5_lacksShape_27 rfl ?_
          refine v_aload_n C dX5_lacksShape_28 rfl ?_
          refine g_5_2 C (by assumption) (by assumption) wt_535 dX5_lacksShape_29 ?_
          refine v_iload_n C dX5_lacksShape_32 rfl ?_
          first | refine v_ialdN C (by assumption) (by omega) (by omega) dX5_lacksShape_33 ?_ | refine v_iald C (by assumption) (by assumption) dX5_lacksShape_33 ?_
          rw [c2]
          first | refine v_icmp_geN C 88 dX5_lacksShape_34 (by omega) (by omega) (by decide) (fun h34 => ?_) (fun h34 => ?_) | refine v_icmp_ge C 88 dX5_lacksShape_34 (by decide) (fun h34 => ?_) (fun h34 => ?_)
          · exact absurd hmy.1 (by omega)
          · refine v_aload_n C dX5_lacksShape_37 rfl ?_
            refine g_5_12 C (by assumption) (by assumption) wt_545 dX5_lacksShape_38 ?_
            refine v_iload_n C dX5_lacksShape_41 rfl ?_
            first | refine v_ialdN C (by assumption) (by omega) (by omega) dX5_lacksShape_42 ?_ | refine v_iald C (by assumption) (by assumption) dX5_lacksShape_42 ?_
            rw [cW (by omega)]
            refine v_i2l C dX5_lacksShape_43 ?_
            refine v_lconst (v := lN 0) C dX5_lacksShape_44 rfl ?_
            refine v_aload_n C dX5_lacksShape_45 rfl ?_
            refine g_5_3 C (by assumption) (by assumption) wt_536 dX5_lacksShape_46 ?_
            refine v_iload_n C dX5_lacksShape_49 rfl ?_
            first | refine v_ialdN C (by assumption) (by omega) (by omega) dX5_lacksShape_50 ?_ | refine v_iald C (by assumption) (by assumption) dX5_lacksShape_50 ?_
            rw [c3]
            first | refine v_i2lN C dX5_lacksShape_51 (by omega) ?_ | refine v_i2l C dX5_lacksShape_51 ?_
            refine v_callS3_1 C (m_X5_in T B) lk_X5_76 wt_627 dX5_lacksShape_52 ⟨Nat.le_of_ble_eq_true rfl, Nat.le_of_ble_eq_true rfl⟩ (Nat.le_of_ble_eq_true rfl) ⟨Nat.le_of_ble_eq_true rfl, Nat.le_of_ble_eq_true rfl⟩ ?_
            refine c_inN_o (by omega) hoo ?_
            first | refine v_if_neN C 61 dX5_lacksShape_55 (by omega) (by decide) (fun h55 => ?_) (fun h55 => ?_) | refine v_if_ne C 61 dX5_lacksShape_55 (by decide) (fun h55 => ?_) (fun h55 => ?_)
            · exact absurd h55 (by decide)
            · refine v_bipush (v := -3) C dX5_lacksShape_58 (by decide) ?_
              refine v_iret C Q dX5_lacksShape_60 (Nat.le_of_ble_eq_true rfl) (Nat.le_of_ble_eq_true rfl) ?_
              exact hp I' hF (fun q => absurd q (by decide))
        · have hmj : j < st.2.1 k 2 0 → myW st.2.2 (nI (st.2.1 k 3 0)) j = true := fun h => Decidable.byContradiction (fun q => hmy ⟨h, q⟩)
          have hno : j < st.2.1 k 2 0 → ¬ Oo (st.2.2 2 j) (st.2.1 k 3 0 + 1) := fun h => by
            obtain ⟨q1, q2⟩ := my_nI (by omega) (hmj h)
            rw [q1]; exact Oo_not (by omega) (by omega)
          refine v_iload_n C dX5_lacksShape_27 rfl ?_
          refine v_aload_n C dX5_lacksShape_28 rfl ?_
          refine g_5_2 C (by assumption) (by assumption) wt_535 dX5_lacksShape_29 ?_
          refine v_iload_n C dX5_lacksShape_32 rfl ?_
          first | refine v_ialdN C (by assumption) (by omega) (by omega) dX5_lacksShape_33 ?_ | refine v_iald C (by assumption) (by assumption) dX5_lacksShape_33 ?_
          rw [c2]
          first | refine v_icmp_geN C 88 dX5_lacksShape_34 (by omega) (by omega) (by decide) (fun h34 => ?_) (fun h34 => ?_) | refine v_icmp_ge C 88 dX5_lacksShape_34 (by decide) (fun h34 => ?_) (fun h34 => ?_)
          · refine v_iload_n C dX5_lacksShape_88 rfl ?_
            refine v_bipushN 16 (by decide) C dX5_lacksShape_89 ?_
            first | refine v_icmp_leN C 99 dX5_lacksShape_91 (by omega) (by omega) (by decide) (fun h91 => ?_) (fun h91 => ?_) | refine v_icmp_le C 99 dX5_lacksShape_91 (by decide) (fun h91 => ?_) (fun h91 => ?_)
            · have e : shD st k = nI 0 := by
                unfold shD shW
                rw [if_neg hk3', if_neg (by rw [allB_iff.mpr (fun i hi => (hA i (by omega)).1)]; decide), if_neg (by rw [show st.2.1 k 2 0 = j by omega]; omega)]
              rw [e] at hp
              refine v_iconstN 0 C dX5_lacksShape_99 ?_
              refine v_iret C Q dX5_lacksShape_100 (Nat.le_of_ble_eq_true rfl) (Nat.le_of_ble_eq_true rfl) ?_
              first
              | exact hp I' hF (fun q => absurd q (by decide))
              | exact hp I' hF (fun _ i hi => (hA i (by omega)).2)
            · have e : shD st k = -6 := by
                unfold shD shW
                rw [if_neg hk3', if_neg (by rw [allB_iff.mpr (fun i hi => (hA i (by omega)).1)]; decide), if_pos (by rw [show st.2.1 k 2 0 = j by omega]; omega)]
              rw [e] at hp
              refine v_bipush (v := -6) C dX5_lacksShape_94 (by decide) ?_
              refine v_goto C 100 dX5_lacksShape_96 (by decide) ?_
              refine v_iret C Q dX5_lacksShape_100 (Nat.le_of_ble_eq_true rfl) (Nat.le_of_ble_eq_true rfl) ?_
              first
              | exact hp I' hF (fun q => absurd q (by decide))
              | exact hp I' hF (fun _ i hi => (hA i (by omega)).2)
          · obtain ⟨q1, q2⟩ := my_nI (by omega) (hmj h34)
            have cW2 : mu I' (M + 16) j (nI (mW st.2.2 j)) (M + 12) j = nI (mW st.2.2 j) := by rw [mu_ne _ _ (by omega), cW (by omega), q1]
            refine v_aload_n C dX5_lacksShape_37 rfl ?_
            refine g_5_12 C (by assumption) (by assumption) wt_545 dX5_lacksShape_38 ?_
            refine v_iload_n C dX5_lacksShape_41 rfl ?_
            first | refine v_ialdN C (by assumption) (by omega) (by omega) dX5_lacksShape_42 ?_ | refine v_iald C (by assumption) (by assumption) dX5_lacksShape_42 ?_
            rw [cW (by omega)]
            refine v_i2l C dX5_lacksShape_43 ?_
            refine v_lconst (v := lN 0) C dX5_lacksShape_44 rfl ?_
            refine v_aload_n C dX5_lacksShape_45 rfl ?_
            refine g_5_3 C (by assumption) (by assumption) wt_536 dX5_lacksShape_46 ?_
            refine v_iload_n C dX5_lacksShape_49 rfl ?_
            first | refine v_ialdN C (by assumption) (by omega) (by omega) dX5_lacksShape_50 ?_ | refine v_iald C (by assumption) (by assumption) dX5_lacksShape_50 ?_
            rw [c3]
            first | refine v_i2lN C dX5_lacksShape_51 (by omega) ?_ | refine v_i2l C dX5_lacksShape_51 ?_
            refine v_callS3_1 C (m_X5_in T B) lk_X5_76 wt_627 dX5_lacksShape_52 ⟨Nat.le_of_ble_eq_true rfl, Nat.le_of_ble_eq_true rfl⟩ (Nat.le_of_ble_eq_true rfl) ⟨Nat.le_of_ble_eq_true rfl, Nat.le_of_ble_eq_true rfl⟩ ?_
            refine c_inN_k (by omega) (hno h34) ?_
            first | refine v_if_neN C 61 dX5_lacksShape_55 (by omega) (by decide) (fun h55 => ?_) (fun h55 => ?_) | refine v_if_ne C 61 dX5_lacksShape_55 (by decide) (fun h55 => ?_) (fun h55 => ?_)
            · refine v_aload_n C dX5_lacksShape_61 rfl ?_
              refine g_5_17 C (by assumption) (by assumption) wt_550 dX5_lacksShape_62 ?_
              refine v_iload_n C dX5_lacksShape_65 rfl ?_
              refine v_aload_n C dX5_lacksShape_66 rfl ?_
              refine g_5_12 C (by assumption) (by assumption) wt_545 dX5_lacksShape_67 ?_
              refine v_iload_n C dX5_lacksShape_70 rfl ?_
              first | refine v_ialdN C (by assumption) (by omega) (by omega) dX5_lacksShape_71 ?_ | refine v_iald C (by assumption) (by assumption) dX5_lacksShape_71 ?_
              rw [cW (by omega), q1]
              first | refine v_iastN C (by assumption) (by omega) (by omega) dX5_lacksShape_72 ?_ | refine v_iast C (by assumption) (by assumption) dX5_lacksShape_72 ?_
              refine v_iload_n C dX5_lacksShape_73 rfl ?_
              refine v_aload_n C dX5_lacksShape_74 rfl ?_
              refine g_5_12 C (by assumption) (by assumption) wt_545 dX5_lacksShape_75 ?_
              refine v_iload_n C dX5_lacksShape_78 rfl ?_
              first | refine v_ialdN C (by assumption) (by omega) (by omega) dX5_lacksShape_79 ?_ | refine v_iald C (by assumption) (by assumption) dX5_lacksShape_79 ?_
              rw [cW2]
              first | refine v_iaddN C dX5_lacksShape_80 ?_ | refine v_iadd C dX5_lacksShape_80 ?_
              refine v_istore_n C dX5_lacksShape_81 (by decide) ?_
              first | refine v_iincN 1 C dX5_lacksShape_82 rfl (by decide) ?_ | refine v_iinc C dX5_lacksShape_82 rfl rfl (by decide) ?_
              refine v_goto C 27 dX5_lacksShape_85 (by decide) ?_
              refine v_less (ih h34 _ (hF.mu (by omega) (by omega)) (fun i hi => ?_)) (by repeat (first | exact trivial | refine And.intro rfl ?_))
              by_cases e : i = j
              · subst e; rw [mu_at]; exact ⟨hmj h34, rfl⟩
              · rw [mu_other _ _ (by omega)]; exact hA i (by omega)
            · exact absurd h55 (by decide)
      refine v_aload_n C dX5_lacksShape_0 rfl ?_
      refine v_iload_n C dX5_lacksShape_1 rfl ?_
      refine v_callV1_1 C (m_X5_isScatter T B) lk_X5_80 ⟨wt_624, ws_22⟩ 5 rfl dX5_lacksShape_2 ⟨Nat.le_of_ble_eq_true rfl, Nat.le_of_ble_eq_true rfl⟩ (Nat.le_of_ble_eq_true rfl) ⟨Nat.le_of_ble_eq_true rfl, Nat.le_of_ble_eq_true rfl⟩ (by assumption) (cTo_5 (by assumption)) ?_
      refine c_isS_k hM hn hn12 hk ?_
      first | refine v_if_neN C 10 dX5_lacksShape_5 (by omega) (by decide) (fun h5 => ?_) (fun h5 => ?_) | refine v_if_ne C 10 dX5_lacksShape_5 (by decide) (fun h5 => ?_) (fun h5 => ?_)
      · refine v_aload_n C dX5_lacksShape_10 rfl ?_
        refine g_5_1 C (by assumption) (by assumption) wt_534 dX5_lacksShape_11 ?_
        refine v_iload_n C dX5_lacksShape_14 rfl ?_
        first | refine v_ialdN C (by assumption) (by omega) (by omega) dX5_lacksShape_15 ?_ | refine v_iald C (by assumption) (by assumption) dX5_lacksShape_15 ?_
        rw [hk1]
        refine v_iconstN 3 C dX5_lacksShape_16 ?_
        first | refine v_icmp_neN C 23 dX5_lacksShape_17 (by omega) (by omega) (by decide) (fun h17 => ?_) (fun h17 => ?_) | refine v_icmp_ne C 23 dX5_lacksShape_17 (by decide) (fun h17 => ?_) (fun h17 => ?_)
        · refine v_iconstN 0 C dX5_lacksShape_23 ?_
          refine v_istore_n C dX5_lacksShape_24 (by decide) ?_
          refine v_iconstN 0 C dX5_lacksShape_25 ?_
          refine v_istore_n C dX5_lacksShape_26 (by decide) ?_
          exact v_less (loop 0 (Nat.zero_le _) I FrS.rf (fun i hi => absurd hi (by omega))) (by repeat (first | exact trivial | refine And.intro rfl ?_))
        · exact absurd h17 hk3'
      · exact absurd h5 (by decide)
theorem shD_0 {st : St} {k : Nat} (h : shD st k = nI 0) : st.2.1 k 1 0 ≠ 3 ∧ allB (myW st.2.2 (nI (st.2.1 k 3 0))) (st.2.1 k 2 0) = true ∧ sumN (mW st.2.2) (st.2.1 k 2 0) ≤ 16 := by
  rcases shW_or st.2.2 (st.2.1 k 1 0) (st.2.1 k 2 0) (st.2.1 k 3 0) with q | q | q | ⟨_, q⟩
  · rw [show shD st k = -2 from q] at h; exact absurd h (by decide)
  · rw [show shD st k = -3 from q] at h; exact absurd h (by decide)
  · rw [show shD st k = -6 from q] at h; exact absurd h (by decide)
  · exact q
theorem Mq_cut {M : Nat} {st : St} {I I' I2 : MI} {J : MJ} {Q : MI → MJ → Prop} (h : Rm M st I) (hF : FrS I I' (M + 16) (M + 16)) (hF2 : FrS I' I2 (M + 15) (M + 15)) (q : Mq M st I J Q) : Q I2 J := Mq_scr h ((hF.wide (by omega) (by omega)).tr (hF2.wide (by omega) (by omega))) (fun _ _ _ => rfl) q
def s_X5_even : Sp := fun av z S I J R Post => ∃ (M : Nat), ∃ (st : St), ∃ (s : Int32), av = [.ref M, .int s] ∧ (MoS S R M) ∧ (Rm M st I) ∧ (Ok st) ∧ (Mq M (o_even st s).2 I J (fun I' J' => Post (o_even st s).1 0 none z S I' J' R))
theorem c_X5_even {M : Nat} {st : St} {s : Int32} {z : Nat} {S : MS} {I : MI} {J : MJ} {R : MR} {Post : PT} (hM : MoS S R M) (hR : Rm M st I) (hO : Ok st) (hp : Mq M (o_even st s).2 I J (fun I' J' => Post (o_even st s).1 0 none z S I' J' R)) : s_X5_even [.ref M, .int s] z S I J R Post := ⟨M, st, s, rfl, hM, hR, hO, hp⟩
set_option maxRecDepth 100000 in
set_option maxHeartbeats 1000000 in
theorem m_X5_even (T : TC) (B : Nat) : Mt T B yX5_even cX5_even 3 (some .int) 1 (rmL 4 0 0) s_X5_even := by
  refine Mt_of rfl (by rintro _ _ _ _ _ _ _ ⟨_, _, _, rfl, -⟩; exact Nat.le_of_ble_eq_true rfl) ?_
  intro X av z S I J R Post h C Q hI
  obtain ⟨M, st, s, rfl, hM, hR, hO, hp⟩ := h
  have hn12 := hO.1
  obtain ⟨hn, htl, hms, htr, hrf⟩ := id hR
  obtain ⟨hS0, hr1, hr2, hr3, hr4, hr5, hr6, hr7, hr8, hr9, hr10, hr11, hr12, hr14, hr15, hr16, hr17, hr18, hr19, hr20, hs1, hs2, hs3, hs4, hs5, hs6, hs7, hs8, hs9, hs10, hs11, hs12, hs13, hs14, hs15, hs16, hs17, hs18, hs19⟩ := id hM
  unfold o_even at hp
  rcases Oo_or s st.1 (by omega) with ho | ⟨k, hk, rfl⟩
  · rw [onS_o ho] at hp
    refine v_aload_n C dX5_even_0 rfl ?_
    refine v_iload_n C dX5_even_1 rfl ?_
    refine v_callV1_1 C (m_X5_lacksShape T B) lk_X5_119 ⟨wt_707, ws_24⟩ 5 rfl dX5_even_2 ⟨Nat.le_of_ble_eq_true rfl, Nat.le_of_ble_eq_true rfl⟩ (Nat.le_of_ble_eq_true rfl) ⟨Nat.le_of_ble_eq_true rfl, Nat.le_of_ble_eq_true rfl⟩ (by assumption) (cTo_5 (by assumption)) ?_
    refine c_X5_lacksShape hM hR hO ⟨fun _ => ?_, fun k hk e => absurd ho (by subst e; exact Oo_not hk (by omega))⟩
    refine v_istore_n C dX5_even_5 (by decide) ?_
    refine v_iload_n C dX5_even_6 rfl ?_
    refine v_if_ge C 18 dX5_even_7 (by decide) (fun h7 => ?_) (fun h7 => ?_)
    · exact absurd h7 (by decide)
    · refine v_aload_n C dX5_even_10 rfl ?_
      refine v_iload_n C dX5_even_11 rfl ?_
      refine v_callV1_1 C (m_X5_refuse T B) lk_X5_88 ⟨wt_608, ws_19⟩ 5 rfl dX5_even_12 ⟨Nat.le_of_ble_eq_true rfl, Nat.le_of_ble_eq_true rfl⟩ (Nat.le_of_ble_eq_true rfl) ⟨Nat.le_of_ble_eq_true rfl, Nat.le_of_ble_eq_true rfl⟩ (by assumption) (cTo_5 (by assumption)) ?_
      refine c_X5_refuse (k := 1) hM (by decide) (by decide) ?_
      refine v_goto C 31 dX5_even_15 (by decide) ?_
      refine v_iret C Q dX5_even_31 (Nat.le_of_ble_eq_true rfl) (Nat.le_of_ble_eq_true rfl) ?_
      have w := Mq_rf (k := 1) hR (by decide) hp
      exact w
  · have hMs := hms k (by omega)
    have hMs0 := hMs
    obtain ⟨hk1, hk2, hk3, hk4, hk5, hk6, hk7, hk8, hk9⟩ := hMs
    have hOk := hO.2.1 k hk
    obtain ⟨o1, o2, o3, o4, o5, o6, o7, o8, o9, o10, o11, o12⟩ := id hOk
    rw [onS_k hk (by omega)] at hp
    have bad : ∀ (v : Int32) (a : Nat), shD st k = v → v < 0 → -v = nI a → a < 7 → (∀ I' : MI, FrS I I' (M + 16) (M + 16) → Post v 0 none z S (mu I' (M + 13) a (I' (M + 13) a + nI 1)) J R) → V X 0 0 z S I J R 0 [some (.ref M), some (.int (nI k)), none] [] := by
      intro v a hv hv0 hva ha7 hP
      refine v_aload_n C dX5_even_0 rfl ?_
      refine v_iload_n C dX5_even_1 rfl ?_
      refine v_callV1_1 C (m_X5_lacksShape T B) lk_X5_119 ⟨wt_707, ws_24⟩ 5 rfl dX5_even_2 ⟨Nat.le_of_ble_eq_true rfl, Nat.le_of_ble_eq_true rfl⟩ (Nat.le_of_ble_eq_true rfl) ⟨Nat.le_of_ble_eq_true rfl, Nat.le_of_ble_eq_true rfl⟩ (by assumption) (cTo_5 (by assumption)) ?_
      refine c_X5_lacksShape hM hR hO ⟨fun q => absurd q (Oo_not hk (by omega)), fun l hl e I' hF _ => ?_⟩
      obtain rfl : k = l := (nI_eq (by omega) (by omega)).mp e
      rw [hv]
      refine v_istore_n C dX5_even_5 (by decide) ?_
      refine v_iload_n C dX5_even_6 rfl ?_
      refine v_if_ge C 18 dX5_even_7 (by decide) (fun h7 => ?_) (fun h7 => ?_)
      · exact absurd hv0 (Int32.not_lt.mpr h7)
      · refine v_aload_n C dX5_even_10 rfl ?_
        refine v_iload_n C dX5_even_11 rfl ?_
        refine v_callV1_1 C (m_X5_refuse T B) lk_X5_88 ⟨wt_608, ws_19⟩ 5 rfl dX5_even_12 ⟨Nat.le_of_ble_eq_true rfl, Nat.le_of_ble_eq_true rfl⟩ (Nat.le_of_ble_eq_true rfl) ⟨Nat.le_of_ble_eq_true rfl, Nat.le_of_ble_eq_true rfl⟩ (by assumption) (cTo_5 (by assumption)) ?_
        refine c_X5_refuse hM hva ha7 ?_
        refine v_goto C 31 dX5_even_15 (by decide) ?_
        refine v_iret C Q dX5_even_31 (Nat.le_of_ble_eq_true rfl) (Nat.le_of_ble_eq_true rfl) ?_
        exact hP I' hF
    have rfq : ∀ (I' : MI) (a : Nat) {Q : MI → MJ → Prop}, FrS I I' (M + 16) (M + 16) → a < 7 → Mq M (st.1, st.2.1, mu st.2.2 3 a (st.2.2 3 a + nI 1)) I J Q → Q (mu I' (M + 13) a (I' (M + 13) a + nI 1)) J := by
      intro I' a Q hF ha q
      refine Mq_rf (Mq_scr (J := J) (J' := J) (Q := fun I' _ => Rm M st I') hR (hF.wide (by omega) (by omega)) (fun _ _ _ => rfl) (fun I2 _ h _ _ => h)) ha (fun I2 J2 g1 g2 g3 => q I2 J2 g1 ((hF.wide (by omega) (by omega)).tr g2) g3)
    rcases shW_or st.2.2 (st.2.1 k 1 0) (st.2.1 k 2 0) (st.2.1 k 3 0) with hz | hz | hz | ⟨hz, -⟩
    · rw [show shD st k = -2 from hz, if_pos rfl] at hp
      exact bad _ 2 hz (by decide) (by decide) (by decide) (fun I' hF => by have w := rfq I' 2 hF (by decide) hp; exact w)
    · rw [show shD st k = -3 from hz, if_neg (by decide), if_pos rfl] at hp
      exact bad _ 3 hz (by decide) (by decide) (by decide) (fun I' hF => by have w := rfq I' 3 hF (by decide) hp; exact w)
    · rw [show shD st k = -6 from hz, if_neg (by decide), if_neg (by decide), if_pos rfl] at hp
      exact bad _ 6 hz (by decide) (by decide) (by decide) (fun I' hF => by have w := rfq I' 6 hF (by decide) hp; exact w)
    · have hz' : shD st k = nI 0 := hz
      rw [hz', if_neg (by decide), if_neg (by decide), if_neg (by decide)] at hp
      obtain ⟨h3', hA, hsum⟩ := shD_0 hz'
      refine v_aload_n C dX5_even_0 rfl ?_
      refine v_iload_n C dX5_even_1 rfl ?_
      refine v_callV1_1 C (m_X5_lacksShape T B) lk_X5_119 ⟨wt_707, ws_24⟩ 5 rfl dX5_even_2 ⟨Nat.le_of_ble_eq_true rfl, Nat.le_of_ble_eq_true rfl⟩ (Nat.le_of_ble_eq_true rfl) ⟨Nat.le_of_ble_eq_true rfl, Nat.le_of_ble_eq_true rfl⟩ (by assumption) (cTo_5 (by assumption)) ?_
      refine c_X5_lacksShape hM hR hO ⟨fun q => absurd q (Oo_not hk (by omega)), fun l hl e I' hF hcut => ?_⟩
      obtain rfl : k = l := (nI_eq (by omega) (by omega)).mp e
      have hcut := hcut hz'
      rw [hz']
      refine v_istore_n C dX5_even_5 (by decide) ?_
      refine v_iload_n C dX5_even_6 rfl ?_
      first | refine v_if_geN C 18 dX5_even_7 (by omega) (by decide) (fun h7 => ?_) (fun h7 => ?_) | refine v_if_ge C 18 dX5_even_7 (by decide) (fun h7 => ?_) (fun h7 => ?_)
      · refine v_aload_n C dX5_even_18 rfl ?_
        refine v_iload_n C dX5_even_19 rfl ?_
        refine v_callV1_1 C (m_X5_uneven T B) lk_X5_122 ⟨wt_711, ws_25⟩ 5 rfl dX5_even_20 ⟨Nat.le_of_ble_eq_true rfl, Nat.le_of_ble_eq_true rfl⟩ (Nat.le_of_ble_eq_true rfl) ⟨Nat.le_of_ble_eq_true rfl, Nat.le_of_ble_eq_true rfl⟩ (by assumption) (cTo_5 (by assumption)) ?_
        refine c_X5_uneven (D := st.2.1 k) (m := mW st.2.2) hM (hMs0.up (fun q i h1 h2 => hF q i (by omega))) (by omega) hOk h3' (fun j hj => ⟨hcut j hj, (my_nI (by omega) (allB_iff.mp hA j hj)).2⟩) hsum ⟨fun b hb hall hn I2 hF2 hI2 => ?_, fun hall I2 hF2 => ?_⟩
        · have hb16 : 2 ^ sumN (mW st.2.2) (st.2.1 k 2 0) ≤ 65536 := Nat.le_trans (Nat.pow_le_pow_right (by decide) hsum) (by decide)
          have hq : qB (st.2.1 k) (mW st.2.2) b ≤ 256 := Nat.le_trans (qc_le _ _ _) o6
          rw [if_neg (by rw [unW_fst hOk h3' hb hall hn]; exact nI_ne9 (by omega))] at hp
          have w := Mq_cut hR hF hF2 hp
          first | refine v_if_geN C 30 dX5_even_23 (by omega) (by decide) (fun h23 => ?_) (fun h23 => ?_) | refine v_if_ge C 30 dX5_even_23 (by decide) (fun h23 => ?_) (fun h23 => ?_)
          · refine v_iconstN 0 C dX5_even_30 ?_
            refine v_iret C Q dX5_even_31 (Nat.le_of_ble_eq_true rfl) (Nat.le_of_ble_eq_true rfl) ?_
            exact w
          · exact absurd h23 (fun q => q)
        · rw [if_pos (unW_all hOk h3' hall)] at hp
          have w := Mq_cut hR hF hF2 hp
          refine v_if_ge C 30 dX5_even_23 (by decide) (fun h23 => ?_) (fun h23 => ?_)
          · exact absurd h23 (by decide)
          · refine v_iconstN 1 C dX5_even_26 ?_
            refine v_goto C 31 dX5_even_27 (by decide) ?_
            refine v_iret C Q dX5_even_31 (Nat.le_of_ble_eq_true rfl) (Nat.le_of_ble_eq_true rfl) ?_
            exact w
      · exact absurd h7 (fun q => q)
def s_X5_why : Sp := fun av z S I J R Post => ∃ (M : Nat), ∃ (st : St), ∃ (s : Int32), av = [.ref M, .int s] ∧ (MoS S R M) ∧ (Rm M st I) ∧ (Ok st) ∧ (Mq M (o_why st s).2 I J (fun I' J' => Post (o_why st s).1 0 none z S I' J' R))
theorem c_X5_why {M : Nat} {st : St} {s : Int32} {z : Nat} {S : MS} {I : MI} {J : MJ} {R : MR} {Post : PT} (hM : MoS S R M) (hR : Rm M st I) (hO : Ok st) (hp : Mq M (o_why st s).2 I J (fun I' J' => Post (o_why st s).1 0 none z S I' J' R)) : s_X5_why [.ref M, .int s] z S I J R Post := ⟨M, st, s, rfl, hM, hR, hO, hp⟩
set_option maxRecDepth 100000 in
set_option maxHeartbeats 1000000 in
theorem m_X5_why (T : TC) (B : Nat) : Mt T B yX5_why cX5_why 3 (some .int) 1 (rmL 4 0 0) s_X5_why := by
  refine Mt_of rfl (by rintro _ _ _ _ _ _ _ ⟨_, _, _, rfl, -⟩; exact Nat.le_of_ble_eq_true rfl) ?_
  intro X av z S I J R Post h C Q hI
  obtain ⟨M, st, s, rfl, hM, hR, hO, hp⟩ := h
  have hn12 := hO.1
  obtain ⟨hn, htl, hms, htr, hrf⟩ := id hR
  obtain ⟨hS0, hr1, hr2, hr3, hr4, hr5, hr6, hr7, hr8, hr9, hr10, hr11, hr12, hr14, hr15, hr16, hr17, hr18, hr19, hr20, hs1, hs2, hs3, hs4, hs5, hs6, hs7, hs8, hs9, hs10, hs11, hs12, hs13, hs14, hs15, hs16, hs17, hs18, hs19⟩ := id hM
  unfold o_why at hp
  rcases Oo_or s st.1 (by omega) with ho | ⟨k, hk, rfl⟩
  · rw [onS_o ho] at hp
    refine v_aload_n C dX5_why_0 rfl ?_
    refine v_iload_n C dX5_why_1 rfl ?_
    refine v_callV1_1 C (m_X5_lacksShape T B) lk_X5_119 ⟨wt_707, ws_24⟩ 5 rfl dX5_why_2 ⟨Nat.le_of_ble_eq_true rfl, Nat.le_of_ble_eq_true rfl⟩ (Nat.le_of_ble_eq_true rfl) ⟨Nat.le_of_ble_eq_true rfl, Nat.le_of_ble_eq_true rfl⟩ (by assumption) (cTo_5 (by assumption)) ?_
    refine c_X5_lacksShape hM hR hO ⟨fun _ => ?_, fun k hk e => absurd ho (by subst e; exact Oo_not hk (by omega))⟩
    refine v_if_ge C 12 dX5_why_5 (by decide) (fun h5 => ?_) (fun h5 => ?_)
    · exact absurd h5 (by decide)
    · refine v_iconst (v := -1) C dX5_why_8 (by decide) ?_
      refine v_goto C 17 dX5_why_9 (by decide) ?_
      refine v_istore_n C dX5_why_17 (by decide) ?_
      refine v_iload_n C dX5_why_18 rfl ?_
      refine v_if_ge C 27 dX5_why_19 (by decide) (fun h19 => ?_) (fun h19 => ?_)
      · exact absurd h19 (by decide)
      · refine v_bipush (v := -9) C dX5_why_22 (by decide) ?_
        refine v_goto C 33 dX5_why_24 (by decide) ?_
        refine v_iret C Q dX5_why_33 (Nat.le_of_ble_eq_true rfl) (Nat.le_of_ble_eq_true rfl) ?_
        have w := Mq_same hR hp
        exact w
  · have hMs := hms k (by omega)
    have hMs0 := hMs
    obtain ⟨hk1, hk2, hk3, hk4, hk5, hk6, hk7, hk8, hk9⟩ := hMs
    have hOk := hO.2.1 k hk
    obtain ⟨o1, o2, o3, o4, o5, o6, o7, o8, o9, o10, o11, o12⟩ := id hOk
    rw [onS_k hk (by omega)] at hp
    have bad : ∀ (v : Int32), shD st k = v → v < 0 → V X 0 0 z S I J R 0 [some (.ref M), some (.int (nI k)), none] [] := by
      intro v hv hv0
      rw [hv, if_neg (fun q => by rw [q] at hv0; exact absurd hv0 (by decide))] at hp
      refine v_aload_n C dX5_why_0 rfl ?_
      refine v_iload_n C dX5_why_1 rfl ?_
      refine v_callV1_1 C (m_X5_lacksShape T B) lk_X5_119 ⟨wt_707, ws_24⟩ 5 rfl dX5_why_2 ⟨Nat.le_of_ble_eq_true rfl, Nat.le_of_ble_eq_true rfl⟩ (Nat.le_of_ble_eq_true rfl) ⟨Nat.le_of_ble_eq_true rfl, Nat.le_of_ble_eq_true rfl⟩ (by assumption) (cTo_5 (by assumption)) ?_
      refine c_X5_lacksShape hM hR hO ⟨fun q => absurd q (Oo_not hk (by omega)), fun l hl e I' hF _ => ?_⟩
      obtain rfl : k = l := (nI_eq (by omega) (by omega)).mp e
      rw [hv]
      refine v_if_ge C 12 dX5_why_5 (by decide) (fun h5 => ?_) (fun h5 => ?_)
      · exact absurd hv0 (Int32.not_lt.mpr h5)
      · refine v_iconst (v := -1) C dX5_why_8 (by decide) ?_
        refine v_goto C 17 dX5_why_9 (by decide) ?_
        refine v_istore_n C dX5_why_17 (by decide) ?_
        refine v_iload_n C dX5_why_18 rfl ?_
        refine v_if_ge C 27 dX5_why_19 (by decide) (fun h19 => ?_) (fun h19 => ?_)
        · exact absurd h19 (by decide)
        · refine v_bipush (v := -9) C dX5_why_22 (by decide) ?_
          refine v_goto C 33 dX5_why_24 (by decide) ?_
          refine v_iret C Q dX5_why_33 (Nat.le_of_ble_eq_true rfl) (Nat.le_of_ble_eq_true rfl) ?_
          have w := Mq_scr hR (hF.wide (by omega) (by omega)) (fun _ _ _ => rfl) hp
          exact w
    rcases shW_or st.2.2 (st.2.1 k 1 0) (st.2.1 k 2 0) (st.2.1 k 3 0) with hz | hz | hz | ⟨hz, -⟩
    · exact bad _ hz (by decide)
    · exact bad _ hz (by decide)
    · exact bad _ hz (by decide)
    · have hz' : shD st k = nI 0 := hz
      rw [hz', if_pos rfl] at hp
      obtain ⟨h3', hA, hsum⟩ := shD_0 hz'
      refine v_aload_n C dX5_why_0 rfl ?_
      refine v_iload_n C dX5_why_1 rfl ?_
      refine v_callV1_1 C (m_X5_lacksShape T B) lk_X5_119 ⟨wt_707, ws_24⟩ 5 rfl dX5_why_2 ⟨Nat.le_of_ble_eq_true rfl, Nat.le_of_ble_eq_true rfl⟩ (Nat.le_of_ble_eq_true rfl) ⟨Nat.le_of_ble_eq_true rfl, Nat.le_of_ble_eq_true rfl⟩ (by assumption) (cTo_5 (by assumption)) ?_
      refine c_X5_lacksShape hM hR hO ⟨fun q => absurd q (Oo_not hk (by omega)), fun l hl e I' hF hcut => ?_⟩
      obtain rfl : k = l := (nI_eq (by omega) (by omega)).mp e
      have hcut := hcut hz'
      rw [hz']
      first | refine v_if_geN C 12 dX5_why_5 (by omega) (by decide) (fun h5 => ?_) (fun h5 => ?_) | refine v_if_ge C 12 dX5_why_5 (by decide) (fun h5 => ?_) (fun h5 => ?_)
      · refine v_aload_n C dX5_why_12 rfl ?_
        refine v_iload_n C dX5_why_13 rfl ?_
        refine v_callV1_1 C (m_X5_uneven T B) lk_X5_122 ⟨wt_711, ws_25⟩ 5 rfl dX5_why_14 ⟨Nat.le_of_ble_eq_true rfl, Nat.le_of_ble_eq_true rfl⟩ (Nat.le_of_ble_eq_true rfl) ⟨Nat.le_of_ble_eq_true rfl, Nat.le_of_ble_eq_true rfl⟩ (by assumption) (cTo_5 (by assumption)) ?_
        refine c_X5_uneven (D := st.2.1 k) (m := mW st.2.2) hM (hMs0.up (fun q i h1 h2 => hF q i (by omega))) (by omega) hOk h3' (fun j hj => ⟨hcut j hj, (my_nI (by omega) (allB_iff.mp hA j hj)).2⟩) hsum ⟨fun b hb hall hn I2 hF2 hI2 => ?_, fun hall I2 hF2 => ?_⟩
        · have hb16 : 2 ^ sumN (mW st.2.2) (st.2.1 k 2 0) ≤ 65536 := Nat.le_trans (Nat.pow_le_pow_right (by decide) hsum) (by decide)
          rw [unW_fst hOk h3' hb hall hn] at hp
          have w := Mq_cut hR hF hF2 hp
          refine v_istore_n C dX5_why_17 (by decide) ?_
          refine v_iload_n C dX5_why_18 rfl ?_
          first | refine v_if_geN C 27 dX5_why_19 (by omega) (by decide) (fun h19 => ?_) (fun h19 => ?_) | refine v_if_ge C 27 dX5_why_19 (by decide) (fun h19 => ?_) (fun h19 => ?_)
          · refine v_aload_n C dX5_why_27 rfl ?_
            refine g_5_16 C (by assumption) (by assumption) wt_549 dX5_why_28 ?_
            refine v_iload_n C dX5_why_31 rfl ?_
            first | refine v_ialdN C (by assumption) (by omega) (by omega) dX5_why_32 ?_ | refine v_iald C (by assumption) (by assumption) dX5_why_32 ?_
            rw [hI2]
            refine v_iret C Q dX5_why_33 (Nat.le_of_ble_eq_true rfl) (Nat.le_of_ble_eq_true rfl) ?_
            exact w
          · exact absurd h19 (fun q => q)
        · rw [unW_all hOk h3' hall] at hp
          have w := Mq_cut hR hF hF2 hp
          refine v_istore_n C dX5_why_17 (by decide) ?_
          refine v_iload_n C dX5_why_18 rfl ?_
          refine v_if_ge C 27 dX5_why_19 (by decide) (fun h19 => ?_) (fun h19 => ?_)
          · exact absurd h19 (by decide)
          · refine v_bipush (v := -9) C dX5_why_22 (by decide) ?_
            refine v_goto C 33 dX5_why_24 (by decide) ?_
            refine v_iret C Q dX5_why_33 (Nat.le_of_ble_eq_true rfl) (Nat.le_of_ble_eq_true rfl) ?_
            exact w
      · exact absurd h5 (fun q => q)
