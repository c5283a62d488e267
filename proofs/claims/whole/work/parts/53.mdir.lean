theorem sar_bv {n k : Nat} (hk : k < 64) : (lN n >>> ((nI k).toInt64 &&& 63)).toBitVec = (BitVec.ofNat 64 n).sshiftRight k := by
  rw [wb_c k hk, Int64.toBitVec_shiftRight, wb_tb, wb_tb, wb_sm k hk, BitVec.sshiftRight_eq', BitVec.toNat_ofNat, Nat.mod_eq_of_lt (by omega)]
theorem sar_255 {n k : Nat} (hk : k ≤ 56) : (lN n >>> ((nI k).toInt64 &&& 63)) &&& lN 255 = lN (n / 2 ^ k % 256) := by
  apply wb_inj
  rw [Int64.toBitVec_and, sar_bv (by omega), wb_tb, wb_tb]
  apply BitVec.eq_of_getLsbD_eq
  intro i hi
  rw [BitVec.getLsbD_and, BitVec.getLsbD_sshiftRight, BitVec.getLsbD_ofNat, BitVec.getLsbD_ofNat, BitVec.getLsbD_ofNat, show (255 : Nat) = 2 ^ 8 - 1 by rfl, Nat.testBit_two_pow_sub_one, show (256 : Nat) = 2 ^ 8 by rfl, Nat.testBit_mod_two_pow, Nat.testBit_div_two_pow, Nat.add_comm k i]
  by_cases h8 : i < 8
  · simp [h8, hi, show i + k < 64 by omega, show ¬ 64 ≤ i by omega]
  · simp [h8]
theorem sar_n {n k : Nat} (hn : n < 9223372036854775808) (hk : k < 64) : lN n >>> ((nI k).toInt64 &&& 63) = lN (n / 2 ^ k) := by
  apply wb_inj
  rw [sar_bv hk, wb_tb]
  apply BitVec.eq_of_toNat_eq
  have hm : (BitVec.ofNat 64 n).msb = false := by
    rw [BitVec.msb_eq_false_iff_two_mul_lt, BitVec.toNat_ofNat, Nat.mod_eq_of_lt (by omega)]
    omega
  rw [BitVec.sshiftRight_eq_of_msb_false hm, BitVec.toNat_ushiftRight, BitVec.toNat_ofNat, BitVec.toNat_ofNat, Nat.mod_eq_of_lt (by omega), Nat.shiftRight_eq_div_pow, Nat.mod_eq_of_lt (Nat.lt_of_le_of_lt (Nat.div_le_self _ _) (by omega))]
theorem wb_xor {a b : Nat} (ha : a < 2 ^ 64) (hb : b < 2 ^ 64) : lN a ^^^ lN b = lN (a ^^^ b) := by
  apply wb_inj
  rw [Int64.toBitVec_xor, wb_tb, wb_tb, wb_tb]
  apply BitVec.eq_of_toNat_eq
  rw [BitVec.toNat_xor, BitVec.toNat_ofNat, BitVec.toNat_ofNat, BitVec.toNat_ofNat, Nat.mod_eq_of_lt ha, Nat.mod_eq_of_lt hb, Nat.mod_eq_of_lt (Nat.xor_lt_two_pow ha hb)]
theorem dgF_is : ∀ P, P < 128 → ∀ q, q < 7 → 1 ≤ q → 0 < P / 2 ^ q → P / 2 ^ (q + 1) = 0 → dgF P 6 = q := by decide +kernel
theorem Mq_setJ {M k : Nat} {st : St} {I I' : MI} {J J' : MJ} {D : SD} {Q : MI → MJ → Prop} (h : Rm M st I) (hF : FrS I I' (M + 1) (M + 9)) (hJ : ∀ q k, q ≠ M + 14 → J' q k = J q k) (hD : ∀ s, s < 12 → MsR I' M s (upF st.2.1 k D s)) (q : Mq M (setS st k D) I J Q) : Q I' J' := by
  obtain ⟨h1, h2, h3, h4, h5⟩ := h
  exact q I' J' ⟨(hF _ _ (by omega)).trans h1, (hF _ _ (by omega)).trans h2, hD, fun j hj => by rw [hF _ _ (by omega), hF _ _ (by omega), hF _ _ (by omega)]; exact h4 j hj, fun i hi => (hF _ _ (by omega)).trans (h5 i hi)⟩ (hF.wide (by omega) (by omega)) hJ
/-- what the model's direction writes: the DIRECTION's rows, and one DIRECTION more -/
def FrD (I I' : MI) (M k a b : Nat) : Prop := ∀ q r, ¬ (q = M + 2 ∧ r = k) → ¬ (q = M + 6 ∧ a ≤ r ∧ r < b) → I' q r = I q r
theorem MsR_dir {I I' : MI} {M k F P s : Nat} {N : Nat → SD} (hk : k < 12) (h : ∀ s, s < 12 → MsR I M s (N s)) (hs : s < 12) (hO : OkD (N k)) (h1 : N k 1 0 = 1) (h6 : N k 2 0 < 6) (hF : FrD I I' M k (48 * k + 8 * N k 2 0) (48 * k + 8 * N k 2 0 + N k 3 0)) (h2 : I' (M + 2) k = nI (N k 2 0 + 1)) (hr : ∀ i, i < N k 3 0 → I' (M + 6) (48 * k + 8 * N k 2 0 + i) = nI (rB (rnT F P (dgF P 6) 8) i (N k 3 0 - i))) : MsR I' M s (upF N k (dirD (N k) F P) s) := by
  refine MsR_add (h s hs) ?_ ?_
  · obtain ⟨a1, a2, a3, a4, a5, a6, a7, a8, a9⟩ := h k hk
    obtain ⟨o1, o2, o3, o4, o5, o6, o7, o8, o9, o10, o11, o12⟩ := hO
    have e : ∀ f i, f ≠ 2 → f ≠ 6 → dirD (N k) F P f i = N k f i := fun f i f2 f6 => by unfold dirD; rw [if_neg f2, if_neg (fun q => f6 q.1)]
    refine ⟨?_, h2, ?_, ?_, ?_, fun i hi => ?_, fun i hi => ?_, fun i hi => ?_, fun i hi => ?_⟩
    · rw [e _ _ (by decide) (by decide), hF _ _ (by omega) (by omega)]; exact a1
    · unfold pwI; rw [e _ _ (by decide) (by decide), e _ _ (by decide) (by decide), hF _ _ (by omega) (by omega)]; exact a3
    · rw [e _ _ (by decide) (by decide), hF _ _ (by omega) (by omega)]; exact a4
    · rw [e _ _ (by decide) (by decide), hF _ _ (by omega) (by omega)]; exact a5
    · by_cases c : N k 2 0 * 8 ≤ i ∧ i < N k 2 0 * 8 + N k 3 0
      · obtain ⟨t, rfl⟩ : ∃ t, i = N k 2 0 * 8 + t := ⟨i - N k 2 0 * 8, by omega⟩
        have er : dirD (N k) F P 6 (N k 2 0 * 8 + t) = rB (rnT F P (dgF P 6) 8) t (N k 3 0 - t) := by
          unfold dirD; rw [if_neg (by decide), if_pos ⟨rfl, by omega, by omega⟩, show N k 2 0 * 8 + t - N k 2 0 * 8 = t by omega]
        rw [er, show 48 * k + (N k 2 0 * 8 + t) = 48 * k + 8 * N k 2 0 + t by omega]
        exact hr t (by omega)
      · have eo : dirD (N k) F P 6 i = N k 6 i := by unfold dirD; rw [if_neg (by decide), if_neg (fun q => c q.2)]
        rw [eo, hF _ _ (by omega) (by omega)]; exact a6 i hi
    · rw [e _ _ (by decide) (by decide), hF _ _ (by omega) (by omega)]; exact a7 i hi
    · rw [e _ _ (by decide) (by decide), hF _ _ (by omega) (by omega)]; exact a8 i hi
    · rw [e _ _ (by decide) (by decide), hF _ _ (by omega) (by omega)]; exact a9 i hi
  · have o4 := hO.2.2.2.1
    exact ⟨fun g r g1 g2 g3 => hF _ _ (by omega) (by omega), fun r g => hF _ _ (by omega) (by omega), fun g r g1 g2 => hF _ _ (by omega) (by omega), fun r g => hF _ _ (by omega) (by omega)⟩
def s_X5_direction : Sp := fun av z S I J R Post => ∃ (M : Nat), ∃ (st : St), ∃ (s p : Int32), ∃ (v : Int64), av = [.ref M, .int s, .int p, .long v] ∧ (MoS S R M) ∧ (Rm M st I) ∧ (Ok st) ∧ (Mq M (o_direction st s p v).2 I J (fun I' J' => Post (o_direction st s p v).1 0 none z S I' J' R))
theorem c_X5_direction {M : Nat} {st : St} {s p : Int32} {v : Int64} {z : Nat} {S : MS} {I : MI} {J : MJ} {R : MR} {Post : PT} (hM : MoS S R M) (hR : Rm M st I) (hO : Ok st) (hp : Mq M (o_direction st s p v).2 I J (fun I' J' => Post (o_direction st s p v).1 0 none z S I' J' R)) : s_X5_direction [.ref M, .int s, .int p, .long v] z S I J R Post := ⟨M, st, s, p, v, rfl, hM, hR, hO, hp⟩
set_option maxRecDepth 100000 in
set_option maxHeartbeats 4000000 in
theorem m_X5_direction (T : TC) (B : Nat) : Mt T B yX5_direction cX5_direction 11 (some .int) 1 (rmL 3 0 0) s_X5_direction := by
  refine Mt_of rfl (by rintro _ _ _ _ _ _ _ ⟨_, _, _, _, _, rfl, -⟩; exact Nat.le_of_ble_eq_true rfl) ?_
  intro X av z S I J R Post h C Q hI
  obtain ⟨M, st, s, p, v, rfl, hM, hR, hO, hp⟩ := h
  have hn12 := hO.1
  obtain ⟨hn, htl, hms, htr, hrf⟩ := id hR
  obtain ⟨hS0, hr1, hr2, hr3, hr4, hr5, hr6, hr7, hr8, hr9, hr10, hr11, hr12, hr14, hr15, hr16, hr17, hr18, hr19, hr20, hs1, hs2, hs3, hs4, hs5, hs6, hs7, hs8, hs9, hs10, hs11, hs12, hs13, hs14, hs15, hs16, hs17, hs18, hs19⟩ := id hM
  unfold o_direction at hp
  rcases Oo_or s st.1 (by omega) with ho | ⟨k, hk, rfl⟩
  · rw [onS_o ho] at hp
    refine v_aload_n C dX5_direction_0 rfl ?_
    refine v_iload_n C dX5_direction_1 rfl ?_
    refine v_callV1_1 C (m_X5_isScatter T B) lk_X5_80 ⟨wt_624, ws_22⟩ 5 rfl dX5_direction_2 ⟨Nat.le_of_ble_eq_true rfl, Nat.le_of_ble_eq_true rfl⟩ (Nat.le_of_ble_eq_true rfl) ⟨Nat.le_of_ble_eq_true rfl, Nat.le_of_ble_eq_true rfl⟩ (by assumption) (cTo_5 (by assumption)) ?_
    refine c_isS_o hM hn hn12 ho ?_
    first | refine v_if_neN C 14 dX5_direction_5 (by omega) (by decide) (fun h5 => ?_) (fun h5 => ?_) | refine v_if_ne C 14 dX5_direction_5 (by decide) (fun h5 => ?_) (fun h5 => ?_)
    · exact absurd h5 (by decide)
    · refine v_aload_n C dX5_direction_8 rfl ?_
      refine v_iconst (v := -1) C dX5_direction_9 (by decide) ?_
      refine v_callV1_1 C (m_X5_refuse T B) lk_X5_88 ⟨wt_608, ws_19⟩ 5 rfl dX5_direction_10 ⟨Nat.le_of_ble_eq_true rfl, Nat.le_of_ble_eq_true rfl⟩ (Nat.le_of_ble_eq_true rfl) ⟨Nat.le_of_ble_eq_true rfl, Nat.le_of_ble_eq_true rfl⟩ (by assumption) (cTo_5 (by assumption)) ?_
      refine c_X5_refuse (k := 1) hM (by decide) (by decide) ?_
      refine v_iret C Q dX5_direction_13 (Nat.le_of_ble_eq_true rfl) (Nat.le_of_ble_eq_true rfl) ?_
      have w := Mq_rf (k := 1) hR (by decide) hp
      exact w
  · have hMs := hms k (by omega)
    have hMs0 := hMs
    obtain ⟨hk1, hk2, hk3, hk4, hk5, hk6, hk7, hk8, hk9⟩ := hMs
    have hOk := hO.2.1 k hk
    obtain ⟨o1, o2, o3, o4, o5, o6, o7, o8, o9, o10, o11, o12⟩ := id hOk
    rw [onS_k hk (by omega)] at hp
    by_cases hkd : st.2.1 k 1 0 = 1
    · rw [if_pos hkd] at hp
      have hpw : I (M + 3) k = nI (st.2.1 k 3 0) := by rw [hk3]; unfold pwI; rw [if_neg (by omega)]
      by_cases e1 : p < nI 3
      · rw [if_pos e1] at hp
        refine v_aload_n C dX5_direction_0 rfl ?_
        refine v_iload_n C dX5_direction_1 rfl ?_
        refine v_callV1_1 C (m_X5_isScatter T B) lk_X5_80 ⟨wt_624, ws_22⟩ 5 rfl dX5_direction_2 ⟨Nat.le_of_ble_eq_true rfl, Nat.le_of_ble_eq_true rfl⟩ (Nat.le_of_ble_eq_true rfl) ⟨Nat.le_of_ble_eq_true rfl, Nat.le_of_ble_eq_true rfl⟩ (by assumption) (cTo_5 (by assumption)) ?_
        refine c_isS_k hM hn hn12 hk ?_
        first | refine v_if_neN C 14 dX5_direction_5 (by omega) (by decide) (fun h5 => ?_) (fun h5 => ?_) | refine v_if_ne C 14 dX5_direction_5 (by decide) (fun h5 => ?_) (fun h5 => ?_)
        · refine v_aload_n C dX5_direction_14 rfl ?_
          refine g_5_1 C (by assumption) (by assumption) wt_534 dX5_direction_15 ?_
          refine v_iload_n C dX5_direction_18 rfl ?_
          first | refine v_ialdN C (by assumption) (by omega) (by omega) dX5_direction_19 ?_ | refine v_iald C (by assumption) (by assumption) dX5_direction_19 ?_
          rw [hk1]
          refine v_iconstN 1 C dX5_direction_20 ?_
          first | refine v_icmp_eqN C 31 dX5_direction_21 (by omega) (by omega) (by decide) (fun h21 => ?_) (fun h21 => ?_) | refine v_icmp_eq C 31 dX5_direction_21 (by decide) (fun h21 => ?_) (fun h21 => ?_)
          · refine v_iload_n C dX5_direction_31 rfl ?_
            refine v_iconstN 3 C dX5_direction_32 ?_
            refine v_icmp_ge C 43 dX5_direction_33 (by decide) (fun h33 => ?_) (fun h33 => ?_)
            · exact absurd e1 (Int32.not_lt.mpr h33)
            · refine v_aload_n C dX5_direction_36 rfl ?_
              refine v_bipush (v := -4) C dX5_direction_37 (by decide) ?_
              refine v_callV1_1 C (m_X5_refuse T B) lk_X5_88 ⟨wt_608, ws_19⟩ 5 rfl dX5_direction_39 ⟨Nat.le_of_ble_eq_true rfl, Nat.le_of_ble_eq_true rfl⟩ (Nat.le_of_ble_eq_true rfl) ⟨Nat.le_of_ble_eq_true rfl, Nat.le_of_ble_eq_true rfl⟩ (by assumption) (cTo_5 (by assumption)) ?_
              refine c_X5_refuse (k := 4) hM (by decide) (by decide) ?_
              refine v_iret C Q dX5_direction_42 (Nat.le_of_ble_eq_true rfl) (Nat.le_of_ble_eq_true rfl) ?_
              have w := Mq_rf (k := 4) hR (by decide) hp
              exact w
          · exact absurd hkd h21
        · exact absurd h5 (by decide)
      · rw [if_neg e1] at hp
        by_cases e2 : nI 127 < p ∨ 6 ≤ st.2.1 k 2 0
        · rw [if_pos e2] at hp
          refine v_aload_n C dX5_direction_0 rfl ?_
          refine v_iload_n C dX5_direction_1 rfl ?_
          refine v_callV1_1 C (m_X5_isScatter T B) lk_X5_80 ⟨wt_624, ws_22⟩ 5 rfl dX5_direction_2 ⟨Nat.le_of_ble_eq_true rfl, Nat.le_of_ble_eq_true rfl⟩ (Nat.le_of_ble_eq_true rfl) ⟨Nat.le_of_ble_eq_true rfl, Nat.le_of_ble_eq_true rfl⟩ (by assumption) (cTo_5 (by assumption)) ?_
          refine c_isS_k hM hn hn12 hk ?_
          first | refine v_if_neN C 14 dX5_direction_5 (by omega) (by decide) (fun h5 => ?_) (fun h5 => ?_) | refine v_if_ne C 14 dX5_direction_5 (by decide) (fun h5 => ?_) (fun h5 => ?_)
          · refine v_aload_n C dX5_direction_14 rfl ?_
            refine g_5_1 C (by assumption) (by assumption) wt_534 dX5_direction_15 ?_
            refine v_iload_n C dX5_direction_18 rfl ?_
            first | refine v_ialdN C (by assumption) (by omega) (by omega) dX5_direction_19 ?_ | refine v_iald C (by assumption) (by assumption) dX5_direction_19 ?_
            rw [hk1]
            refine v_iconstN 1 C dX5_direction_20 ?_
            first | refine v_icmp_eqN C 31 dX5_direction_21 (by omega) (by omega) (by decide) (fun h21 => ?_) (fun h21 => ?_) | refine v_icmp_eq C 31 dX5_direction_21 (by decide) (fun h21 => ?_) (fun h21 => ?_)
            · refine v_iload_n C dX5_direction_31 rfl ?_
              refine v_iconstN 3 C dX5_direction_32 ?_
              refine v_icmp_ge C 43 dX5_direction_33 (by decide) (fun h33 => ?_) (fun h33 => ?_)
              · refine v_iload_n C dX5_direction_43 rfl ?_
                refine v_bipushN 127 (by decide) C dX5_direction_44 ?_
                refine v_icmp_gt C 60 dX5_direction_46 (by decide) (fun h46 => ?_) (fun h46 => ?_)
                · refine v_aload_n C dX5_direction_60 rfl ?_
                  refine v_bipush (v := -6) C dX5_direction_61 (by decide) ?_
                  refine v_callV1_1 C (m_X5_refuse T B) lk_X5_88 ⟨wt_608, ws_19⟩ 5 rfl dX5_direction_63 ⟨Nat.le_of_ble_eq_true rfl, Nat.le_of_ble_eq_true rfl⟩ (Nat.le_of_ble_eq_true rfl) ⟨Nat.le_of_ble_eq_true rfl, Nat.le_of_ble_eq_true rfl⟩ (by assumption) (cTo_5 (by assumption)) ?_
                  refine c_X5_refuse (k := 6) hM (by decide) (by decide) ?_
                  refine v_iret C Q dX5_direction_66 (Nat.le_of_ble_eq_true rfl) (Nat.le_of_ble_eq_true rfl) ?_
                  have w := Mq_rf (k := 6) hR (by decide) hp
                  exact w
                · refine v_aload_n C dX5_direction_49 rfl ?_
                  refine g_5_2 C (by assumption) (by assumption) wt_535 dX5_direction_50 ?_
                  refine v_iload_n C dX5_direction_53 rfl ?_
                  first | refine v_ialdN C (by assumption) (by omega) (by omega) dX5_direction_54 ?_ | refine v_iald C (by assumption) (by assumption) dX5_direction_54 ?_
                  rw [hk2]
                  refine v_bipushN 6 (by decide) C dX5_direction_55 ?_
                  first | refine v_icmp_neN C 67 dX5_direction_57 (by omega) (by omega) (by decide) (fun h57 => ?_) (fun h57 => ?_) | refine v_icmp_ne C 67 dX5_direction_57 (by decide) (fun h57 => ?_) (fun h57 => ?_)
                  · exact absurd e2 (fun q => q.elim h46 (fun q => absurd h57 (by omega)))
                  · refine v_aload_n C dX5_direction_60 rfl ?_
                    refine v_bipush (v := -6) C dX5_direction_61 (by decide) ?_
                    refine v_callV1_1 C (m_X5_refuse T B) lk_X5_88 ⟨wt_608, ws_19⟩ 5 rfl dX5_direction_63 ⟨Nat.le_of_ble_eq_true rfl, Nat.le_of_ble_eq_true rfl⟩ (Nat.le_of_ble_eq_true rfl) ⟨Nat.le_of_ble_eq_true rfl, Nat.le_of_ble_eq_true rfl⟩ (by assumption) (cTo_5 (by assumption)) ?_
                    refine c_X5_refuse (k := 6) hM (by decide) (by decide) ?_
                    refine v_iret C Q dX5_direction_66 (Nat.le_of_ble_eq_true rfl) (Nat.le_of_ble_eq_true rfl) ?_
                    have w := Mq_rf (k := 6) hR (by decide) hp
                    exact w
              · exact absurd (Int32.not_le.mp h33) e1
            · exact absurd hkd h21
          · exact absurd h5 (by decide)
        · rw [if_neg e2] at hp
          have p2 : ¬ nI 127 < p := fun q => e2 (Or.inl q)
          have d2 : st.2.1 k 2 0 < 6 := Nat.lt_of_not_le (fun q => e2 (Or.inr q))
          have p0 : ¬ p < 0 := fun q => by
            have a1 := Int32.le_iff_toInt_le.mp (Int32.not_lt.mp e1)
            have a2 := Int32.lt_iff_toInt_lt.mp q
            rw [nI_toInt (by decide)] at a1
            have : (0 : Int32).toInt = 0 := rfl
            omega
          obtain ⟨P, hP, rfl⟩ := nI_of2 (M := nI 127) (n := 127) (nI_toInt (by decide)) p0 (Int32.not_lt.mp p2)
          have hP3 : 3 ≤ P := Nat.le_of_not_lt (fun q => e1 (nI_lt q (by decide)))
          rw [vN_nI (by omega)] at hp
          have hvv := lN_uL v
          have huv := uL_lt v
          generalize uL v = F at *
          subst hvv
          have hq1 := dgF_1 P (by omega) (by omega)
          have hq6 := dgF_le P 6
          have vlt : ∀ t, vF F t < 256 := fun t => Nat.mod_lt _ (by decide)
          -- the rows, when all is good
          have rest : P % 2 = 1 → allB (fFi F) (dgF P 6) = true → V X 0 0 z S I J R 173 [some (.ref M), some (.int (nI k)), some (.int (nI P)), some (.long (lN F)), none, some (.int (nI (dgF P 6))), none, none, none, none, none] [] := by
            intro hodd hall
            rw [if_pos ⟨hodd, hall⟩] at hp
            have hv := fFi_lt hall
            generalize hqe : dgF P 6 = q at *
            have tlt : ∀ t i, rnT F P q t i < 2 ^ i := fun t i => rnT_lt hq1 hv t i
            generalize hvv : rnT F P q 8 = v at hp
            have hlt : ∀ i, v i < 2 ^ i := fun i => by rw [← hvv]; exact tlt 8 i
            generalize hd0 : st.2.1 k 2 0 = d at *
            generalize hw0 : st.2.1 k 3 0 = w at *
            have rin : ∀ i : Nat, i < w → ∀ n : Nat, n ≤ w - i → ∀ (I' : MI) (J' : MJ), FrD I I' M k (48 * k + 8 * d) (48 * k + 8 * d + w) → I' (M + 2) k = nI (d + 1) → (∀ m, m < i → I' (M + 6) (48 * k + 8 * d + m) = nI (rB v m (w - m))) → (∀ a r, a ≠ M + 14 → J' a r = J a r) → (∀ r, 1 ≤ r → r ≤ 8 → J' (M + 14) r = lN (v r)) →
                (∀ I' : MI, FrD I I' M k (48 * k + 8 * d) (48 * k + 8 * d + w) → I' (M + 2) k = nI (d + 1) → (∀ m, m < i + 1 → I' (M + 6) (48 * k + 8 * d + m) = nI (rB v m (w - m))) → V X 0 0 z S I' J' R 326 [some (.ref M), some (.int (nI k)), none, none, none, none, none, some (.int (nI d)), some (.int (nI (i + 1))), none, none] []) →
                V X 0 0 z S I' J' R 346 [some (.ref M), some (.int (nI k)), none, none, none, none, none, some (.int (nI d)), some (.int (nI i)), some (.int (nI (rB v i n))), some (.int (nI (i + 1 + n)))] [] := by
              intro i hi
              refine lp_up (w - i) ?_
              intro n hn2 ih I' J' hF h2 hrw hJ hJ2 K
              have w1 : I' (M + 3) k = nI w := (hF _ _ (by omega) (by omega)).trans hpw
              have hl1 := hlt (i + 1 + n)
              have h28 : n < w - i → 2 ^ (i + 1 + n) ≤ 2 ^ 8 := fun q => Nat.pow_le_pow_right (by decide) (by omega)
              have h28' : n < w - i → 2 ^ (i + n) ≤ 2 ^ 8 := fun q => Nat.pow_le_pow_right (by decide) (by omega)
              have nx : n < w - i → ∀ e : Nat, e = v (i + 1 + n) / 2 ^ n % 2 * 2 ^ (i + n) → V X 0 0 z S I' J' R 391 [some (.ref M), some (.int (nI k)), none, none, none, none, none, some (.int (nI d)), some (.int (nI i)), some (.int (nI (rB v i n))), some (.int (nI (i + 1 + n)))] [.int (nI e), .int (nI (rB v i n))] := by
                intro hlt2 e he
                subst he
                first | refine v_iorN C dX5_direction_391 ?_ | refine v_ior C dX5_direction_391 ?_
                refine v_istore C dX5_direction_392 (by decide) ?_
                first | refine v_iincN 1 C dX5_direction_394 rfl (by decide) ?_ | refine v_iinc C dX5_direction_394 rfl rfl (by decide) ?_
                refine v_goto C 346 dX5_direction_397 (by decide) ?_
                exact v_less (ih (by omega) I' J' hF h2 hrw hJ hJ2 K) (by repeat (first | exact trivial | refine And.intro rfl ?_))
              refine v_iload C dX5_direction_346 rfl ?_
              refine v_aload_n C dX5_direction_348 rfl ?_
              refine g_5_3 C (by assumption) (by assumption) wt_536 dX5_direction_349 ?_
              refine v_iload_n C dX5_direction_352 rfl ?_
              first | refine v_ialdN C (by assumption) (by omega) (by omega) dX5_direction_353 ?_ | refine v_iald C (by assumption) (by assumption) dX5_direction_353 ?_
              rw [w1]
              first | refine v_icmp_gtN C 400 dX5_direction_354 (by omega) (by omega) (by decide) (fun h354 => ?_) (fun h354 => ?_) | refine v_icmp_gt C 400 dX5_direction_354 (by decide) (fun h354 => ?_) (fun h354 => ?_)
              · refine v_aload_n C dX5_direction_400 rfl ?_
                refine g_5_6 C (by assumption) (by assumption) wt_539 dX5_direction_401 ?_
                refine v_bipushN 48 (by decide) C dX5_direction_404 ?_
                refine v_iload_n C dX5_direction_406 rfl ?_
                first | refine v_imulN C dX5_direction_407 ?_ | refine v_imul C dX5_direction_407 ?_
                refine v_bipushN 8 (by decide) C dX5_direction_408 ?_
                refine v_iload C dX5_direction_410 rfl ?_
                first | refine v_imulN C dX5_direction_412 ?_ | refine v_imul C dX5_direction_412 ?_
                first | refine v_iaddN C dX5_direction_413 ?_ | refine v_iadd C dX5_direction_413 ?_
                refine v_iload C dX5_direction_414 rfl ?_
                first | refine v_iaddN C dX5_direction_416 ?_ | refine v_iadd C dX5_direction_416 ?_
                refine v_iload C dX5_direction_417 rfl ?_
                first | refine v_iastN C (by assumption) (by omega) (by omega) dX5_direction_419 ?_ | refine v_iast C (by assumption) (by assumption) dX5_direction_419 ?_
                first | refine v_iincN 1 C dX5_direction_420 rfl (by decide) ?_ | refine v_iinc C dX5_direction_420 rfl rfl (by decide) ?_
                refine v_goto C 326 dX5_direction_423 (by decide) ?_
                obtain rfl : n = w - i := by omega
                rw [show 48 * k + 8 * d + i = 48 * k + 8 * d + i from rfl]
                exact v_less (K _ (fun a r g1 g2 => by rw [mu_other _ _ (by omega)]; exact hF a r g1 g2) (by rw [mu_ne _ _ (by omega)]; exact h2) (fun m hm => by
                  by_cases e : m = i
                  · subst e; rw [mu_at]
                  · rw [mu_other _ _ (by omega)]; exact hrw m (by omega))) (by repeat (first | exact trivial | refine And.intro rfl ?_))
              · refine v_iload C dX5_direction_357 rfl ?_
                refine v_aload_n C dX5_direction_359 rfl ?_
                refine g_5_15 C (by assumption) (by assumption) wt_548 dX5_direction_360 ?_
                refine v_iload C dX5_direction_363 rfl ?_
                first | refine v_laldN C (by assumption) (by omega) (by omega) dX5_direction_365 ?_ | refine v_lald C (by assumption) (by assumption) dX5_direction_365 ?_
                rw [hJ2 _ (by omega) (by omega)]
                refine v_iload C dX5_direction_366 rfl ?_
                refine v_iconstN 1 C dX5_direction_368 ?_
                first | refine v_isubN C dX5_direction_369 (by omega) ?_ | refine v_isub C dX5_direction_369 ?_
                refine v_iload C dX5_direction_370 rfl ?_
                first | refine v_isubN C dX5_direction_372 (by omega) ?_ | refine v_isub C dX5_direction_372 ?_
                rw [show i + 1 + n - 1 - i = n by omega]
                refine v_lshr C dX5_direction_373 ?_
                have q1 := h28 (by omega)
                rw [sar_n (by omega) (by omega)]
                refine v_lconst (v := lN 1) C dX5_direction_374 rfl ?_
                refine v_land C dX5_direction_375 ?_
                rw [show lN (v (i + 1 + n) / 2 ^ n) &&& lN 1 = lN (v (i + 1 + n) / 2 ^ n % 2) from wb_a1 (Nat.lt_of_le_of_lt (Nat.div_le_self _ _) (by omega))]
                refine v_lconst (v := lN 1) C dX5_direction_376 rfl ?_
                refine v_lcmp C dX5_direction_377 ?_
                first | refine v_lcif_neN C 390 dX5_direction_378 (by omega) (by omega) (by decide) (fun h378 => ?_) (fun h378 => ?_) | refine v_lcif_ne C 390 dX5_direction_378 (by decide) (fun h378 => ?_) (fun h378 => ?_)
                · refine v_iconstN 0 C dX5_direction_390 ?_
                  first
                  | exact v_less (nx (by omega) _ (by rw [show v (i + 1 + n) / 2 ^ n % 2 = 1 from h378, Nat.one_mul])) (by repeat (first | exact trivial | refine And.intro rfl ?_))
                  | exact v_less (nx (by omega) 0 (by rw [show v (i + 1 + n) / 2 ^ n % 2 = 0 by omega, Nat.zero_mul])) (by repeat (first | exact trivial | refine And.intro rfl ?_))
                · refine v_iconstN 1 C dX5_direction_381 ?_
                  refine v_iload C dX5_direction_382 rfl ?_
                  refine v_iconstN 1 C dX5_direction_384 ?_
                  first | refine v_isubN C dX5_direction_385 (by omega) ?_ | refine v_isub C dX5_direction_385 ?_
                  rw [show i + 1 + n - 1 = i + n by omega]
                  first | refine v_ishlN C dX5_direction_386 (by omega) (by have q2 := h28' (by omega); rw [Nat.one_mul]; omega) ?_ | refine v_ishl C dX5_direction_386 ?_
                  rw [Nat.one_mul]
                  refine v_goto C 391 dX5_direction_387 (by decide) ?_
                  first
                  | exact v_less (nx (by omega) _ (by rw [show v (i + 1 + n) / 2 ^ n % 2 = 1 from h378, Nat.one_mul])) (by repeat (first | exact trivial | refine And.intro rfl ?_))
                  | exact v_less (nx (by omega) 0 (by rw [show v (i + 1 + n) / 2 ^ n % 2 = 0 by omega, Nat.zero_mul])) (by repeat (first | exact trivial | refine And.intro rfl ?_))
            have rlp : ∀ i : Nat, i ≤ w → ∀ (I' : MI) (J' : MJ), FrD I I' M k (48 * k + 8 * d) (48 * k + 8 * d + w) → I' (M + 2) k = nI (d + 1) → (∀ m, m < i → I' (M + 6) (48 * k + 8 * d + m) = nI (rB v m (w - m))) → (∀ a r, a ≠ M + 14 → J' a r = J a r) → (∀ r, 1 ≤ r → r ≤ 8 → J' (M + 14) r = lN (v r)) → V X 0 0 z S I' J' R 326 [some (.ref M), some (.int (nI k)), none, none, none, none, none, some (.int (nI d)), some (.int (nI i)), none, none] [] := by
              refine lp_up w ?_
              intro i hi ih I' J' hF h2 hrw hJ hJ2
              have w1 : I' (M + 3) k = nI w := (hF _ _ (by omega) (by omega)).trans hpw
              refine v_iload C dX5_direction_326 rfl ?_
              refine v_aload_n C dX5_direction_328 rfl ?_
              refine g_5_3 C (by assumption) (by assumption) wt_536 dX5_direction_329 ?_
              refine v_iload_n C dX5_direction_332 rfl ?_
              first | refine v_ialdN C (by assumption) (by omega) (by omega) dX5_direction_333 ?_ | refine v_iald C (by assumption) (by assumption) dX5_direction_333 ?_
              rw [w1]
              first | refine v_icmp_geN C 426 dX5_direction_334 (by omega) (by omega) (by decide) (fun h334 => ?_) (fun h334 => ?_) | refine v_icmp_ge C 426 dX5_direction_334 (by decide) (fun h334 => ?_) (fun h334 => ?_)
              · refine v_iload C dX5_direction_426 rfl ?_
                refine v_iret C Q dX5_direction_428 (Nat.le_of_ble_eq_true rfl) (Nat.le_of_ble_eq_true rfl) ?_
                obtain rfl : i = w := by omega
                have w := Mq_setJ (D := dirD (st.2.1 k) F P) hR (fun a r g => hF a r (by omega) (by omega)) hJ (fun s hs => MsR_dir (by omega) hms hs hOk hkd (by rw [hd0]; exact d2) (by rw [hd0, hw0]; exact hF) (by rw [hd0]; exact h2) (by rw [hd0, hw0, hqe, hvv]; exact hrw)) hp
                exact w
              · refine v_iconstN 0 C dX5_direction_337 ?_
                refine v_istore C dX5_direction_338 (by decide) ?_
                refine v_iload C dX5_direction_340 rfl ?_
                refine v_iconstN 1 C dX5_direction_342 ?_
                first | refine v_iaddN C dX5_direction_343 ?_ | refine v_iadd C dX5_direction_343 ?_
                refine v_istore C dX5_direction_344 (by decide) ?_
                exact v_less (rin i h334 0 (Nat.zero_le _) I' J' hF h2 hrw hJ hJ2 (fun I2 g1 g2 g3 => ih h334 I2 J' g1 g2 g3 hJ hJ2)) (by repeat (first | exact trivial | refine And.intro rfl ?_))
            -- the numbers
            have upd : ∀ (t x : Nat) (J' : MJ), t < 8 → (∀ r, 1 ≤ r → r ≤ t → J' (M + 14) r = lN (rnT F P q t r)) → x = rnV F P q (rnT F P q t) (t + 1) → ∀ r, 1 ≤ r → r ≤ t + 1 → mu J' (M + 14) (t + 1) (lN x) (M + 14) r = lN (rnT F P q (t + 1) r) := by
              intro t x J' ht h hx r g1 g2
              simp only [rnT]
              by_cases e : r = t + 1
              · subst e; rw [mu_at, va_up_self, hx]
              · rw [mu_other _ _ (fun c => e c.2), va_up_ne _ _ e]; exact h r g1 (by omega)
            have nin : ∀ t : Nat, t < 8 → ¬ t + 1 ≤ q → ∀ m : Nat, m ≤ q - 1 → ∀ J' : MJ, (∀ a r, a ≠ M + 14 → J' a r = J a r) → (∀ r, 1 ≤ r → r ≤ t → J' (M + 14) r = lN (rnT F P q t r)) →
                (∀ J' : MJ, (∀ a r, a ≠ M + 14 → J' a r = J a r) → (∀ r, 1 ≤ r → r ≤ t + 1 → J' (M + 14) r = lN (rnT F P q (t + 1) r)) → V X 0 0 z S I J' R 176 [some (.ref M), some (.int (nI k)), some (.int (nI P)), some (.long (lN F)), none, some (.int (nI q)), none, some (.int (nI (t + 1 + 1))), none, none, none] []) →
                V X 0 0 z S I J' R 242 [some (.ref M), some (.int (nI k)), some (.int (nI P)), some (.long (lN F)), none, some (.int (nI q)), none, some (.int (nI (t + 1))), some (.long (lN (xf (rnT F P q t) P q (t + 1) m))), none, some (.int (nI (m + 1)))] [] := by
              intro t ht htq
              refine lp_up (q - 1) ?_
              intro m hm ih J' hJ hJ2 K
              have hx := xf_lt (p := P) (k := t + 1) hq1 (by omega) (fun i _ => tlt t i) m hm
              have h2t : 2 ^ (t + 1) ≤ 2 ^ 8 := Nat.pow_le_pow_right (by decide) (by omega)
              have hmul : m < q - 1 → rnT F P q t (t + 1 - (m + 1)) * 2 ^ (m + 1) < 2 ^ 64 := fun g => by
                have g1 := tlt t (t + 1 - (m + 1))
                have g2 : 2 ^ (t + 1 - (m + 1)) ≤ 2 ^ 8 := Nat.pow_le_pow_right (by decide) (by omega)
                have g3 : 2 ^ (m + 1) ≤ 2 ^ 8 := Nat.pow_le_pow_right (by decide) (by omega)
                exact Nat.lt_of_le_of_lt (Nat.mul_le_mul (show _ ≤ 2 ^ 8 by omega) g3) (by decide)
              have nx : m < q - 1 → ∀ e : Nat, e < 2 ^ 64 → e = P / 2 ^ (q - (m + 1)) % 2 * (rnT F P q t (t + 1 - (m + 1)) * 2 ^ (m + 1)) → V X 0 0 z S I J' R 281 [some (.ref M), some (.int (nI k)), some (.int (nI P)), some (.long (lN F)), none, some (.int (nI q)), none, some (.int (nI (t + 1))), some (.long (lN (xf (rnT F P q t) P q (t + 1) m))), none, some (.int (nI (m + 1)))] [.long (lN e), .long (lN (xf (rnT F P q t) P q (t + 1) m))] := by
                intro hlt2 e he1 he
                refine v_lxor C dX5_direction_281 ?_
                rw [wb_xor (by omega) he1, he]
                refine v_lstore C dX5_direction_282 (by decide) ?_
                first | refine v_iincN 1 C dX5_direction_284 rfl (by decide) ?_ | refine v_iinc C dX5_direction_284 rfl rfl (by decide) ?_
                refine v_goto C 242 dX5_direction_287 (by decide) ?_
                exact v_less (ih hlt2 J' hJ hJ2 K) (by repeat (first | exact trivial | refine And.intro rfl ?_))
              refine v_iload C dX5_direction_242 rfl ?_
              refine v_iload C dX5_direction_244 rfl ?_
              first | refine v_icmp_geN C 290 dX5_direction_246 (by omega) (by omega) (by decide) (fun h246 => ?_) (fun h246 => ?_) | refine v_icmp_ge C 290 dX5_direction_246 (by decide) (fun h246 => ?_) (fun h246 => ?_)
              · refine v_aload_n C dX5_direction_290 rfl ?_
                refine g_5_15 C (by assumption) (by assumption) wt_548 dX5_direction_291 ?_
                refine v_iload C dX5_direction_294 rfl ?_
                refine v_lload C dX5_direction_296 rfl ?_
                first | refine v_lastN C (by assumption) (by omega) (by omega) dX5_direction_298 ?_ | refine v_last C (by assumption) (by assumption) dX5_direction_298 ?_
                first | refine v_iincN 1 C dX5_direction_299 rfl (by decide) ?_ | refine v_iinc C dX5_direction_299 rfl rfl (by decide) ?_
                refine v_goto C 176 dX5_direction_302 (by decide) ?_
                obtain rfl : m = q - 1 := by omega
                exact v_less (K _ (fun a r g => by rw [mu_ne _ _ g]; exact hJ a r g) (upd t _ J' ht hJ2 (by unfold rnV; rw [if_neg htq]))) (by repeat (first | exact trivial | refine And.intro rfl ?_))
              · refine v_lload C dX5_direction_249 rfl ?_
                refine v_iload_n C dX5_direction_251 rfl ?_
                refine v_iload C dX5_direction_252 rfl ?_
                refine v_iload C dX5_direction_254 rfl ?_
                first | refine v_isubN C dX5_direction_256 (by omega) ?_ | refine v_isub C dX5_direction_256 ?_
                skip
                first | refine v_ishrN C dX5_direction_257 (by omega) (by omega) ?_ | refine v_ishr C dX5_direction_257 ?_
                refine v_iconstN 1 C dX5_direction_258 ?_
                first | refine v_iandN C dX5_direction_259 ?_ | refine v_iand C dX5_direction_259 ?_
                rw [show P / 2 ^ (q - (m + 1)) &&& 1 = P / 2 ^ (q - (m + 1)) % 2 from Nat.and_one_is_mod _]
                refine v_iconstN 1 C dX5_direction_260 ?_
                first | refine v_icmp_neN C 280 dX5_direction_261 (by omega) (by omega) (by decide) (fun h261 => ?_) (fun h261 => ?_) | refine v_icmp_ne C 280 dX5_direction_261 (by decide) (fun h261 => ?_) (fun h261 => ?_)
                · refine v_lconst (v := lN 0) C dX5_direction_280 rfl ?_
                  first
                  | exact v_less (nx (by omega) _ (hmul (by omega)) (by rw [h261, Nat.one_mul])) (by repeat (first | exact trivial | refine And.intro rfl ?_))
                  | exact v_less (nx (by omega) 0 (by decide) (by rw [show P / 2 ^ (q - (m + 1)) % 2 = 0 by omega, Nat.zero_mul])) (by repeat (first | exact trivial | refine And.intro rfl ?_))
                · refine v_aload_n C dX5_direction_264 rfl ?_
                  refine g_5_15 C (by assumption) (by assumption) wt_548 dX5_direction_265 ?_
                  refine v_iload C dX5_direction_268 rfl ?_
                  refine v_iload C dX5_direction_270 rfl ?_
                  first | refine v_isubN C dX5_direction_272 (by omega) ?_ | refine v_isub C dX5_direction_272 ?_
                  first | refine v_laldN C (by assumption) (by omega) (by omega) dX5_direction_273 ?_ | refine v_lald C (by assumption) (by assumption) dX5_direction_273 ?_
                  rw [hJ2 _ (by omega) (by omega)]
                  refine v_iload C dX5_direction_274 rfl ?_
                  refine v_lshl C dX5_direction_276 ?_
                  rw [wb_shl _ (by omega)]
                  refine v_goto C 281 dX5_direction_277 (by decide) ?_
                  first
                  | exact v_less (nx (by omega) _ (hmul (by omega)) (by rw [h261, Nat.one_mul])) (by repeat (first | exact trivial | refine And.intro rfl ?_))
                  | exact v_less (nx (by omega) 0 (by decide) (by rw [show P / 2 ^ (q - (m + 1)) % 2 = 0 by omega, Nat.zero_mul])) (by repeat (first | exact trivial | refine And.intro rfl ?_))
            have nlp : ∀ t : Nat, t ≤ 8 → ∀ J' : MJ, (∀ a r, a ≠ M + 14 → J' a r = J a r) → (∀ r, 1 ≤ r → r ≤ t → J' (M + 14) r = lN (rnT F P q t r)) → V X 0 0 z S I J' R 176 [some (.ref M), some (.int (nI k)), some (.int (nI P)), some (.long (lN F)), none, some (.int (nI q)), none, some (.int (nI (t + 1))), none, none, none] [] := by
              refine lp_up 8 ?_
              intro t ht ih J' hJ hJ2
              have g1 := tlt t (t + 1 - q)
              have hmul : t < 8 → rnT F P q t (t + 1 - q) * 2 ^ q < 2 ^ 64 := fun g => by
                have g2 : 2 ^ (t + 1 - q) ≤ 2 ^ 9 := Nat.pow_le_pow_right (by decide) (by omega)
                have g3 : 2 ^ q ≤ 2 ^ 8 := Nat.pow_le_pow_right (by decide) (by omega)
                exact Nat.lt_of_le_of_lt (Nat.mul_le_mul (show _ ≤ 2 ^ 9 by omega) g3) (by decide)
              have g4 : t < 8 → rnT F P q t (t + 1 - q) < 2 ^ 64 := fun g => Nat.lt_of_lt_of_le g1 (Nat.pow_le_pow_right (by decide) (by omega))
              refine v_iload C dX5_direction_176 rfl ?_
              refine v_bipushN 8 (by decide) C dX5_direction_178 ?_
              first | refine v_icmp_gtN C 305 dX5_direction_180 (by omega) (by omega) (by decide) (fun h180 => ?_) (fun h180 => ?_) | refine v_icmp_gt C 305 dX5_direction_180 (by decide) (fun h180 => ?_) (fun h180 => ?_)
              · refine v_aload_n C dX5_direction_305 rfl ?_
                refine g_5_2 C (by assumption) (by assumption) wt_535 dX5_direction_306 ?_
                refine v_iload_n C dX5_direction_309 rfl ?_
                first | refine v_ialdN C (by assumption) (by omega) (by omega) dX5_direction_310 ?_ | refine v_iald C (by assumption) (by assumption) dX5_direction_310 ?_
                rw [hk2]
                refine v_istore C dX5_direction_311 (by decide) ?_
                refine v_aload_n C dX5_direction_313 rfl ?_
                refine g_5_2 C (by assumption) (by assumption) wt_535 dX5_direction_314 ?_
                refine v_iload_n C dX5_direction_317 rfl ?_
                refine v_dup2 C dX5_direction_318 rfl rfl ?_
                first | refine v_ialdN C (by assumption) (by omega) (by omega) dX5_direction_319 ?_ | refine v_iald C (by assumption) (by assumption) dX5_direction_319 ?_
                rw [hk2]
                refine v_iconstN 1 C dX5_direction_320 ?_
                first | refine v_iaddN C dX5_direction_321 ?_ | refine v_iadd C dX5_direction_321 ?_
                first | refine v_iastN C (by assumption) (by omega) (by omega) dX5_direction_322 ?_ | refine v_iast C (by assumption) (by assumption) dX5_direction_322 ?_
                refine v_iconstN 0 C dX5_direction_323 ?_
                refine v_istore C dX5_direction_324 (by decide) ?_
                obtain rfl : t = 8 := by omega
                rw [hvv] at hJ2
                exact v_less (rlp 0 (Nat.zero_le _) _ J' (fun a r g1 g2 => by rw [mu_other _ _ (by omega)]) (mu_at _ _ _ _) (fun m hm => absurd hm (by omega)) hJ hJ2) (by repeat (first | exact trivial | refine And.intro rfl ?_))
              · refine v_iload C dX5_direction_183 rfl ?_
                refine v_iload C dX5_direction_185 rfl ?_
                first | refine v_icmp_gtN C 213 dX5_direction_187 (by omega) (by omega) (by decide) (fun h187 => ?_) (fun h187 => ?_) | refine v_icmp_gt C 213 dX5_direction_187 (by decide) (fun h187 => ?_) (fun h187 => ?_)
                · refine v_aload_n C dX5_direction_213 rfl ?_
                  refine g_5_15 C (by assumption) (by assumption) wt_548 dX5_direction_214 ?_
                  refine v_iload C dX5_direction_217 rfl ?_
                  refine v_iload C dX5_direction_219 rfl ?_
                  first | refine v_isubN C dX5_direction_221 (by omega) ?_ | refine v_isub C dX5_direction_221 ?_
                  first | refine v_laldN C (by assumption) (by omega) (by omega) dX5_direction_222 ?_ | refine v_lald C (by assumption) (by assumption) dX5_direction_222 ?_
                  rw [hJ2 _ (by omega) (by omega)]
                  refine v_aload_n C dX5_direction_223 rfl ?_
                  refine g_5_15 C (by assumption) (by assumption) wt_548 dX5_direction_224 ?_
                  refine v_iload C dX5_direction_227 rfl ?_
                  refine v_iload C dX5_direction_229 rfl ?_
                  first | refine v_isubN C dX5_direction_231 (by omega) ?_ | refine v_isub C dX5_direction_231 ?_
                  first | refine v_laldN C (by assumption) (by omega) (by omega) dX5_direction_232 ?_ | refine v_lald C (by assumption) (by assumption) dX5_direction_232 ?_
                  rw [hJ2 _ (by omega) (by omega)]
                  refine v_iload C dX5_direction_233 rfl ?_
                  refine v_lshl C dX5_direction_235 ?_
                  rw [wb_shl _ (by omega)]
                  refine v_lxor C dX5_direction_236 ?_
                  rw [wb_xor (g4 (by omega)) (hmul (by omega))]
                  refine v_lstore C dX5_direction_237 (by decide) ?_
                  refine v_iconstN 1 C dX5_direction_239 ?_
                  refine v_istore C dX5_direction_240 (by decide) ?_
                  exact v_less (nin t (by omega) (by omega) 0 (Nat.zero_le _) J' hJ hJ2 (ih (by omega))) (by repeat (first | exact trivial | refine And.intro rfl ?_))
                · refine v_aload_n C dX5_direction_190 rfl ?_
                  refine g_5_15 C (by assumption) (by assumption) wt_548 dX5_direction_191 ?_
                  refine v_iload C dX5_direction_194 rfl ?_
                  refine v_lload_n C dX5_direction_196 rfl ?_
                  refine v_bipushN 8 (by decide) C dX5_direction_197 ?_
                  refine v_iload C dX5_direction_199 rfl ?_
                  refine v_iconstN 1 C dX5_direction_201 ?_
                  first | refine v_isubN C dX5_direction_202 (by omega) ?_ | refine v_isub C dX5_direction_202 ?_
                  first | refine v_imulN C dX5_direction_203 ?_ | refine v_imul C dX5_direction_203 ?_
                  refine v_lshr C dX5_direction_204 ?_
                  refine v_ldc2 C dX5_direction_205 wt_637 ?_
                  refine v_eql (x' := lN 255) (by decide +kernel) ?_
                  refine v_land C dX5_direction_208 ?_
                  rw [sar_255 (by omega)]
                  first | refine v_lastN C (by assumption) (by omega) (by omega) dX5_direction_209 ?_ | refine v_last C (by assumption) (by assumption) dX5_direction_209 ?_
                  refine v_goto C 299 dX5_direction_210 (by decide) ?_
                  first | refine v_iincN 1 C dX5_direction_299 rfl (by decide) ?_ | refine v_iinc C dX5_direction_299 rfl rfl (by decide) ?_
                  refine v_goto C 176 dX5_direction_302 (by decide) ?_
                  exact v_less (ih (by omega) _ (fun a r g => by rw [mu_ne _ _ g]; exact hJ a r g) (upd t _ J' (by omega) hJ2 (by unfold rnV; rw [if_pos (by omega)]; rfl))) (by repeat (first | exact trivial | refine And.intro rfl ?_))
            refine v_iconstN 1 C dX5_direction_173 ?_
            refine v_istore C dX5_direction_174 (by decide) ?_
            exact v_less (nlp 0 (Nat.zero_le _) J (fun _ _ _ => rfl) (fun r g1 g2 => absurd g1 (by omega))) (by repeat (first | exact trivial | refine And.intro rfl ?_))
          have glp : ∀ t : Nat, t ≤ dgF P 6 → V X 0 0 z S I J R 102 [some (.ref M), some (.int (nI k)), some (.int (nI P)), some (.long (lN F)), none, some (.int (nI (dgF P 6))), some (.int (nI (b2 (decide (P % 2 = 1) && allB (fFi F) t)))), some (.int (nI (t + 1))), none, none, none] [] := by
            refine lp_up (dgF P 6) ?_
            intro t ht ih
            have vl := vlt (t + 1)
            have h2t : t < 6 → 2 ^ (t + 1) ≤ 2 ^ 6 := fun g => Nat.pow_le_pow_right (by decide) (by omega)
            have nx : t < dgF P 6 → ∀ g : Bool, g = ((decide (P % 2 = 1) && allB (fFi F) t) && fFi F t) → V X 0 0 z S I J R 153 [some (.ref M), some (.int (nI k)), some (.int (nI P)), some (.long (lN F)), none, some (.int (nI (dgF P 6))), none, some (.int (nI (t + 1))), none, none, none] [.int (nI (b2 g))] := by
              intro hlt2 g hg
              have hh := ih hlt2
              rw [show (decide (P % 2 = 1) && allB (fFi F) (t + 1)) = g from by rw [hg]; simp [allB, Bool.and_assoc]] at hh
              refine v_istore C dX5_direction_153 (by decide) ?_
              first | refine v_iincN 1 C dX5_direction_155 rfl (by decide) ?_ | refine v_iinc C dX5_direction_155 rfl rfl (by decide) ?_
              refine v_goto C 102 dX5_direction_158 (by decide) ?_
              exact v_less hh (by repeat (first | exact trivial | refine And.intro rfl ?_))
            refine v_iload C dX5_direction_102 rfl ?_
            refine v_iload C dX5_direction_104 rfl ?_
            first | refine v_icmp_gtN C 161 dX5_direction_106 (by omega) (by omega) (by decide) (fun h106 => ?_) (fun h106 => ?_) | refine v_icmp_gt C 161 dX5_direction_106 (by decide) (fun h106 => ?_) (fun h106 => ?_)
            · refine v_iload C dX5_direction_161 rfl ?_
              refine v_if_ne C 173 dX5_direction_163 (by decide) (fun h163 => ?_) (fun h163 => ?_)
              · obtain rfl : t = dgF P 6 := by omega
                have hb : (decide (P % 2 = 1) && allB (fFi F) (dgF P 6)) = true := by
                  cases hq : (decide (P % 2 = 1) && allB (fFi F) (dgF P 6)) with
                  | true => rfl
                  | false => rw [hq] at h163; exact absurd rfl h163
                rw [Bool.and_eq_true, decide_eq_true_eq] at hb
                exact v_less (rest hb.1 hb.2) (by repeat (first | exact trivial | refine And.intro rfl ?_))
              · obtain rfl : t = dgF P 6 := by omega
                have hb : (decide (P % 2 = 1) && allB (fFi F) (dgF P 6)) = false := by
                  cases hq : (decide (P % 2 = 1) && allB (fFi F) (dgF P 6)) with
                  | false => rfl
                  | true => rw [hq] at h163; exact absurd h163 (by decide)
                rw [if_neg (fun q => by rw [decide_eq_true q.1, q.2] at hb; exact absurd hb (by decide))] at hp
                refine v_aload_n C dX5_direction_166 rfl ?_
                refine v_bipush (v := -3) C dX5_direction_167 (by decide) ?_
                refine v_callV1_1 C (m_X5_refuse T B) lk_X5_88 ⟨wt_608, ws_19⟩ 5 rfl dX5_direction_169 ⟨Nat.le_of_ble_eq_true rfl, Nat.le_of_ble_eq_true rfl⟩ (Nat.le_of_ble_eq_true rfl) ⟨Nat.le_of_ble_eq_true rfl, Nat.le_of_ble_eq_true rfl⟩ (by assumption) (cTo_5 (by assumption)) ?_
                refine c_X5_refuse (k := 3) hM (by decide) (by decide) ?_
                refine v_iret C Q dX5_direction_172 (Nat.le_of_ble_eq_true rfl) (Nat.le_of_ble_eq_true rfl) ?_
                have w := Mq_rf (k := 3) hR (by decide) hp
                exact w
            · refine v_lload_n C dX5_direction_109 rfl ?_
              refine v_bipushN 8 (by decide) C dX5_direction_110 ?_
              refine v_iload C dX5_direction_112 rfl ?_
              refine v_iconstN 1 C dX5_direction_114 ?_
              first | refine v_isubN C dX5_direction_115 (by omega) ?_ | refine v_isub C dX5_direction_115 ?_
              first | refine v_imulN C dX5_direction_116 ?_ | refine v_imul C dX5_direction_116 ?_
              refine v_lshr C dX5_direction_117 ?_
              refine v_ldc2 C dX5_direction_118 wt_637 ?_
              refine v_eql (x' := lN 255) (by decide +kernel) ?_
              refine v_land C dX5_direction_121 ?_
              rw [show (lN F >>> ((nI (8 * (t + 1 - 1))).toInt64 &&& 63)) &&& lN 255 = lN (vF F (t + 1)) from sar_255 (by omega)]
              refine v_lstore C dX5_direction_122 (by decide) ?_
              refine v_iload C dX5_direction_124 rfl ?_
              refine v_if_eq C 152 dX5_direction_126 (by decide) (fun h126 => ?_) (fun h126 => ?_)
              · have hg : (decide (P % 2 = 1) && allB (fFi F) t) = false := by
                  cases hq : (decide (P % 2 = 1) && allB (fFi F) t) with
                  | false => rfl
                  | true => rw [hq] at h126; exact absurd h126 (by decide)
                refine v_iconstN 0 C dX5_direction_152 ?_
                first
                | exact v_less (nx (by omega) false (by rw [hg]; rfl)) (by repeat (first | exact trivial | refine And.intro rfl ?_))
                | exact v_less (nx (by omega) true (by rw [hg]; simp [fFi, h135, h145])) (by repeat (first | exact trivial | refine And.intro rfl ?_))
                | exact v_less (nx (by omega) false (by rw [hg]; simp [fFi]; omega)) (by repeat (first | exact trivial | refine And.intro rfl ?_))
              · have hg : (decide (P % 2 = 1) && allB (fFi F) t) = true := by
                  cases hq : (decide (P % 2 = 1) && allB (fFi F) t) with
                  | true => rfl
                  | false => rw [hq] at h126; exact absurd rfl h126
                refine v_lload C dX5_direction_129 rfl ?_
                refine v_lconst (v := lN 1) C dX5_direction_131 rfl ?_
                refine v_land C dX5_direction_132 ?_
                rw [show lN (vF F (t + 1)) &&& lN 1 = lN (vF F (t + 1) % 2) from wb_a1 (by omega)]
                refine v_lconst (v := lN 1) C dX5_direction_133 rfl ?_
                refine v_lcmp C dX5_direction_134 ?_
                first | refine v_lcif_neN C 152 dX5_direction_135 (by omega) (by omega) (by decide) (fun h135 => ?_) (fun h135 => ?_) | refine v_lcif_ne C 152 dX5_direction_135 (by decide) (fun h135 => ?_) (fun h135 => ?_)
                · refine v_iconstN 0 C dX5_direction_152 ?_
                  first
                  | exact v_less (nx (by omega) false (by rw [hg]; rfl)) (by repeat (first | exact trivial | refine And.intro rfl ?_))
                  | exact v_less (nx (by omega) true (by rw [hg]; simp [fFi, h135, h145])) (by repeat (first | exact trivial | refine And.intro rfl ?_))
                  | exact v_less (nx (by omega) false (by rw [hg]; simp [fFi]; omega)) (by repeat (first | exact trivial | refine And.intro rfl ?_))
                · refine v_lload C dX5_direction_138 rfl ?_
                  refine v_lconst (v := lN 1) C dX5_direction_140 rfl ?_
                  refine v_iload C dX5_direction_141 rfl ?_
                  refine v_lshl C dX5_direction_143 ?_
                  rw [wb_shl 1 (by omega), Nat.one_mul]
                  have q2 := h2t (by omega)
                  refine v_lcmp C dX5_direction_144 ?_
                  first | refine v_lcif_geN C 152 dX5_direction_145 (by omega) (by omega) (by decide) (fun h145 => ?_) (fun h145 => ?_) | refine v_lcif_ge C 152 dX5_direction_145 (by decide) (fun h145 => ?_) (fun h145 => ?_)
                  · refine v_iconstN 0 C dX5_direction_152 ?_
                    first
                    | exact v_less (nx (by omega) false (by rw [hg]; rfl)) (by repeat (first | exact trivial | refine And.intro rfl ?_))
                    | exact v_less (nx (by omega) true (by rw [hg]; simp [fFi, h135, h145])) (by repeat (first | exact trivial | refine And.intro rfl ?_))
                    | exact v_less (nx (by omega) false (by rw [hg]; simp [fFi]; omega)) (by repeat (first | exact trivial | refine And.intro rfl ?_))
                  · refine v_iconstN 1 C dX5_direction_148 ?_
                    refine v_goto C 153 dX5_direction_149 (by decide) ?_
                    first
                    | exact v_less (nx (by omega) false (by rw [hg]; rfl)) (by repeat (first | exact trivial | refine And.intro rfl ?_))
                    | exact v_less (nx (by omega) true (by rw [hg]; simp [fFi, h135, h145])) (by repeat (first | exact trivial | refine And.intro rfl ?_))
                    | exact v_less (nx (by omega) false (by rw [hg]; simp [fFi]; omega)) (by repeat (first | exact trivial | refine And.intro rfl ?_))
          have aft : V X 0 0 z S I J R 85 [some (.ref M), some (.int (nI k)), some (.int (nI P)), some (.long (lN F)), none, some (.int (nI (dgF P 6))), none, none, none, none, none] [] := by
            have h0 := glp 0 (Nat.zero_le _)
            refine v_iload_n C dX5_direction_85 rfl ?_
            refine v_iconstN 1 C dX5_direction_86 ?_
            first | refine v_iandN C dX5_direction_87 ?_ | refine v_iand C dX5_direction_87 ?_
            rw [show P &&& 1 = P % 2 from Nat.and_one_is_mod _]
            refine v_iconstN 1 C dX5_direction_88 ?_
            first | refine v_icmp_neN C 96 dX5_direction_89 (by omega) (by omega) (by decide) (fun h89 => ?_) (fun h89 => ?_) | refine v_icmp_ne C 96 dX5_direction_89 (by decide) (fun h89 => ?_) (fun h89 => ?_)
            · rw [decide_eq_false h89] at h0
              refine v_iconstN 0 C dX5_direction_96 ?_
              refine v_istore C dX5_direction_97 (by decide) ?_
              refine v_iconstN 1 C dX5_direction_99 ?_
              refine v_istore C dX5_direction_100 (by decide) ?_
              exact v_less h0 (by repeat (first | exact trivial | refine And.intro rfl ?_))
            · rw [decide_eq_true h89] at h0
              refine v_iconstN 1 C dX5_direction_92 ?_
              refine v_goto C 97 dX5_direction_93 (by decide) ?_
              refine v_istore C dX5_direction_97 (by decide) ?_
              refine v_iconstN 1 C dX5_direction_99 ?_
              refine v_istore C dX5_direction_100 (by decide) ?_
              exact v_less h0 (by repeat (first | exact trivial | refine And.intro rfl ?_))
          have qlp : ∀ q : Nat, q ≤ 6 → 1 ≤ q → 0 < P / 2 ^ q → V X 0 0 z S I J R 70 [some (.ref M), some (.int (nI k)), some (.int (nI P)), some (.long (lN F)), none, some (.int (nI q)), none, none, none, none, none] [] := by
            refine lp_up 6 ?_
            intro q hq ih g1 g2
            have h7 : q = 6 → P / 2 ^ (q + 1) = 0 := fun e => by subst e; exact Nat.div_eq_of_lt (by omega)
            have hpl : P / 2 ^ (q + 1) < 2147483648 := Nat.lt_of_le_of_lt (Nat.div_le_self _ _) (by omega)
            refine v_iload_n C dX5_direction_70 rfl ?_
            refine v_iload C dX5_direction_71 rfl ?_
            refine v_iconstN 1 C dX5_direction_73 ?_
            first | refine v_iaddN C dX5_direction_74 ?_ | refine v_iadd C dX5_direction_74 ?_
            first | refine v_ishrN C dX5_direction_75 (by omega) (by omega) ?_ | refine v_ishr C dX5_direction_75 ?_
            first | refine v_if_leN C 85 dX5_direction_76 (by omega) (by decide) (fun h76 => ?_) (fun h76 => ?_) | refine v_if_le C 85 dX5_direction_76 (by decide) (fun h76 => ?_) (fun h76 => ?_)
            · have hqq := dgF_is P (by omega) q (by omega) g1 g2 h76
              subst hqq
              exact v_less aft (by repeat (first | exact trivial | refine And.intro rfl ?_))
            · first | refine v_iincN 1 C dX5_direction_79 rfl (by decide) ?_ | refine v_iinc C dX5_direction_79 rfl rfl (by decide) ?_
              refine v_goto C 70 dX5_direction_82 (by decide) ?_
              exact v_less (ih (Nat.lt_of_le_of_ne hq (fun e => absurd h76 (by rw [h7 e]; decide))) (by omega) h76) (by repeat (first | exact trivial | refine And.intro rfl ?_))
          refine v_aload_n C dX5_direction_0 rfl ?_
          refine v_iload_n C dX5_direction_1 rfl ?_
          refine v_callV1_1 C (m_X5_isScatter T B) lk_X5_80 ⟨wt_624, ws_22⟩ 5 rfl dX5_direction_2 ⟨Nat.le_of_ble_eq_true rfl, Nat.le_of_ble_eq_true rfl⟩ (Nat.le_of_ble_eq_true rfl) ⟨Nat.le_of_ble_eq_true rfl, Nat.le_of_ble_eq_true rfl⟩ (by assumption) (cTo_5 (by assumption)) ?_
          refine c_isS_k hM hn hn12 hk ?_
          first | refine v_if_neN C 14 dX5_direction_5 (by omega) (by decide) (fun h5 => ?_) (fun h5 => ?_) | refine v_if_ne C 14 dX5_direction_5 (by decide) (fun h5 => ?_) (fun h5 => ?_)
          · refine v_aload_n C dX5_direction_14 rfl ?_
            refine g_5_1 C (by assumption) (by assumption) wt_534 dX5_direction_15 ?_
            refine v_iload_n C dX5_direction_18 rfl ?_
            first | refine v_ialdN C (by assumption) (by omega) (by omega) dX5_direction_19 ?_ | refine v_iald C (by assumption) (by assumption) dX5_direction_19 ?_
            rw [hk1]
            refine v_iconstN 1 C dX5_direction_20 ?_
            first | refine v_icmp_eqN C 31 dX5_direction_21 (by omega) (by omega) (by decide) (fun h21 => ?_) (fun h21 => ?_) | refine v_icmp_eq C 31 dX5_direction_21 (by decide) (fun h21 => ?_) (fun h21 => ?_)
            · refine v_iload_n C dX5_direction_31 rfl ?_
              refine v_iconstN 3 C dX5_direction_32 ?_
              first | refine v_icmp_geN C 43 dX5_direction_33 (by omega) (by omega) (by decide) (fun h33 => ?_) (fun h33 => ?_) | refine v_icmp_ge C 43 dX5_direction_33 (by decide) (fun h33 => ?_) (fun h33 => ?_)
              · refine v_iload_n C dX5_direction_43 rfl ?_
                refine v_bipushN 127 (by decide) C dX5_direction_44 ?_
                first | refine v_icmp_gtN C 60 dX5_direction_46 (by omega) (by omega) (by decide) (fun h46 => ?_) (fun h46 => ?_) | refine v_icmp_gt C 60 dX5_direction_46 (by decide) (fun h46 => ?_) (fun h46 => ?_)
                · exact absurd h46 (by omega)
                · refine v_aload_n C dX5_direction_49 rfl ?_
                  refine g_5_2 C (by assumption) (by assumption) wt_535 dX5_direction_50 ?_
                  refine v_iload_n C dX5_direction_53 rfl ?_
                  first | refine v_ialdN C (by assumption) (by omega) (by omega) dX5_direction_54 ?_ | refine v_iald C (by assumption) (by assumption) dX5_direction_54 ?_
                  rw [hk2]
                  refine v_bipushN 6 (by decide) C dX5_direction_55 ?_
                  first | refine v_icmp_neN C 67 dX5_direction_57 (by omega) (by omega) (by decide) (fun h57 => ?_) (fun h57 => ?_) | refine v_icmp_ne C 67 dX5_direction_57 (by decide) (fun h57 => ?_) (fun h57 => ?_)
                  · refine v_iconstN 1 C dX5_direction_67 ?_
                    refine v_istore C dX5_direction_68 (by decide) ?_
                    exact v_less (qlp 1 (by decide) (by decide) (by omega)) (by repeat (first | exact trivial | refine And.intro rfl ?_))
                  · exact absurd d2 (by omega)
              · exact absurd h33 (by omega)
            · exact absurd hkd h21
          · exact absurd h5 (by decide)
    · rw [if_neg hkd] at hp
      refine v_aload_n C dX5_direction_0 rfl ?_
      refine v_iload_n C dX5_direction_1 rfl ?_
      refine v_callV1_1 C (m_X5_isScatter T B) lk_X5_80 ⟨wt_624, ws_22⟩ 5 rfl dX5_direction_2 ⟨Nat.le_of_ble_eq_true rfl, Nat.le_of_ble_eq_true rfl⟩ (Nat.le_of_ble_eq_true rfl) ⟨Nat.le_of_ble_eq_true rfl, Nat.le_of_ble_eq_true rfl⟩ (by assumption) (cTo_5 (by assumption)) ?_
      refine c_isS_k hM hn hn12 hk ?_
      first | refine v_if_neN C 14 dX5_direction_5 (by omega) (by decide) (fun h5 => ?_) (fun h5 => ?_) | refine v_if_ne C 14 dX5_direction_5 (by decide) (fun h5 => ?_) (fun h5 => ?_)
      · refine v_aload_n C dX5_direction_14 rfl ?_
        refine g_5_1 C (by assumption) (by assumption) wt_534 dX5_direction_15 ?_
        refine v_iload_n C dX5_direction_18 rfl ?_
        first | refine v_ialdN C (by assumption) (by omega) (by omega) dX5_direction_19 ?_ | refine v_iald C (by assumption) (by assumption) dX5_direction_19 ?_
        rw [hk1]
        refine v_iconstN 1 C dX5_direction_20 ?_
        first | refine v_icmp_eqN C 31 dX5_direction_21 (by omega) (by omega) (by decide) (fun h21 => ?_) (fun h21 => ?_) | refine v_icmp_eq C 31 dX5_direction_21 (by decide) (fun h21 => ?_) (fun h21 => ?_)
        · exact absurd h21 hkd
        · refine v_aload_n C dX5_direction_24 rfl ?_
          refine v_bipush (v := -2) C dX5_direction_25 (by decide) ?_
          refine v_callV1_1 C (m_X5_refuse T B) lk_X5_88 ⟨wt_608, ws_19⟩ 5 rfl dX5_direction_27 ⟨Nat.le_of_ble_eq_true rfl, Nat.le_of_ble_eq_true rfl⟩ (Nat.le_of_ble_eq_true rfl) ⟨Nat.le_of_ble_eq_true rfl, Nat.le_of_ble_eq_true rfl⟩ (by assumption) (cTo_5 (by assumption)) ?_
          refine c_X5_refuse (k := 2) hM (by decide) (by decide) ?_
          refine v_iret C Q dX5_direction_30 (Nat.le_of_ble_eq_true rfl) (Nat.le_of_ble_eq_true rfl) ?_
          have w := Mq_rf (k := 2) hR (by decide) hp
          exact w
      · exact absurd h5 (by decide)
