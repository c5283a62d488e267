def wvL (f : Nat → Nat) : Nat → Int64
  | 0 => lN 0
  | n + 1 => wvL f n + (pm1 (f n)).toInt64
def o_wave (st : St) (s : Int32) : Int64 × St := onS st.1 s (rfg st (-1) 1) fun k => if st.2.1 k 1 0 = 3 then rfg st (-2) 2 else if allB (myW st.2.2 (nI (st.2.1 k 4 0 - 1))) (st.2.1 k 2 0) = true then (wvL (fun n => sgn (prt (st.2.1 k) n) (mW st.2.2) (st.2.1 k 2 0)) (st.2.1 k 4 0), st) else rfg st (-3) 3
def s_X4_wave : Sp := fun av z S I J R Post => ∃ (x : Nat), ∃ (st : St), ∃ (s : Int32), av = [.ref x, .int s] ∧ (Rc x st z S I R) ∧ (Ok st) ∧ (Cq x (o_wave st s).2 S I J R (fun z' S' I' J' R' => Post 0 (o_wave st s).1 none z' S' I' J' R'))
theorem c_X4_wave {x : Nat} {st : St} {s : Int32} {z : Nat} {S : MS} {I : MI} {J : MJ} {R : MR} {Post : PT} (hR : Rc x st z S I R) (hO : Ok st) (hp : Cq x (o_wave st s).2 S I J R (fun z' S' I' J' R' => Post 0 (o_wave st s).1 none z' S' I' J' R')) : s_X4_wave [.ref x, .int s] z S I J R Post := ⟨x, st, s, rfl, hR, hO, hp⟩
set_option maxRecDepth 100000 in
set_option maxHeartbeats 1000000 in
theorem m_X4_wave (T : TC) (B : Nat) : Mt T B yX4_wave cX4_wave 6 (some .long) 2 (rmL 3 0 0) s_X4_wave := by
  refine Mt_of rfl (by rintro _ _ _ _ _ _ _ ⟨_, _, _, rfl, -⟩; exact Nat.le_of_ble_eq_true rfl) ?_
  intro X av z S I J R Post h C Q hI
  obtain ⟨x, st, s, rfl, hR, hO, hp⟩ := h
  have hR0 := hR
  obtain ⟨sa, hX, hn, htl, hsc, hord, htr, hrf, hzz⟩ := hR
  have hn12 := hO.1
  have hx := hX.1
  have hT := hX.2.2.2.2.2.2.2.2.1
  have hT1 := hX.2.2.1
  have hT0 := hT.1
  unfold o_wave at hp
  rcases Oo_or s st.1 (by omega) with ho | ⟨k, hk, rfl⟩
  · rw [onS_o ho] at hp
    refine v_aload_n C dX4_wave_0 rfl ?_
    refine v_iload_n C dX4_wave_1 rfl ?_
    refine v_callV1_3 C (m_X4_find T B) lk_X4_65 ⟨wt_194, ws_3⟩ 4 rfl dX4_wave_2 ⟨Nat.le_of_ble_eq_true rfl, Nat.le_of_ble_eq_true rfl⟩ (Nat.le_of_ble_eq_true rfl) ⟨Nat.le_of_ble_eq_true rfl, Nat.le_of_ble_eq_true rfl⟩ (by assumption) (cTo_4 (by assumption)) ?_
    refine c_find_o hX hn hn12 (fun k hk => (hsc k hk).1) ho ?_
    refine v_astore_nN C dX4_wave_5 (by decide) ?_
    refine v_aload_nN C dX4_wave_6 rfl ?_
    refine v_ifnonnullN C dX4_wave_7 ?_
    refine v_aload_n C dX4_wave_10 rfl ?_
    refine v_iconst (v := -1) C dX4_wave_11 (by decide) ?_
    refine v_callV1_2 C (m_X4_refuseLong T B) lk_X4_168 ⟨wt_406, ws_10⟩ 4 rfl dX4_wave_12 ⟨Nat.le_of_ble_eq_true rfl, Nat.le_of_ble_eq_true rfl⟩ (Nat.le_of_ble_eq_true rfl) ⟨Nat.le_of_ble_eq_true rfl, Nat.le_of_ble_eq_true rfl⟩ (by assumption) (cTo_4 (by assumption)) ?_
    refine c_X4_refuseLong (k := 1) hX (by decide) (by decide) ?_
    refine v_lret C Q dX4_wave_15 (Nat.le_of_ble_eq_true rfl) (Nat.le_of_ble_eq_true rfl) ?_
    have w := Cq_rf (k := 1) hR0 (by decide) hp
    exact w
  · obtain ⟨hrk, hSR, hka, hkz⟩ := hsc k hk
    have hSR0 := hSR
    obtain ⟨hSc, hk0, hk1, hk2, hk3, hk4, hk5, hk6, hk7, hk8⟩ := hSR
    have hOk := hO.2.1 k hk
    obtain ⟨o1, o2, o3, o4, o5, o6, o7, o8, o9, o10, o11, o12⟩ := hOk
    have hs := hSc.1
    rw [onS_k hk (by omega)] at hp
    by_cases hkd : st.2.1 k 1 0 = 3
    · rw [if_pos hkd] at hp
      refine v_aload_n C dX4_wave_0 rfl ?_
      refine v_iload_n C dX4_wave_1 rfl ?_
      refine v_callV1_3 C (m_X4_find T B) lk_X4_65 ⟨wt_194, ws_3⟩ 4 rfl dX4_wave_2 ⟨Nat.le_of_ble_eq_true rfl, Nat.le_of_ble_eq_true rfl⟩ (Nat.le_of_ble_eq_true rfl) ⟨Nat.le_of_ble_eq_true rfl, Nat.le_of_ble_eq_true rfl⟩ (by assumption) (cTo_4 (by assumption)) ?_
      refine c_find_k hX hn hn12 (fun k hk => (hsc k hk).1) hk ?_
      refine v_astore_n C dX4_wave_5 (by decide) ?_
      refine v_aload_n C dX4_wave_6 rfl ?_
      refine v_ifnonnull C 16 dX4_wave_7 (by decide) ?_
      refine v_aload_n C dX4_wave_16 rfl ?_
      first | refine gv_2_0 C (by assumption) (by assumption) wt_143 dX4_wave_17 ?_ | refine g_2_0 C (by assumption) wt_143 dX4_wave_17 ?_
      refine v_iconstN 3 C dX4_wave_20 ?_
      first | refine v_icmp_neN C 31 dX4_wave_21 (by omega) (by omega) (by decide) (fun h21 => ?_) (fun h21 => ?_) | refine v_icmp_ne C 31 dX4_wave_21 (by decide) (fun h21 => ?_) (fun h21 => ?_)
      · exact absurd hkd h21
      · refine v_aload_n C dX4_wave_24 rfl ?_
        refine v_bipush (v := -2) C dX4_wave_25 (by decide) ?_
        refine v_callV1_2 C (m_X4_refuseLong T B) lk_X4_168 ⟨wt_406, ws_10⟩ 4 rfl dX4_wave_27 ⟨Nat.le_of_ble_eq_true rfl, Nat.le_of_ble_eq_true rfl⟩ (Nat.le_of_ble_eq_true rfl) ⟨Nat.le_of_ble_eq_true rfl, Nat.le_of_ble_eq_true rfl⟩ (by assumption) (cTo_4 (by assumption)) ?_
        refine c_X4_refuseLong (k := 2) hX (by decide) (by decide) ?_
        refine v_lret C Q dX4_wave_30 (Nat.le_of_ble_eq_true rfl) (Nat.le_of_ble_eq_true rfl) ?_
        have w := Cq_rf (k := 2) hR0 (by decide) hp
        exact w
    · rw [if_neg hkd] at hp
      have eM : allB (fMay I (x + 2) (nI (st.2.1 k 4 0 - 1))) (st.2.1 k 2 0) = allB (myW st.2.2 (nI (st.2.1 k 4 0 - 1))) (st.2.1 k 2 0) := allB_congr (fun j hj => by
        unfold fMay myW; rw [(htr j (by omega)).2.2])
      cases hA : allB (myW st.2.2 (nI (st.2.1 k 4 0 - 1))) (st.2.1 k 2 0) with
      | false =>
        rw [if_neg (by rw [hA]; decide)] at hp
        rw [hA] at eM
        refine v_aload_n C dX4_wave_0 rfl ?_
        refine v_iload_n C dX4_wave_1 rfl ?_
        refine v_callV1_3 C (m_X4_find T B) lk_X4_65 ⟨wt_194, ws_3⟩ 4 rfl dX4_wave_2 ⟨Nat.le_of_ble_eq_true rfl, Nat.le_of_ble_eq_true rfl⟩ (Nat.le_of_ble_eq_true rfl) ⟨Nat.le_of_ble_eq_true rfl, Nat.le_of_ble_eq_true rfl⟩ (by assumption) (cTo_4 (by assumption)) ?_
        refine c_find_k hX hn hn12 (fun k hk => (hsc k hk).1) hk ?_
        refine v_astore_n C dX4_wave_5 (by decide) ?_
        refine v_aload_n C dX4_wave_6 rfl ?_
        refine v_ifnonnull C 16 dX4_wave_7 (by decide) ?_
        refine v_aload_n C dX4_wave_16 rfl ?_
        first | refine gv_2_0 C (by assumption) (by assumption) wt_143 dX4_wave_17 ?_ | refine g_2_0 C (by assumption) wt_143 dX4_wave_17 ?_
        refine v_iconstN 3 C dX4_wave_20 ?_
        first | refine v_icmp_neN C 31 dX4_wave_21 (by omega) (by omega) (by decide) (fun h21 => ?_) (fun h21 => ?_) | refine v_icmp_ne C 31 dX4_wave_21 (by decide) (fun h21 => ?_) (fun h21 => ?_)
        · refine v_aload_n C dX4_wave_31 rfl ?_
          refine g_4_1 C (by assumption) (by assumption) wt_95 dX4_wave_32 ?_
          refine v_aload_n C dX4_wave_35 rfl ?_
          refine v_aload_n C dX4_wave_36 rfl ?_
          first | refine gv_2_2 C (by assumption) (by assumption) wt_150 dX4_wave_37 ?_ | refine g_2_2 C (by assumption) wt_150 dX4_wave_37 ?_
          refine v_iconstN 1 C dX4_wave_40 ?_
          first | refine v_isubN C dX4_wave_41 (by omega) ?_ | refine v_isub C dX4_wave_41 ?_
          refine v_callV2_1 C (m_X3_marksMayBe T B) lk_X4_223 ⟨wt_345, wt_346⟩ 3 rfl dX4_wave_42 ⟨Nat.le_of_ble_eq_true rfl, Nat.le_of_ble_eq_true rfl⟩ (Nat.le_of_ble_eq_true rfl) ⟨Nat.le_of_ble_eq_true rfl, Nat.le_of_ble_eq_true rfl⟩ (by assumption) (cTo_3 (by assumption)) ?_
          refine c_X3_marksMayBe hT hs hk3 o3 ?_
          rw [eM]
          first | refine v_if_neN C 55 dX4_wave_45 (by omega) (by decide) (fun h45 => ?_) (fun h45 => ?_) | refine v_if_ne C 55 dX4_wave_45 (by decide) (fun h45 => ?_) (fun h45 => ?_)
          · exact absurd h45 (by decide)
          · refine v_aload_n C dX4_wave_48 rfl ?_
            refine v_bipush (v := -3) C dX4_wave_49 (by decide) ?_
            refine v_callV1_2 C (m_X4_refuseLong T B) lk_X4_168 ⟨wt_406, ws_10⟩ 4 rfl dX4_wave_51 ⟨Nat.le_of_ble_eq_true rfl, Nat.le_of_ble_eq_true rfl⟩ (Nat.le_of_ble_eq_true rfl) ⟨Nat.le_of_ble_eq_true rfl, Nat.le_of_ble_eq_true rfl⟩ (by assumption) (cTo_4 (by assumption)) ?_
            refine c_X4_refuseLong (k := 3) hX (by decide) (by decide) ?_
            refine v_lret C Q dX4_wave_54 (Nat.le_of_ble_eq_true rfl) (Nat.le_of_ble_eq_true rfl) ?_
            have w := Cq_rf (k := 3) hR0 (by decide) hp
            exact w
        · exact absurd h21 hkd
      | true =>
        rw [if_pos hA] at hp
        rw [hA] at eM
        have hm : ∀ j, j < st.2.1 k 2 0 → I (x + 2 + 3) j = nI (mW st.2.2 j) := fun j hj => ((htr j (by omega)).2.2).trans (my_nI (by omega) (allB_iff.mp hA j hj)).1
        have loop : ∀ n : Nat, n ≤ st.2.1 k 4 0 → V X 0 0 z S I J R 60 [some (.ref x), none, some (.ref (sa k)), some (.long (wvL (fun n => sgn (prt (st.2.1 k) n) (mW st.2.2) (st.2.1 k 2 0)) n)), none, some (.int (nI n))] [] := by
          refine lp_up (st.2.1 k 4 0) ?_
          intro n hn2 ih
          refine v_iload C dX4_wave_60 rfl ?_
          refine v_aload_n C dX4_wave_62 rfl ?_
          first | refine gv_2_2 C (by assumption) (by assumption) wt_150 dX4_wave_63 ?_ | refine g_2_2 C (by assumption) wt_150 dX4_wave_63 ?_
          first | refine v_icmp_geN C 89 dX4_wave_66 (by omega) (by omega) (by decide) (fun h66 => ?_) (fun h66 => ?_) | refine v_icmp_ge C 89 dX4_wave_66 (by decide) (fun h66 => ?_) (fun h66 => ?_)
          · refine v_lload_n C dX4_wave_89 rfl ?_
            refine v_lret C Q dX4_wave_90 (Nat.le_of_ble_eq_true rfl) (Nat.le_of_ble_eq_true rfl) ?_
            obtain rfl : n = st.2.1 k 4 0 := by omega
            have w := Cq_same hR0 hp
            exact w
          · refine v_lload_n C dX4_wave_69 rfl ?_
            refine v_aload_n C dX4_wave_70 rfl ?_
            refine g_4_1 C (by assumption) (by assumption) wt_95 dX4_wave_71 ?_
            refine v_aload_n C dX4_wave_74 rfl ?_
            refine v_iload C dX4_wave_75 rfl ?_
            refine v_callV2_1 C (m_X3_signOf T B) lk_X4_226 ⟨wt_494, wt_495⟩ 3 rfl dX4_wave_77 ⟨Nat.le_of_ble_eq_true rfl, Nat.le_of_ble_eq_true rfl⟩ (Nat.le_of_ble_eq_true rfl) ⟨Nat.le_of_ble_eq_true rfl, Nat.le_of_ble_eq_true rfl⟩ (by assumption) (cTo_3 (by assumption)) ?_
            refine c_X3_signOf (P := prt (st.2.1 k) n) (m := mW st.2.2) hT hSc hk2 hk3 o3 h66 (fun j hj => ⟨hk8 n j h66 hj, prt_lt (hO.2.1 k hk) n j⟩) hm ?_
            refine v_i2l C dX4_wave_80 ?_
            refine v_ladd C dX4_wave_81 ?_
            refine v_lstore_n C dX4_wave_82 (by decide) ?_
            first | refine v_iincN 1 C dX4_wave_83 rfl (by decide) ?_ | refine v_iinc C dX4_wave_83 rfl rfl (by decide) ?_
            refine v_goto C 60 dX4_wave_86 (by decide) ?_
            exact v_less (ih h66) (by repeat (first | exact trivial | refine And.intro rfl ?_))
        refine v_aload_n C dX4_wave_0 rfl ?_
        refine v_iload_n C dX4_wave_1 rfl ?_
        refine v_callV1_3 C (m_X4_find T B) lk_X4_65 ⟨wt_194, ws_3⟩ 4 rfl dX4_wave_2 ⟨Nat.le_of_ble_eq_true rfl, Nat.le_of_ble_eq_true rfl⟩ (Nat.le_of_ble_eq_true rfl) ⟨Nat.le_of_ble_eq_true rfl, Nat.le_of_ble_eq_true rfl⟩ (by assumption) (cTo_4 (by assumption)) ?_
        refine c_find_k hX hn hn12 (fun k hk => (hsc k hk).1) hk ?_
        refine v_astore_n C dX4_wave_5 (by decide) ?_
        refine v_aload_n C dX4_wave_6 rfl ?_
        refine v_ifnonnull C 16 dX4_wave_7 (by decide) ?_
        refine v_aload_n C dX4_wave_16 rfl ?_
        first | refine gv_2_0 C (by assumption) (by assumption) wt_143 dX4_wave_17 ?_ | refine g_2_0 C (by assumption) wt_143 dX4_wave_17 ?_
        refine v_iconstN 3 C dX4_wave_20 ?_
        first | refine v_icmp_neN C 31 dX4_wave_21 (by omega) (by omega) (by decide) (fun h21 => ?_) (fun h21 => ?_) | refine v_icmp_ne C 31 dX4_wave_21 (by decide) (fun h21 => ?_) (fun h21 => ?_)
        · refine v_aload_n C dX4_wave_31 rfl ?_
          refine g_4_1 C (by assumption) (by assumption) wt_95 dX4_wave_32 ?_
          refine v_aload_n C dX4_wave_35 rfl ?_
          refine v_aload_n C dX4_wave_36 rfl ?_
          first | refine gv_2_2 C (by assumption) (by assumption) wt_150 dX4_wave_37 ?_ | refine g_2_2 C (by assumption) wt_150 dX4_wave_37 ?_
          refine v_iconstN 1 C dX4_wave_40 ?_
          first | refine v_isubN C dX4_wave_41 (by omega) ?_ | refine v_isub C dX4_wave_41 ?_
          refine v_callV2_1 C (m_X3_marksMayBe T B) lk_X4_223 ⟨wt_345, wt_346⟩ 3 rfl dX4_wave_42 ⟨Nat.le_of_ble_eq_true rfl, Nat.le_of_ble_eq_true rfl⟩ (Nat.le_of_ble_eq_true rfl) ⟨Nat.le_of_ble_eq_true rfl, Nat.le_of_ble_eq_true rfl⟩ (by assumption) (cTo_3 (by assumption)) ?_
          refine c_X3_marksMayBe hT hs hk3 o3 ?_
          rw [eM]
          first | refine v_if_neN C 55 dX4_wave_45 (by omega) (by decide) (fun h45 => ?_) (fun h45 => ?_) | refine v_if_ne C 55 dX4_wave_45 (by decide) (fun h45 => ?_) (fun h45 => ?_)
          · refine v_lconst (v := lN 0) C dX4_wave_55 rfl ?_
            refine v_lstore_n C dX4_wave_56 (by decide) ?_
            refine v_iconstN 0 C dX4_wave_57 ?_
            refine v_istore C dX4_wave_58 (by decide) ?_
            exact v_less (loop 0 (Nat.zero_le _)) (by repeat (first | exact trivial | refine And.intro rfl ?_))
          · exact absurd h45 (by decide)
        · exact absurd h21 hkd
def smW (D : SD) (m : Nat → Nat) (c : Nat) : Nat := sumN (fun n => prodN (fun j => prt D n j ^ m j) (D 2 0)) c
def exW (m : Nat → Nat) (d : Nat) : Nat := prodN (fun j => m j + 1) d
def sumW (D : SD) (m : Nat → Nat) (w : Nat) : Int64 := if w = 0 then lN (smW D m (D 4 0)) else frc (lN (smW D m (D 4 0) * exW m (D 2 0)) - lN (D 4 0 ^ (sumN m (D 2 0) + 1))) (D 4 0 ^ (sumN m (D 2 0) + 1) * exW m (D 2 0)) (decide (w = 2))
def o_sum (st : St) (s w : Int32) : Int64 × St := onS st.1 s (rfg st (-1) 1) fun k => onS 3 w (rfg st (-2) 2) fun w => if allB (myW st.2.2 (nI 5)) (st.2.1 k 2 0) = true ∧ sumN (mW st.2.2) (st.2.1 k 2 0) ≤ 5 then (sumW (st.2.1 k) (mW st.2.2) w, st) else rfg st (-3) 3
theorem exW_le (m : Nat → Nat) : ∀ d, exW m d ≤ 2 ^ sumN m d
  | 0 => Nat.le_refl 1
  | d + 1 => by
    have ih := exW_le m d
    have h1 : m d + 1 ≤ 2 ^ m d := Nat.lt_two_pow_self
    simp only [exW, prodN, sumN, Nat.pow_add] at ih ⊢
    exact Nat.mul_le_mul ih h1
theorem exW_pos (m : Nat → Nat) : ∀ d, 0 < exW m d
  | 0 => Nat.one_pos
  | d + 1 => Nat.mul_pos (exW_pos m d) (Nat.succ_pos _)
theorem ppw_le {P m : Nat → Nat} {c : Nat} (hc : 1 ≤ c) : ∀ {d : Nat}, (∀ j, j < d → P j ≤ c) → prodN (fun j => P j ^ m j) d ≤ c ^ sumN m d
  | 0, _ => Nat.le_refl 1
  | d + 1, h => by
    have ih := ppw_le (m := m) hc (d := d) (fun j hj => h j (by omega))
    simp only [prodN, sumN, Nat.pow_add]
    exact Nat.mul_le_mul ih (Nat.pow_le_pow_left (h d (by omega)) _)
theorem smW_le {D : SD} {m : Nat → Nat} (hO : OkD D) (c : Nat) : smW D m c ≤ c * D 4 0 ^ sumN m (D 2 0) := sumN_le (fun n _ => ppw_le hO.2.2.2.2.1 (fun j _ => Nat.le_of_lt (prt_lt hO n j)))
theorem sum_bd {D : SD} {m : Nat → Nat} (hO : OkD D) (hs : sumN m (D 2 0) ≤ 5) : smW D m (D 4 0) * exW m (D 2 0) ≤ 9007199254740992 ∧ D 4 0 ^ (sumN m (D 2 0) + 1) ≤ 281474976710656 ∧ D 4 0 ^ (sumN m (D 2 0) + 1) * exW m (D 2 0) ≤ 9007199254740992 ∧ 0 < D 4 0 ^ (sumN m (D 2 0) + 1) * exW m (D 2 0) := by
  have h1 := smW_le (m := m) hO (D 4 0)
  have h2 : D 4 0 ^ (sumN m (D 2 0) + 1) ≤ 281474976710656 := c48 hO.2.2.2.2.2.1 (by omega)
  have h3 := exW_le m (D 2 0)
  have h4 : 2 ^ sumN m (D 2 0) ≤ 2 ^ 5 := Nat.pow_le_pow_right (by decide) hs
  have h5 : D 4 0 * D 4 0 ^ sumN m (D 2 0) = D 4 0 ^ (sumN m (D 2 0) + 1) := by rw [Nat.pow_succ, Nat.mul_comm]
  rw [h5] at h1
  have h6 : exW m (D 2 0) ≤ 32 := Nat.le_trans h3 h4
  refine ⟨?_, h2, ?_, Nat.mul_pos (c_pos hO.2.2.2.2.1 _) (exW_pos _ _)⟩
  · exact Nat.le_trans (Nat.mul_le_mul (Nat.le_trans h1 h2) h6) (by decide)
  · exact Nat.le_trans (Nat.mul_le_mul h2 h6) (by decide)
def s_X4_sum : Sp := fun av z S I J R Post => ∃ (x : Nat), ∃ (st : St), ∃ (s w : Int32), av = [.ref x, .int s, .int w] ∧ (Rc x st z S I R) ∧ (Ok st) ∧ (Cq x (o_sum st s w).2 S I J R (fun z' S' I' J' R' => Post 0 (o_sum st s w).1 none z' S' I' J' R'))
theorem c_X4_sum {x : Nat} {st : St} {s w : Int32} {z : Nat} {S : MS} {I : MI} {J : MJ} {R : MR} {Post : PT} (hR : Rc x st z S I R) (hO : Ok st) (hp : Cq x (o_sum st s w).2 S I J R (fun z' S' I' J' R' => Post 0 (o_sum st s w).1 none z' S' I' J' R')) : s_X4_sum [.ref x, .int s, .int w] z S I J R Post := ⟨x, st, s, w, rfl, hR, hO, hp⟩
set_option maxRecDepth 100000 in
set_option maxHeartbeats 2000000 in
theorem m_X4_sum (T : TC) (B : Nat) : Mt T B yX4_sum cX4_sum 10 (some .long) 2 (rmL 3 0 0) s_X4_sum := by
  refine Mt_of rfl (by rintro _ _ _ _ _ _ _ ⟨_, _, _, _, rfl, -⟩; exact Nat.le_of_ble_eq_true rfl) ?_
  intro X av z S I J R Post h C Q hI
  obtain ⟨x, st, s, w, rfl, hR, hO, hp⟩ := h
  have hR0 := hR
  obtain ⟨sa, hX, hn, htl, hsc, hord, htr, hrf, hzz⟩ := hR
  have hn12 := hO.1
  have hx := hX.1
  have hT := hX.2.2.2.2.2.2.2.2.1
  have hT1 := hX.2.2.1
  have hT0 := hT.1
  have hTm := hT.2.2.2.1
  have hTs := hT.2.2.2.2.2.2
  unfold o_sum at hp
  rcases Oo_or s st.1 (by omega) with ho | ⟨k, hk, rfl⟩
  · rw [onS_o ho] at hp
    refine v_aload_n C dX4_sum_0 rfl ?_
    refine v_iload_n C dX4_sum_1 rfl ?_
    refine v_callV1_3 C (m_X4_find T B) lk_X4_65 ⟨wt_194, ws_3⟩ 4 rfl dX4_sum_2 ⟨Nat.le_of_ble_eq_true rfl, Nat.le_of_ble_eq_true rfl⟩ (Nat.le_of_ble_eq_true rfl) ⟨Nat.le_of_ble_eq_true rfl, Nat.le_of_ble_eq_true rfl⟩ (by assumption) (cTo_4 (by assumption)) ?_
    refine c_find_o hX hn hn12 (fun k hk => (hsc k hk).1) ho ?_
    refine v_astore_nN C dX4_sum_5 (by decide) ?_
    refine v_aload_nN C dX4_sum_6 rfl ?_
    refine v_ifnonnullN C dX4_sum_7 ?_
    refine v_aload_n C dX4_sum_10 rfl ?_
    refine v_iconst (v := -1) C dX4_sum_11 (by decide) ?_
    refine v_callV1_2 C (m_X4_refuseLong T B) lk_X4_168 ⟨wt_406, ws_10⟩ 4 rfl dX4_sum_12 ⟨Nat.le_of_ble_eq_true rfl, Nat.le_of_ble_eq_true rfl⟩ (Nat.le_of_ble_eq_true rfl) ⟨Nat.le_of_ble_eq_true rfl, Nat.le_of_ble_eq_true rfl⟩ (by assumption) (cTo_4 (by assumption)) ?_
    refine c_X4_refuseLong (k := 1) hX (by decide) (by decide) ?_
    refine v_lret C Q dX4_sum_15 (Nat.le_of_ble_eq_true rfl) (Nat.le_of_ble_eq_true rfl) ?_
    have w := Cq_rf (k := 1) hR0 (by decide) hp
    exact w
  · obtain ⟨hrk, hSR, hka, hkz⟩ := hsc k hk
    have hSR0 := hSR
    obtain ⟨hSc, hk0, hk1, hk2, hk3, hk4, hk5, hk6, hk7, hk8⟩ := hSR
    have hOk := hO.2.1 k hk
    obtain ⟨o1, o2, o3, o4, o5, o6, o7, o8, o9, o10, o11, o12⟩ := hOk
    have hs := hSc.1
    rw [onS_k hk (by omega)] at hp
    rcases Oo_or w 3 (by omega) with hq | ⟨v, hv, rfl⟩
    · rw [onS_o hq] at hp
      refine v_aload_n C dX4_sum_0 rfl ?_
      refine v_iload_n C dX4_sum_1 rfl ?_
      refine v_callV1_3 C (m_X4_find T B) lk_X4_65 ⟨wt_194, ws_3⟩ 4 rfl dX4_sum_2 ⟨Nat.le_of_ble_eq_true rfl, Nat.le_of_ble_eq_true rfl⟩ (Nat.le_of_ble_eq_true rfl) ⟨Nat.le_of_ble_eq_true rfl, Nat.le_of_ble_eq_true rfl⟩ (by assumption) (cTo_4 (by assumption)) ?_
      refine c_find_k hX hn hn12 (fun k hk => (hsc k hk).1) hk ?_
      refine v_astore_n C dX4_sum_5 (by decide) ?_
      refine v_aload_n C dX4_sum_6 rfl ?_
      refine v_ifnonnull C 16 dX4_sum_7 (by decide) ?_
      refine v_iload_n C dX4_sum_16 rfl ?_
      refine v_if_lt C 25 dX4_sum_17 (by decide) (fun h17 => ?_) (fun h17 => ?_)
      · refine v_aload_n C dX4_sum_25 rfl ?_
        refine v_bipush (v := -2) C dX4_sum_26 (by decide) ?_
        refine v_callV1_2 C (m_X4_refuseLong T B) lk_X4_168 ⟨wt_406, ws_10⟩ 4 rfl dX4_sum_28 ⟨Nat.le_of_ble_eq_true rfl, Nat.le_of_ble_eq_true rfl⟩ (Nat.le_of_ble_eq_true rfl) ⟨Nat.le_of_ble_eq_true rfl, Nat.le_of_ble_eq_true rfl⟩ (by assumption) (cTo_4 (by assumption)) ?_
        refine c_X4_refuseLong (k := 2) hX (by decide) (by decide) ?_
        refine v_lret C Q dX4_sum_31 (Nat.le_of_ble_eq_true rfl) (Nat.le_of_ble_eq_true rfl) ?_
        have w := Cq_rf (k := 2) hR0 (by decide) hp
        exact w
      · refine v_iload_n C dX4_sum_20 rfl ?_
        refine v_iconstN 2 C dX4_sum_21 ?_
        refine v_icmp_le C 32 dX4_sum_22 (by decide) (fun h22 => ?_) (fun h22 => ?_)
        · exact absurd h22 (Oo_le (by decide) hq h17)
        · refine v_aload_n C dX4_sum_25 rfl ?_
          refine v_bipush (v := -2) C dX4_sum_26 (by decide) ?_
          refine v_callV1_2 C (m_X4_refuseLong T B) lk_X4_168 ⟨wt_406, ws_10⟩ 4 rfl dX4_sum_28 ⟨Nat.le_of_ble_eq_true rfl, Nat.le_of_ble_eq_true rfl⟩ (Nat.le_of_ble_eq_true rfl) ⟨Nat.le_of_ble_eq_true rfl, Nat.le_of_ble_eq_true rfl⟩ (by assumption) (cTo_4 (by assumption)) ?_
          refine c_X4_refuseLong (k := 2) hX (by decide) (by decide) ?_
          refine v_lret C Q dX4_sum_31 (Nat.le_of_ble_eq_true rfl) (Nat.le_of_ble_eq_true rfl) ?_
          have w := Cq_rf (k := 2) hR0 (by decide) hp
          exact w
    · rw [onS_k hv (by omega)] at hp
      have eM : allB (fMay I (x + 2) (nI 5)) (st.2.1 k 2 0) = allB (myW st.2.2 (nI 5)) (st.2.1 k 2 0) := allB_congr (fun j hj => by
        unfold fMay myW; rw [(htr j (by omega)).2.2])
      cases hA : allB (myW st.2.2 (nI 5)) (st.2.1 k 2 0) with
      | false =>
        rw [if_neg (by rw [hA]; exact fun q => absurd q.1 (by decide))] at hp
        rw [hA] at eM
        refine v_aload_n C dX4_sum_0 rfl ?_
        refine v_iload_n C dX4_sum_1 rfl ?_
        refine v_callV1_3 C (m_X4_find T B) lk_X4_65 ⟨wt_194, ws_3⟩ 4 rfl dX4_sum_2 ⟨Nat.le_of_ble_eq_true rfl, Nat.le_of_ble_eq_true rfl⟩ (Nat.le_of_ble_eq_true rfl) ⟨Nat.le_of_ble_eq_true rfl, Nat.le_of_ble_eq_true rfl⟩ (by assumption) (cTo_4 (by assumption)) ?_
        refine c_find_k hX hn hn12 (fun k hk => (hsc k hk).1) hk ?_
        refine v_astore_n C dX4_sum_5 (by decide) ?_
        refine v_aload_n C dX4_sum_6 rfl ?_
        refine v_ifnonnull C 16 dX4_sum_7 (by decide) ?_
        refine v_iload_n C dX4_sum_16 rfl ?_
        first | refine v_if_ltN C 25 dX4_sum_17 (by omega) (by decide) (fun h17 => ?_) (fun h17 => ?_) | refine v_if_lt C 25 dX4_sum_17 (by decide) (fun h17 => ?_) (fun h17 => ?_)
        · exact absurd h17 (fun q => q)
        · refine v_iload_n C dX4_sum_20 rfl ?_
          refine v_iconstN 2 C dX4_sum_21 ?_
          first | refine v_icmp_leN C 32 dX4_sum_22 (by omega) (by omega) (by decide) (fun h22 => ?_) (fun h22 => ?_) | refine v_icmp_le C 32 dX4_sum_22 (by decide) (fun h22 => ?_) (fun h22 => ?_)
          · refine v_aload_n C dX4_sum_32 rfl ?_
            refine g_4_1 C (by assumption) (by assumption) wt_95 dX4_sum_33 ?_
            refine v_aload_n C dX4_sum_36 rfl ?_
            refine v_iconstN 5 C dX4_sum_37 ?_
            refine v_callV2_1 C (m_X3_marksMayBe T B) lk_X4_223 ⟨wt_345, wt_346⟩ 3 rfl dX4_sum_38 ⟨Nat.le_of_ble_eq_true rfl, Nat.le_of_ble_eq_true rfl⟩ (Nat.le_of_ble_eq_true rfl) ⟨Nat.le_of_ble_eq_true rfl, Nat.le_of_ble_eq_true rfl⟩ (by assumption) (cTo_3 (by assumption)) ?_
            refine c_X3_marksMayBe hT hs hk3 o3 ?_
            rw [eM]
            first | refine v_if_eqN C 56 dX4_sum_41 (by omega) (by decide) (fun h41 => ?_) (fun h41 => ?_) | refine v_if_eq C 56 dX4_sum_41 (by decide) (fun h41 => ?_) (fun h41 => ?_)
            · refine v_aload_n C dX4_sum_56 rfl ?_
              refine v_bipush (v := -3) C dX4_sum_57 (by decide) ?_
              refine v_callV1_2 C (m_X4_refuseLong T B) lk_X4_168 ⟨wt_406, ws_10⟩ 4 rfl dX4_sum_59 ⟨Nat.le_of_ble_eq_true rfl, Nat.le_of_ble_eq_true rfl⟩ (Nat.le_of_ble_eq_true rfl) ⟨Nat.le_of_ble_eq_true rfl, Nat.le_of_ble_eq_true rfl⟩ (by assumption) (cTo_4 (by assumption)) ?_
              refine c_X4_refuseLong (k := 3) hX (by decide) (by decide) ?_
              refine v_lret C Q dX4_sum_62 (Nat.le_of_ble_eq_true rfl) (Nat.le_of_ble_eq_true rfl) ?_
              have w := Cq_rf (k := 3) hR0 (by decide) hp
              exact w
            · exact absurd rfl h41
          · exact absurd h22 (by omega)
      | true =>
        rw [hA] at eM
        have hm : ∀ j, j < st.2.1 k 2 0 → I (x + 2 + 3) j = nI (mW st.2.2 j) ∧ mW st.2.2 j ≤ 5 := fun j hj => ⟨((htr j (by omega)).2.2).trans (my_nI (by omega) (allB_iff.mp hA j hj)).1, (my_nI (by omega) (allB_iff.mp hA j hj)).2⟩
        have hsl := sumN_le (f := mW st.2.2) (n := st.2.1 k 2 0) (M := 5) (fun j hj => (hm j hj).2)
        by_cases h5 : sumN (mW st.2.2) (st.2.1 k 2 0) ≤ 5
        · rw [if_pos ⟨hA, h5⟩] at hp
          obtain ⟨b1, b2', b3, b4⟩ := sum_bd (m := mW st.2.2) (hO.2.1 k hk) h5
          generalize hsm : smW (st.2.1 k) (mW st.2.2) (st.2.1 k 4 0) = sm at *
          have fin : ¬ v = 0 → V X 0 0 z S I J R 145 [some (.ref x), none, some (.int (nI v)), some (.ref (sa k)), some (.long (lN sm)), none, some (.long (lN (exW (mW st.2.2) (st.2.1 k 2 0)))), none, none, none] [] := by
            intro hv0
            unfold sumW at hp
            rw [if_neg hv0, hsm] at hp
            refine v_aload_n C dX4_sum_145 rfl ?_
            first | refine gv_2_2 C (by assumption) (by assumption) wt_150 dX4_sum_146 ?_ | refine g_2_2 C (by assumption) wt_150 dX4_sum_146 ?_
            first | refine v_i2lN C dX4_sum_149 (by omega) ?_ | refine v_i2l C dX4_sum_149 ?_
            refine v_aload_n C dX4_sum_150 rfl ?_
            refine g_4_1 C (by assumption) (by assumption) wt_95 dX4_sum_151 ?_
            refine v_aload_n C dX4_sum_154 rfl ?_
            refine v_callV1_1 C (m_X3_markSum T B) lk_X4_241 ⟨wt_349, wt_350⟩ 3 rfl dX4_sum_155 ⟨Nat.le_of_ble_eq_true rfl, Nat.le_of_ble_eq_true rfl⟩ (Nat.le_of_ble_eq_true rfl) ⟨Nat.le_of_ble_eq_true rfl, Nat.le_of_ble_eq_true rfl⟩ (by assumption) (cTo_3 (by assumption)) ?_
            refine c_X3_markSum hT hs hk3 o3 (fun j hj => (hm j hj).1) ?_
            refine v_iconstN 1 C dX4_sum_158 ?_
            first | refine v_iaddN C dX4_sum_159 ?_ | refine v_iadd C dX4_sum_159 ?_
            refine v_callS2_2 C (m_X4_powerOf T B) lk_X4_180 wt_418 dX4_sum_160 ⟨Nat.le_of_ble_eq_true rfl, Nat.le_of_ble_eq_true rfl⟩ (Nat.le_of_ble_eq_true rfl) ⟨Nat.le_of_ble_eq_true rfl, Nat.le_of_ble_eq_true rfl⟩ ?_
            refine c_X4_powerOf (by omega) ?_
            refine v_lstore C dX4_sum_163 (by decide) ?_
            refine v_lload C dX4_sum_165 rfl ?_
            refine v_lload C dX4_sum_167 rfl ?_
            first | refine v_lmulN C dX4_sum_169 ?_ | refine v_lmul C dX4_sum_169 ?_
            refine v_lload C dX4_sum_170 rfl ?_
            refine v_lsub C dX4_sum_172 ?_
            refine v_lload C dX4_sum_173 rfl ?_
            refine v_lload C dX4_sum_175 rfl ?_
            first | refine v_lmulN C dX4_sum_177 ?_ | refine v_lmul C dX4_sum_177 ?_
            refine v_iload_n C dX4_sum_178 rfl ?_
            refine v_iconstN 2 C dX4_sum_179 ?_
            first | refine v_icmp_neN C 187 dX4_sum_180 (by omega) (by omega) (by decide) (fun h180 => ?_) (fun h180 => ?_) | refine v_icmp_ne C 187 dX4_sum_180 (by decide) (fun h180 => ?_) (fun h180 => ?_)
            · rw [decide_eq_false h180] at hp
              refine v_iconstN 0 C dX4_sum_187 ?_
              refine v_callS3_2 C (m_X4_fraction T B) lk_X4_190 wt_424 dX4_sum_188 ⟨Nat.le_of_ble_eq_true rfl, Nat.le_of_ble_eq_true rfl⟩ (Nat.le_of_ble_eq_true rfl) ⟨Nat.le_of_ble_eq_true rfl, Nat.le_of_ble_eq_true rfl⟩ ?_
              refine c_X4_fraction (by rw [sub_I (by omega) (by omega)]; omega) (by omega) b4 (by omega) ?_
              refine v_lret C Q dX4_sum_191 (Nat.le_of_ble_eq_true rfl) (Nat.le_of_ble_eq_true rfl) ?_
              have w := Cq_same hR0 hp
              exact w
            · rw [decide_eq_true h180] at hp
              refine v_iconstN 1 C dX4_sum_183 ?_
              refine v_goto C 188 dX4_sum_184 (by decide) ?_
              refine v_callS3_2 C (m_X4_fraction T B) lk_X4_190 wt_424 dX4_sum_188 ⟨Nat.le_of_ble_eq_true rfl, Nat.le_of_ble_eq_true rfl⟩ (Nat.le_of_ble_eq_true rfl) ⟨Nat.le_of_ble_eq_true rfl, Nat.le_of_ble_eq_true rfl⟩ ?_
              refine c_X4_fraction (by rw [sub_I (by omega) (by omega)]; omega) (by omega) b4 (by omega) ?_
              refine v_lret C Q dX4_sum_191 (Nat.le_of_ble_eq_true rfl) (Nat.le_of_ble_eq_true rfl) ?_
              have w := Cq_same hR0 hp
              exact w
          have size : ¬ v = 0 → ∀ j : Nat, j ≤ st.2.1 k 2 0 → V X 0 0 z S I J R 112 [some (.ref x), none, some (.int (nI v)), some (.ref (sa k)), some (.long (lN sm)), none, some (.long (lN (exW (mW st.2.2) j))), none, some (.int (nI j)), none] [] := by
            intro hv0
            refine lp_up (st.2.1 k 2 0) ?_
            intro j hj ih
            refine v_iload C dX4_sum_112 rfl ?_
            refine v_aload_n C dX4_sum_114 rfl ?_
            first | refine gv_2_3 C (by assumption) (by assumption) wt_156 dX4_sum_115 ?_ | refine g_2_3 C (by assumption) wt_156 dX4_sum_115 ?_
            first | refine v_icmp_geN C 145 dX4_sum_118 (by omega) (by omega) (by decide) (fun h118 => ?_) (fun h118 => ?_) | refine v_icmp_ge C 145 dX4_sum_118 (by decide) (fun h118 => ?_) (fun h118 => ?_)
            · obtain rfl : j = st.2.1 k 2 0 := by omega
              exact v_less (fin hv0) (by repeat (first | exact trivial | refine And.intro rfl ?_))
            · obtain ⟨q1, q2⟩ := hm j h118
              refine v_lload C dX4_sum_121 rfl ?_
              refine v_aload_n C dX4_sum_123 rfl ?_
              refine g_4_1 C (by assumption) (by assumption) wt_95 dX4_sum_124 ?_
              refine g_3_2 C (by assumption) (by assumption) wt_32 dX4_sum_127 ?_
              refine v_iload C dX4_sum_130 rfl ?_
              first | refine v_ialdN C (by assumption) (by omega) (by omega) dX4_sum_132 ?_ | refine v_iald C (by assumption) (by assumption) dX4_sum_132 ?_
              rw [q1]
              refine v_iconstN 1 C dX4_sum_133 ?_
              first | refine v_iaddN C dX4_sum_134 ?_ | refine v_iadd C dX4_sum_134 ?_
              first | refine v_i2lN C dX4_sum_135 (by omega) ?_ | refine v_i2l C dX4_sum_135 ?_
              first | refine v_lmulN C dX4_sum_136 ?_ | refine v_lmul C dX4_sum_136 ?_
              refine v_lstore C dX4_sum_137 (by decide) ?_
              first | refine v_iincN 1 C dX4_sum_139 rfl (by decide) ?_ | refine v_iinc C dX4_sum_139 rfl rfl (by decide) ?_
              refine v_goto C 112 dX4_sum_142 (by decide) ?_
              exact v_less (ih h118) (by repeat (first | exact trivial | refine And.intro rfl ?_))
          have aft : V X 0 0 z S I J R 99 [some (.ref x), none, some (.int (nI v)), some (.ref (sa k)), some (.long (lN sm)), none, none, none, none, none] [] := by
            refine v_iload_n C dX4_sum_99 rfl ?_
            first | refine v_if_neN C 106 dX4_sum_100 (by omega) (by decide) (fun h100 => ?_) (fun h100 => ?_) | refine v_if_ne C 106 dX4_sum_100 (by decide) (fun h100 => ?_) (fun h100 => ?_)
            · refine v_lconst (v := lN 1) C dX4_sum_106 rfl ?_
              refine v_lstore C dX4_sum_107 (by decide) ?_
              refine v_iconstN 0 C dX4_sum_109 ?_
              refine v_istore C dX4_sum_110 (by decide) ?_
              exact v_less (size h100 0 (Nat.zero_le _)) (by repeat (first | exact trivial | refine And.intro rfl ?_))
            · refine v_lload C dX4_sum_103 rfl ?_
              refine v_lret C Q dX4_sum_105 (Nat.le_of_ble_eq_true rfl) (Nat.le_of_ble_eq_true rfl) ?_
              rw [show sumW (st.2.1 k) (mW st.2.2) v = lN sm from by unfold sumW; rw [if_pos h100, hsm]] at hp
              have w := Cq_same hR0 hp
              exact w
          have loop : ∀ n : Nat, n ≤ st.2.1 k 4 0 → V X 0 0 z S I J R 69 [some (.ref x), none, some (.int (nI v)), some (.ref (sa k)), some (.long (lN (smW (st.2.1 k) (mW st.2.2) n))), none, some (.int (nI n)), none, none, none] [] := by
            refine lp_up (st.2.1 k 4 0) ?_
            intro n hn2 ih
            refine v_iload C dX4_sum_69 rfl ?_
            refine v_aload_n C dX4_sum_71 rfl ?_
            first | refine gv_2_2 C (by assumption) (by assumption) wt_150 dX4_sum_72 ?_ | refine g_2_2 C (by assumption) wt_150 dX4_sum_72 ?_
            first | refine v_icmp_geN C 99 dX4_sum_75 (by omega) (by omega) (by decide) (fun h75 => ?_) (fun h75 => ?_) | refine v_icmp_ge C 99 dX4_sum_75 (by decide) (fun h75 => ?_) (fun h75 => ?_)
            · obtain rfl : n = st.2.1 k 4 0 := by omega
              rw [hsm]
              exact v_less aft (by repeat (first | exact trivial | refine And.intro rfl ?_))
            · refine v_lload C dX4_sum_78 rfl ?_
              refine v_aload_n C dX4_sum_80 rfl ?_
              refine g_4_1 C (by assumption) (by assumption) wt_95 dX4_sum_81 ?_
              refine v_aload_n C dX4_sum_84 rfl ?_
              refine v_iload C dX4_sum_85 rfl ?_
              refine v_callV2_2 C (m_X3_productOfPowers T B) lk_X4_244 ⟨wt_518, wt_519⟩ 3 rfl dX4_sum_87 ⟨Nat.le_of_ble_eq_true rfl, Nat.le_of_ble_eq_true rfl⟩ (Nat.le_of_ble_eq_true rfl) ⟨Nat.le_of_ble_eq_true rfl, Nat.le_of_ble_eq_true rfl⟩ (by assumption) (cTo_3 (by assumption)) ?_
              refine c_X3_productOfPowers (P := prt (st.2.1 k) n) (m := mW st.2.2) hT hSc hk2 hk3 o3 h75 (fun j hj => ⟨hk8 n j h75 hj, prt_lt (hO.2.1 k hk) n j⟩) (fun j hj => ⟨(hm j hj).1, by have := (hm j hj).2; omega⟩) ?_
              first | refine v_laddN C dX4_sum_90 ?_ | refine v_ladd C dX4_sum_90 ?_
              refine v_lstore C dX4_sum_91 (by decide) ?_
              first | refine v_iincN 1 C dX4_sum_93 rfl (by decide) ?_ | refine v_iinc C dX4_sum_93 rfl rfl (by decide) ?_
              refine v_goto C 69 dX4_sum_96 (by decide) ?_
              exact v_less (ih h75) (by repeat (first | exact trivial | refine And.intro rfl ?_))
          refine v_aload_n C dX4_sum_0 rfl ?_
          refine v_iload_n C dX4_sum_1 rfl ?_
          refine v_callV1_3 C (m_X4_find T B) lk_X4_65 ⟨wt_194, ws_3⟩ 4 rfl dX4_sum_2 ⟨Nat.le_of_ble_eq_true rfl, Nat.le_of_ble_eq_true rfl⟩ (Nat.le_of_ble_eq_true rfl) ⟨Nat.le_of_ble_eq_true rfl, Nat.le_of_ble_eq_true rfl⟩ (by assumption) (cTo_4 (by assumption)) ?_
          refine c_find_k hX hn hn12 (fun k hk => (hsc k hk).1) hk ?_
          refine v_astore_n C dX4_sum_5 (by decide) ?_
          refine v_aload_n C dX4_sum_6 rfl ?_
          refine v_ifnonnull C 16 dX4_sum_7 (by decide) ?_
          refine v_iload_n C dX4_sum_16 rfl ?_
          first | refine v_if_ltN C 25 dX4_sum_17 (by omega) (by decide) (fun h17 => ?_) (fun h17 => ?_) | refine v_if_lt C 25 dX4_sum_17 (by decide) (fun h17 => ?_) (fun h17 => ?_)
          · exact absurd h17 (fun q => q)
          · refine v_iload_n C dX4_sum_20 rfl ?_
            refine v_iconstN 2 C dX4_sum_21 ?_
            first | refine v_icmp_leN C 32 dX4_sum_22 (by omega) (by omega) (by decide) (fun h22 => ?_) (fun h22 => ?_) | refine v_icmp_le C 32 dX4_sum_22 (by decide) (fun h22 => ?_) (fun h22 => ?_)
            · refine v_aload_n C dX4_sum_32 rfl ?_
              refine g_4_1 C (by assumption) (by assumption) wt_95 dX4_sum_33 ?_
              refine v_aload_n C dX4_sum_36 rfl ?_
              refine v_iconstN 5 C dX4_sum_37 ?_
              refine v_callV2_1 C (m_X3_marksMayBe T B) lk_X4_223 ⟨wt_345, wt_346⟩ 3 rfl dX4_sum_38 ⟨Nat.le_of_ble_eq_true rfl, Nat.le_of_ble_eq_true rfl⟩ (Nat.le_of_ble_eq_true rfl) ⟨Nat.le_of_ble_eq_true rfl, Nat.le_of_ble_eq_true rfl⟩ (by assumption) (cTo_3 (by assumption)) ?_
              refine c_X3_marksMayBe hT hs hk3 o3 ?_
              rw [eM]
              first | refine v_if_eqN C 56 dX4_sum_41 (by omega) (by decide) (fun h41 => ?_) (fun h41 => ?_) | refine v_if_eq C 56 dX4_sum_41 (by decide) (fun h41 => ?_) (fun h41 => ?_)
              · exact absurd h41 (by decide)
              · refine v_aload_n C dX4_sum_44 rfl ?_
                refine g_4_1 C (by assumption) (by assumption) wt_95 dX4_sum_45 ?_
                refine v_aload_n C dX4_sum_48 rfl ?_
                refine v_callV1_1 C (m_X3_markSum T B) lk_X4_241 ⟨wt_349, wt_350⟩ 3 rfl dX4_sum_49 ⟨Nat.le_of_ble_eq_true rfl, Nat.le_of_ble_eq_true rfl⟩ (Nat.le_of_ble_eq_true rfl) ⟨Nat.le_of_ble_eq_true rfl, Nat.le_of_ble_eq_true rfl⟩ (by assumption) (cTo_3 (by assumption)) ?_
                refine c_X3_markSum hT hs hk3 o3 (fun j hj => (hm j hj).1) ?_
                refine v_iconstN 5 C dX4_sum_52 ?_
                first | refine v_icmp_leN C 63 dX4_sum_53 (by omega) (by omega) (by decide) (fun h53 => ?_) (fun h53 => ?_) | refine v_icmp_le C 63 dX4_sum_53 (by decide) (fun h53 => ?_) (fun h53 => ?_)
                · refine v_lconst (v := lN 0) C dX4_sum_63 rfl ?_
                  refine v_lstore C dX4_sum_64 (by decide) ?_
                  refine v_iconstN 0 C dX4_sum_66 ?_
                  refine v_istore C dX4_sum_67 (by decide) ?_
                  exact v_less (loop 0 (Nat.zero_le _)) (by repeat (first | exact trivial | refine And.intro rfl ?_))
                · exact absurd h53 (by omega)
            · exact absurd h22 (by omega)
        · rw [if_neg (fun q => h5 q.2)] at hp
          refine v_aload_n C dX4_sum_0 rfl ?_
          refine v_iload_n C dX4_sum_1 rfl ?_
          refine v_callV1_3 C (m_X4_find T B) lk_X4_65 ⟨wt_194, ws_3⟩ 4 rfl dX4_sum_2 ⟨Nat.le_of_ble_eq_true rfl, Nat.le_of_ble_eq_true rfl⟩ (Nat.le_of_ble_eq_true rfl) ⟨Nat.le_of_ble_eq_true rfl, Nat.le_of_ble_eq_true rfl⟩ (by assumption) (cTo_4 (by assumption)) ?_
          refine c_find_k hX hn hn12 (fun k hk => (hsc k hk).1) hk ?_
          refine v_astore_n C dX4_sum_5 (by decide) ?_
          refine v_aload_n C dX4_sum_6 rfl ?_
          refine v_ifnonnull C 16 dX4_sum_7 (by decide) ?_
          refine v_iload_n C dX4_sum_16 rfl ?_
          first | refine v_if_ltN C 25 dX4_sum_17 (by omega) (by decide) (fun h17 => ?_) (fun h17 => ?_) | refine v_if_lt C 25 dX4_sum_17 (by decide) (fun h17 => ?_) (fun h17 => ?_)
          · exact absurd h17 (fun q => q)
          · refine v_iload_n C dX4_sum_20 rfl ?_
            refine v_iconstN 2 C dX4_sum_21 ?_
            first | refine v_icmp_leN C 32 dX4_sum_22 (by omega) (by omega) (by decide) (fun h22 => ?_) (fun h22 => ?_) | refine v_icmp_le C 32 dX4_sum_22 (by decide) (fun h22 => ?_) (fun h22 => ?_)
            · refine v_aload_n C dX4_sum_32 rfl ?_
              refine g_4_1 C (by assumption) (by assumption) wt_95 dX4_sum_33 ?_
              refine v_aload_n C dX4_sum_36 rfl ?_
              refine v_iconstN 5 C dX4_sum_37 ?_
              refine v_callV2_1 C (m_X3_marksMayBe T B) lk_X4_223 ⟨wt_345, wt_346⟩ 3 rfl dX4_sum_38 ⟨Nat.le_of_ble_eq_true rfl, Nat.le_of_ble_eq_true rfl⟩ (Nat.le_of_ble_eq_true rfl) ⟨Nat.le_of_ble_eq_true rfl, Nat.le_of_ble_eq_true rfl⟩ (by assumption) (cTo_3 (by assumption)) ?_
              refine c_X3_marksMayBe hT hs hk3 o3 ?_
              rw [eM]
              first | refine v_if_eqN C 56 dX4_sum_41 (by omega) (by decide) (fun h41 => ?_) (fun h41 => ?_) | refine v_if_eq C 56 dX4_sum_41 (by decide) (fun h41 => ?_) (fun h41 => ?_)
              · exact absurd h41 (by decide)
              · refine v_aload_n C dX4_sum_44 rfl ?_
                refine g_4_1 C (by assumption) (by assumption) wt_95 dX4_sum_45 ?_
                refine v_aload_n C dX4_sum_48 rfl ?_
                refine v_callV1_1 C (m_X3_markSum T B) lk_X4_241 ⟨wt_349, wt_350⟩ 3 rfl dX4_sum_49 ⟨Nat.le_of_ble_eq_true rfl, Nat.le_of_ble_eq_true rfl⟩ (Nat.le_of_ble_eq_true rfl) ⟨Nat.le_of_ble_eq_true rfl, Nat.le_of_ble_eq_true rfl⟩ (by assumption) (cTo_3 (by assumption)) ?_
                refine c_X3_markSum hT hs hk3 o3 (fun j hj => (hm j hj).1) ?_
                refine v_iconstN 5 C dX4_sum_52 ?_
                first | refine v_icmp_leN C 63 dX4_sum_53 (by omega) (by omega) (by decide) (fun h53 => ?_) (fun h53 => ?_) | refine v_icmp_le C 63 dX4_sum_53 (by decide) (fun h53 => ?_) (fun h53 => ?_)
                · exact absurd h53 (by omega)
                · refine v_aload_n C dX4_sum_56 rfl ?_
                  refine v_bipush (v := -3) C dX4_sum_57 (by decide) ?_
                  refine v_callV1_2 C (m_X4_refuseLong T B) lk_X4_168 ⟨wt_406, ws_10⟩ 4 rfl dX4_sum_59 ⟨Nat.le_of_ble_eq_true rfl, Nat.le_of_ble_eq_true rfl⟩ (Nat.le_of_ble_eq_true rfl) ⟨Nat.le_of_ble_eq_true rfl, Nat.le_of_ble_eq_true rfl⟩ (by assumption) (cTo_4 (by assumption)) ?_
                  refine c_X4_refuseLong (k := 3) hX (by decide) (by decide) ?_
                  refine v_lret C Q dX4_sum_62 (Nat.le_of_ble_eq_true rfl) (Nat.le_of_ble_eq_true rfl) ?_
                  have w := Cq_rf (k := 3) hR0 (by decide) hp
                  exact w
            · exact absurd h22 (by omega)
def sqT (D : SD) : Int64 := lN (2 ^ (D 2 0 - 1) * D 4 0 ^ (2 * D 2 0 + 1)) - lN (3 ^ D 2 0 * sumN (ptS (prt D) (D 4 0) (D 2 0)) (D 4 0)) + lN (3 ^ D 2 0 * 2 ^ (D 2 0 - 1) * (sumN (fun n => sumN (prS (prt D) (D 4 0) (D 2 0) n) (D 4 0)) (D 4 0) * D 4 0 ^ (D 2 0 - 1)))
def o_square (st : St) (s w : Int32) : Int64 × St := onS st.1 s (rfg st (-1) 1) fun k => onS 2 w (rfg st (-2) 2) fun w => if st.2.1 k 2 0 ≤ 3 ∧ st.2.1 k 4 0 ≤ 64 then (frc (sqT (st.2.1 k)) (3 ^ st.2.1 k 2 0 * 2 ^ (st.2.1 k 2 0 - 1) * st.2.1 k 4 0 ^ (2 * st.2.1 k 2 0 + 1)) (decide (w = 1)), st) else rfg st (-6) 6
theorem sq_bd {D : SD} (h1 : 1 ≤ D 4 0) (h3 : D 2 0 ≤ 3) (h64 : D 4 0 ≤ 64) : (sqT D).toInt.natAbs < 9223372036854775808 ∧ 3 ^ D 2 0 * 2 ^ (D 2 0 - 1) * D 4 0 ^ (2 * D 2 0 + 1) < 9223372036854775808 ∧ 0 < 3 ^ D 2 0 * 2 ^ (D 2 0 - 1) * D 4 0 ^ (2 * D 2 0 + 1) := by
  have wh : D 4 0 ^ (2 * D 2 0 + 1) ≤ 4398046511104 := Nat.le_trans (Nat.le_trans (Nat.pow_le_pow_left h64 _) (Nat.pow_le_pow_right (by decide) (show 2 * D 2 0 + 1 ≤ 7 by omega))) (by decide)
  have th : 3 ^ D 2 0 ≤ 27 := Nat.le_trans (Nat.pow_le_pow_right (by decide) h3) (by decide)
  have tw : 2 ^ (D 2 0 - 1) ≤ 4 := Nat.le_trans (Nat.pow_le_pow_right (by decide) (show D 2 0 - 1 ≤ 2 by omega)) (by decide)
  have cd : D 4 0 ^ (D 2 0 - 1) ≤ 4096 := Nat.le_trans (Nat.le_trans (Nat.pow_le_pow_left h64 _) (Nat.pow_le_pow_right (by decide) (show D 2 0 - 1 ≤ 2 by omega))) (by decide)
  have cc : D 4 0 * D 4 0 ≤ 4096 := Nat.mul_le_mul h64 h64
  have p1 : ∀ n, ptS (prt D) (D 4 0) (D 2 0) n ≤ 68719476736 := fun n => by
    refine Nat.le_trans (prodN_le (M := 4096) (fun j _ => ?_)) (Nat.le_trans (Nat.pow_le_pow_right (by decide) h3) (by decide))
    omega
  have p2 : sumN (ptS (prt D) (D 4 0) (D 2 0)) (D 4 0) ≤ 4398046511104 := Nat.le_trans (sumN_le (fun n _ => p1 n)) (Nat.le_trans (Nat.mul_le_mul_right _ h64) (by decide))
  have q1 : ∀ n m, prS (prt D) (D 4 0) (D 2 0) n m ≤ 262144 := fun n m => by
    refine Nat.le_trans (prodN_le (M := 64) (fun j _ => ?_)) (Nat.le_trans (Nat.pow_le_pow_right (by decide) h3) (by decide))
    omega
  have q2 : ∀ n, sumN (prS (prt D) (D 4 0) (D 2 0) n) (D 4 0) ≤ 16777216 := fun n => Nat.le_trans (sumN_le (fun m _ => q1 n m)) (Nat.le_trans (Nat.mul_le_mul_right _ h64) (by decide))
  have q3 : sumN (fun n => sumN (prS (prt D) (D 4 0) (D 2 0) n) (D 4 0)) (D 4 0) ≤ 1073741824 := Nat.le_trans (sumN_le (fun n _ => q2 n)) (Nat.le_trans (Nat.mul_le_mul_right _ h64) (by decide))
  have q4 : sumN (fun n => sumN (prS (prt D) (D 4 0) (D 2 0) n) (D 4 0)) (D 4 0) * D 4 0 ^ (D 2 0 - 1) ≤ 4398046511104 := Nat.le_trans (Nat.mul_le_mul q3 cd) (by decide)
  have tt : 3 ^ D 2 0 * 2 ^ (D 2 0 - 1) ≤ 108 := Nat.le_trans (Nat.mul_le_mul th tw) (by decide)
  have a1 : 2 ^ (D 2 0 - 1) * D 4 0 ^ (2 * D 2 0 + 1) ≤ 17592186044416 := Nat.le_trans (Nat.mul_le_mul tw wh) (by decide)
  have a2 : 3 ^ D 2 0 * sumN (ptS (prt D) (D 4 0) (D 2 0)) (D 4 0) ≤ 118747255799808 := Nat.le_trans (Nat.mul_le_mul th p2) (by decide)
  have a3 : 3 ^ D 2 0 * 2 ^ (D 2 0 - 1) * (sumN (fun n => sumN (prS (prt D) (D 4 0) (D 2 0) n) (D 4 0)) (D 4 0) * D 4 0 ^ (D 2 0 - 1)) ≤ 474989023199232 := Nat.le_trans (Nat.mul_le_mul tt q4) (by decide)
  have a4 : 3 ^ D 2 0 * 2 ^ (D 2 0 - 1) * D 4 0 ^ (2 * D 2 0 + 1) ≤ 474989023199232 := Nat.le_trans (Nat.mul_le_mul tt wh) (by decide)
  refine ⟨?_, by omega, Nat.mul_pos (Nat.mul_pos (Nat.pow_pos (by decide)) (Nat.two_pow_pos _)) (c_pos h1 _)⟩
  unfold sqT
  have e1 := sub_I (a := 2 ^ (D 2 0 - 1) * D 4 0 ^ (2 * D 2 0 + 1)) (b := 3 ^ D 2 0 * sumN (ptS (prt D) (D 4 0) (D 2 0)) (D 4 0)) (by omega) (by omega)
  generalize 2 ^ (D 2 0 - 1) * D 4 0 ^ (2 * D 2 0 + 1) = A at *
  generalize 3 ^ D 2 0 * sumN (ptS (prt D) (D 4 0) (D 2 0)) (D 4 0) = B at *
  generalize 3 ^ D 2 0 * 2 ^ (D 2 0 - 1) * (sumN (fun n => sumN (prS (prt D) (D 4 0) (D 2 0) n) (D 4 0)) (D 4 0) * D 4 0 ^ (D 2 0 - 1)) = C at *
  rw [add_I (by rw [e1]; omega) (by omega), e1]
  omega
def s_X4_square : Sp := fun av z S I J R Post => ∃ (x : Nat), ∃ (st : St), ∃ (s w : Int32), av = [.ref x, .int s, .int w] ∧ (Rc x st z S I R) ∧ (Ok st) ∧ (Cq x (o_square st s w).2 S I J R (fun z' S' I' J' R' => Post 0 (o_square st s w).1 none z' S' I' J' R'))
theorem c_X4_square {x : Nat} {st : St} {s w : Int32} {z : Nat} {S : MS} {I : MI} {J : MJ} {R : MR} {Post : PT} (hR : Rc x st z S I R) (hO : Ok st) (hp : Cq x (o_square st s w).2 S I J R (fun z' S' I' J' R' => Post 0 (o_square st s w).1 none z' S' I' J' R')) : s_X4_square [.ref x, .int s, .int w] z S I J R Post := ⟨x, st, s, w, rfl, hR, hO, hp⟩
set_option maxRecDepth 100000 in
set_option maxHeartbeats 2000000 in
theorem m_X4_square (T : TC) (B : Nat) : Mt T B yX4_square cX4_square 15 (some .long) 2 (rmL 3 0 0) s_X4_square := by
  refine Mt_of rfl (by rintro _ _ _ _ _ _ _ ⟨_, _, _, _, rfl, -⟩; exact Nat.le_of_ble_eq_true rfl) ?_
  intro X av z S I J R Post h C Q hI
  obtain ⟨x, st, s, w, rfl, hR, hO, hp⟩ := h
  have hR0 := hR
  obtain ⟨sa, hX, hn, htl, hsc, hord, htr, hrf, hzz⟩ := hR
  have hn12 := hO.1
  have hx := hX.1
  have hT := hX.2.2.2.2.2.2.2.2.1
  unfold o_square at hp
  rcases Oo_or s st.1 (by omega) with ho | ⟨k, hk, rfl⟩
  · rw [onS_o ho] at hp
    refine v_aload_n C dX4_square_0 rfl ?_
    refine v_iload_n C dX4_square_1 rfl ?_
    refine v_callV1_3 C (m_X4_find T B) lk_X4_65 ⟨wt_194, ws_3⟩ 4 rfl dX4_square_2 ⟨Nat.le_of_ble_eq_true rfl, Nat.le_of_ble_eq_true rfl⟩ (Nat.le_of_ble_eq_true rfl) ⟨Nat.le_of_ble_eq_true rfl, Nat.le_of_ble_eq_true rfl⟩ (by assumption) (cTo_4 (by assumption)) ?_
    refine c_find_o hX hn hn12 (fun k hk => (hsc k hk).1) ho ?_
    refine v_astore_nN C dX4_square_5 (by decide) ?_
    refine v_aload_nN C dX4_square_6 rfl ?_
    refine v_ifnonnullN C dX4_square_7 ?_
    refine v_aload_n C dX4_square_10 rfl ?_
    refine v_iconst (v := -1) C dX4_square_11 (by decide) ?_
    refine v_callV1_2 C (m_X4_refuseLong T B) lk_X4_168 ⟨wt_406, ws_10⟩ 4 rfl dX4_square_12 ⟨Nat.le_of_ble_eq_true rfl, Nat.le_of_ble_eq_true rfl⟩ (Nat.le_of_ble_eq_true rfl) ⟨Nat.le_of_ble_eq_true rfl, Nat.le_of_ble_eq_true rfl⟩ (by assumption) (cTo_4 (by assumption)) ?_
    refine c_X4_refuseLong (k := 1) hX (by decide) (by decide) ?_
    refine v_lret C Q dX4_square_15 (Nat.le_of_ble_eq_true rfl) (Nat.le_of_ble_eq_true rfl) ?_
    have w := Cq_rf (k := 1) hR0 (by decide) hp
    exact w
  · obtain ⟨hrk, hSR, hka, hkz⟩ := hsc k hk
    have hSR0 := hSR
    obtain ⟨hSc, hk0, hk1, hk2, hk3, hk4, hk5, hk6, hk7, hk8⟩ := hSR
    have hOk := hO.2.1 k hk
    obtain ⟨o1, o2, o3, o4, o5, o6, o7, o8, o9, o10, o11, o12⟩ := hOk
    have hs := hSc.1
    rw [onS_k hk (by omega)] at hp
    rcases Oo_or w 2 (by omega) with hq | ⟨v, hv, rfl⟩
    · rw [onS_o hq] at hp
      refine v_aload_n C dX4_square_0 rfl ?_
      refine v_iload_n C dX4_square_1 rfl ?_
      refine v_callV1_3 C (m_X4_find T B) lk_X4_65 ⟨wt_194, ws_3⟩ 4 rfl dX4_square_2 ⟨Nat.le_of_ble_eq_true rfl, Nat.le_of_ble_eq_true rfl⟩ (Nat.le_of_ble_eq_true rfl) ⟨Nat.le_of_ble_eq_true rfl, Nat.le_of_ble_eq_true rfl⟩ (by assumption) (cTo_4 (by assumption)) ?_
      refine c_find_k hX hn hn12 (fun k hk => (hsc k hk).1) hk ?_
      refine v_astore_n C dX4_square_5 (by decide) ?_
      refine v_aload_n C dX4_square_6 rfl ?_
      refine v_ifnonnull C 16 dX4_square_7 (by decide) ?_
      refine v_iload_n C dX4_square_16 rfl ?_
      refine v_if_lt C 25 dX4_square_17 (by decide) (fun h17 => ?_) (fun h17 => ?_)
      · refine v_aload_n C dX4_square_25 rfl ?_
        refine v_bipush (v := -2) C dX4_square_26 (by decide) ?_
        refine v_callV1_2 C (m_X4_refuseLong T B) lk_X4_168 ⟨wt_406, ws_10⟩ 4 rfl dX4_square_28 ⟨Nat.le_of_ble_eq_true rfl, Nat.le_of_ble_eq_true rfl⟩ (Nat.le_of_ble_eq_true rfl) ⟨Nat.le_of_ble_eq_true rfl, Nat.le_of_ble_eq_true rfl⟩ (by assumption) (cTo_4 (by assumption)) ?_
        refine c_X4_refuseLong (k := 2) hX (by decide) (by decide) ?_
        refine v_lret C Q dX4_square_31 (Nat.le_of_ble_eq_true rfl) (Nat.le_of_ble_eq_true rfl) ?_
        have w := Cq_rf (k := 2) hR0 (by decide) hp
        exact w
      · refine v_iload_n C dX4_square_20 rfl ?_
        refine v_iconstN 1 C dX4_square_21 ?_
        refine v_icmp_le C 32 dX4_square_22 (by decide) (fun h22 => ?_) (fun h22 => ?_)
        · exact absurd h22 (Oo_le (by decide) hq h17)
        · refine v_aload_n C dX4_square_25 rfl ?_
          refine v_bipush (v := -2) C dX4_square_26 (by decide) ?_
          refine v_callV1_2 C (m_X4_refuseLong T B) lk_X4_168 ⟨wt_406, ws_10⟩ 4 rfl dX4_square_28 ⟨Nat.le_of_ble_eq_true rfl, Nat.le_of_ble_eq_true rfl⟩ (Nat.le_of_ble_eq_true rfl) ⟨Nat.le_of_ble_eq_true rfl, Nat.le_of_ble_eq_true rfl⟩ (by assumption) (cTo_4 (by assumption)) ?_
          refine c_X4_refuseLong (k := 2) hX (by decide) (by decide) ?_
          refine v_lret C Q dX4_square_31 (Nat.le_of_ble_eq_true rfl) (Nat.le_of_ble_eq_true rfl) ?_
          have w := Cq_rf (k := 2) hR0 (by decide) hp
          exact w
    · rw [onS_k hv (by omega)] at hp
      by_cases hmm : st.2.1 k 2 0 ≤ 3 ∧ st.2.1 k 4 0 ≤ 64
      · rw [if_pos hmm] at hp
        obtain ⟨b1, b2', b3⟩ := sq_bd o5 hmm.1 hmm.2
        unfold sqT at b1 hp
        have hPP : ∀ n j, n < st.2.1 k 4 0 → j < st.2.1 k 2 0 → I (sa k + 4) (j * st.2.1 k 4 0 + n) = nI (prt (st.2.1 k) n j) ∧ prt (st.2.1 k) n j < st.2.1 k 4 0 := fun n j h1 h2 => ⟨hk8 n j h1 h2, prt_lt (hO.2.1 k hk) n j⟩
        refine v_aload_n C dX4_square_0 rfl ?_
        refine v_iload_n C dX4_square_1 rfl ?_
        refine v_callV1_3 C (m_X4_find T B) lk_X4_65 ⟨wt_194, ws_3⟩ 4 rfl dX4_square_2 ⟨Nat.le_of_ble_eq_true rfl, Nat.le_of_ble_eq_true rfl⟩ (Nat.le_of_ble_eq_true rfl) ⟨Nat.le_of_ble_eq_true rfl, Nat.le_of_ble_eq_true rfl⟩ (by assumption) (cTo_4 (by assumption)) ?_
        refine c_find_k hX hn hn12 (fun k hk => (hsc k hk).1) hk ?_
        refine v_astore_n C dX4_square_5 (by decide) ?_
        refine v_aload_n C dX4_square_6 rfl ?_
        refine v_ifnonnull C 16 dX4_square_7 (by decide) ?_
        refine v_iload_n C dX4_square_16 rfl ?_
        first | refine v_if_ltN C 25 dX4_square_17 (by omega) (by decide) (fun h17 => ?_) (fun h17 => ?_) | refine v_if_lt C 25 dX4_square_17 (by decide) (fun h17 => ?_) (fun h17 => ?_)
        · exact absurd h17 (fun q => q)
        · refine v_iload_n C dX4_square_20 rfl ?_
          refine v_iconstN 1 C dX4_square_21 ?_
          first | refine v_icmp_leN C 32 dX4_square_22 (by omega) (by omega) (by decide) (fun h22 => ?_) (fun h22 => ?_) | refine v_icmp_le C 32 dX4_square_22 (by decide) (fun h22 => ?_) (fun h22 => ?_)
          · refine v_aload_n C dX4_square_32 rfl ?_
            refine v_callS1_1 C (m_X4_mayBeMeasured T B) lk_X4_194 wt_434 dX4_square_33 ⟨Nat.le_of_ble_eq_true rfl, Nat.le_of_ble_eq_true rfl⟩ (Nat.le_of_ble_eq_true rfl) ⟨Nat.le_of_ble_eq_true rfl, Nat.le_of_ble_eq_true rfl⟩ ?_
            refine c_X4_mayBeMeasured hs hk2 hk3 o3 o6 ?_
            rw [decide_eq_true hmm]
            first | refine v_if_neN C 46 dX4_square_36 (by omega) (by decide) (fun h36 => ?_) (fun h36 => ?_) | refine v_if_ne C 46 dX4_square_36 (by decide) (fun h36 => ?_) (fun h36 => ?_)
            · refine v_aload_n C dX4_square_46 rfl ?_
              first | refine gv_2_3 C (by assumption) (by assumption) wt_156 dX4_square_47 ?_ | refine g_2_3 C (by assumption) wt_156 dX4_square_47 ?_
              refine v_istore C dX4_square_50 (by decide) ?_
              refine v_aload_n C dX4_square_52 rfl ?_
              first | refine gv_2_2 C (by assumption) (by assumption) wt_150 dX4_square_53 ?_ | refine g_2_2 C (by assumption) wt_150 dX4_square_53 ?_
              first | refine v_i2lN C dX4_square_56 (by omega) ?_ | refine v_i2l C dX4_square_56 ?_
              refine v_iconstN 2 C dX4_square_57 ?_
              refine v_iload C dX4_square_58 rfl ?_
              first | refine v_imulN C dX4_square_60 ?_ | refine v_imul C dX4_square_60 ?_
              refine v_iconstN 1 C dX4_square_61 ?_
              first | refine v_iaddN C dX4_square_62 ?_ | refine v_iadd C dX4_square_62 ?_
              refine v_callS2_2 C (m_X4_powerOf T B) lk_X4_180 wt_418 dX4_square_63 ⟨Nat.le_of_ble_eq_true rfl, Nat.le_of_ble_eq_true rfl⟩ (Nat.le_of_ble_eq_true rfl) ⟨Nat.le_of_ble_eq_true rfl, Nat.le_of_ble_eq_true rfl⟩ ?_
              refine c_X4_powerOf (by omega) ?_
              refine v_lstore C dX4_square_66 (by decide) ?_
              refine v_ldc2 C dX4_square_68 wt_480 ?_
              refine v_eql (x' := lN 3) (by decide +kernel) ?_
              refine v_iload C dX4_square_71 rfl ?_
              refine v_callS2_2 C (m_X4_powerOf T B) lk_X4_180 wt_418 dX4_square_73 ⟨Nat.le_of_ble_eq_true rfl, Nat.le_of_ble_eq_true rfl⟩ (Nat.le_of_ble_eq_true rfl) ⟨Nat.le_of_ble_eq_true rfl, Nat.le_of_ble_eq_true rfl⟩ ?_
              refine c_X4_powerOf (by omega) ?_
              refine v_lstore C dX4_square_76 (by decide) ?_
              refine v_ldc2 C dX4_square_78 wt_481 ?_
              refine v_eql (x' := lN 2) (by decide +kernel) ?_
              refine v_iload C dX4_square_81 rfl ?_
              refine v_iconstN 1 C dX4_square_83 ?_
              first | refine v_isubN C dX4_square_84 (by omega) ?_ | refine v_isub C dX4_square_84 ?_
              refine v_callS2_2 C (m_X4_powerOf T B) lk_X4_180 wt_418 dX4_square_85 ⟨Nat.le_of_ble_eq_true rfl, Nat.le_of_ble_eq_true rfl⟩ (Nat.le_of_ble_eq_true rfl) ⟨Nat.le_of_ble_eq_true rfl, Nat.le_of_ble_eq_true rfl⟩ ?_
              refine c_X4_powerOf (by omega) ?_
              refine v_lstore C dX4_square_88 (by decide) ?_
              refine v_aload_n C dX4_square_90 rfl ?_
              refine v_callS1_2 C (m_X4_pairSum T B) lk_X4_216 wt_483 dX4_square_91 ⟨Nat.le_of_ble_eq_true rfl, Nat.le_of_ble_eq_true rfl⟩ (Nat.le_of_ble_eq_true rfl) ⟨Nat.le_of_ble_eq_true rfl, Nat.le_of_ble_eq_true rfl⟩ ?_
              refine c_X4_pairSum (P := prt (st.2.1 k)) hSc hk2 hk3 o3 hPP ?_
              refine v_aload_n C dX4_square_94 rfl ?_
              first | refine gv_2_2 C (by assumption) (by assumption) wt_150 dX4_square_95 ?_ | refine g_2_2 C (by assumption) wt_150 dX4_square_95 ?_
              first | refine v_i2lN C dX4_square_98 (by omega) ?_ | refine v_i2l C dX4_square_98 ?_
              refine v_iload C dX4_square_99 rfl ?_
              refine v_iconstN 1 C dX4_square_101 ?_
              first | refine v_isubN C dX4_square_102 (by omega) ?_ | refine v_isub C dX4_square_102 ?_
              refine v_callS2_2 C (m_X4_powerOf T B) lk_X4_180 wt_418 dX4_square_103 ⟨Nat.le_of_ble_eq_true rfl, Nat.le_of_ble_eq_true rfl⟩ (Nat.le_of_ble_eq_true rfl) ⟨Nat.le_of_ble_eq_true rfl, Nat.le_of_ble_eq_true rfl⟩ ?_
              refine c_X4_powerOf (by omega) ?_
              first | refine v_lmulN C dX4_square_106 ?_ | refine v_lmul C dX4_square_106 ?_
              refine v_lstore C dX4_square_107 (by decide) ?_
              refine v_lload C dX4_square_109 rfl ?_
              refine v_lload C dX4_square_111 rfl ?_
              first | refine v_lmulN C dX4_square_113 ?_ | refine v_lmul C dX4_square_113 ?_
              refine v_lload C dX4_square_114 rfl ?_
              refine v_aload_n C dX4_square_116 rfl ?_
              refine v_callS1_2 C (m_X4_pointSum T B) lk_X4_220 wt_487 dX4_square_117 ⟨Nat.le_of_ble_eq_true rfl, Nat.le_of_ble_eq_true rfl⟩ (Nat.le_of_ble_eq_true rfl) ⟨Nat.le_of_ble_eq_true rfl, Nat.le_of_ble_eq_true rfl⟩ ?_
              refine c_X4_pointSum (P := prt (st.2.1 k)) hSc hk2 hk3 o3 hPP ?_
              first | refine v_lmulN C dX4_square_120 ?_ | refine v_lmul C dX4_square_120 ?_
              refine v_lsub C dX4_square_121 ?_
              refine v_lload C dX4_square_122 rfl ?_
              refine v_lload C dX4_square_124 rfl ?_
              first | refine v_lmulN C dX4_square_126 ?_ | refine v_lmul C dX4_square_126 ?_
              refine v_lload C dX4_square_127 rfl ?_
              first | refine v_lmulN C dX4_square_129 ?_ | refine v_lmul C dX4_square_129 ?_
              refine v_ladd C dX4_square_130 ?_
              refine v_lstore C dX4_square_131 (by decide) ?_
              refine v_lload C dX4_square_133 rfl ?_
              refine v_lload C dX4_square_135 rfl ?_
              refine v_lload C dX4_square_137 rfl ?_
              first | refine v_lmulN C dX4_square_139 ?_ | refine v_lmul C dX4_square_139 ?_
              refine v_lload C dX4_square_140 rfl ?_
              first | refine v_lmulN C dX4_square_142 ?_ | refine v_lmul C dX4_square_142 ?_
              refine v_iload_n C dX4_square_143 rfl ?_
              refine v_iconstN 1 C dX4_square_144 ?_
              first | refine v_icmp_neN C 152 dX4_square_145 (by omega) (by omega) (by decide) (fun h145 => ?_) (fun h145 => ?_) | refine v_icmp_ne C 152 dX4_square_145 (by decide) (fun h145 => ?_) (fun h145 => ?_)
              · rw [decide_eq_false h145] at hp
                refine v_iconstN 0 C dX4_square_152 ?_
                refine v_callS3_2 C (m_X4_fraction T B) lk_X4_190 wt_424 dX4_square_153 ⟨Nat.le_of_ble_eq_true rfl, Nat.le_of_ble_eq_true rfl⟩ (Nat.le_of_ble_eq_true rfl) ⟨Nat.le_of_ble_eq_true rfl, Nat.le_of_ble_eq_true rfl⟩ ?_
                refine c_X4_fraction b1 b2' b3 (by omega) ?_
                refine v_lret C Q dX4_square_156 (Nat.le_of_ble_eq_true rfl) (Nat.le_of_ble_eq_true rfl) ?_
                have w := Cq_same hR0 hp
                exact w
              · rw [decide_eq_true h145] at hp
                refine v_iconstN 1 C dX4_square_148 ?_
                refine v_goto C 153 dX4_square_149 (by decide) ?_
                refine v_callS3_2 C (m_X4_fraction T B) lk_X4_190 wt_424 dX4_square_153 ⟨Nat.le_of_ble_eq_true rfl, Nat.le_of_ble_eq_true rfl⟩ (Nat.le_of_ble_eq_true rfl) ⟨Nat.le_of_ble_eq_true rfl, Nat.le_of_ble_eq_true rfl⟩ ?_
                refine c_X4_fraction b1 b2' b3 (by omega) ?_
                refine v_lret C Q dX4_square_156 (Nat.le_of_ble_eq_true rfl) (Nat.le_of_ble_eq_true rfl) ?_
                have w := Cq_same hR0 hp
                exact w
            · exact absurd h36 (by decide)
          · exact absurd h22 (by omega)
      · rw [if_neg hmm] at hp
        refine v_aload_n C dX4_square_0 rfl ?_
        refine v_iload_n C dX4_square_1 rfl ?_
        refine v_callV1_3 C (m_X4_find T B) lk_X4_65 ⟨wt_194, ws_3⟩ 4 rfl dX4_square_2 ⟨Nat.le_of_ble_eq_true rfl, Nat.le_of_ble_eq_true rfl⟩ (Nat.le_of_ble_eq_true rfl) ⟨Nat.le_of_ble_eq_true rfl, Nat.le_of_ble_eq_true rfl⟩ (by assumption) (cTo_4 (by assumption)) ?_
        refine c_find_k hX hn hn12 (fun k hk => (hsc k hk).1) hk ?_
        refine v_astore_n C dX4_square_5 (by decide) ?_
        refine v_aload_n C dX4_square_6 rfl ?_
        refine v_ifnonnull C 16 dX4_square_7 (by decide) ?_
        refine v_iload_n C dX4_square_16 rfl ?_
        first | refine v_if_ltN C 25 dX4_square_17 (by omega) (by decide) (fun h17 => ?_) (fun h17 => ?_) | refine v_if_lt C 25 dX4_square_17 (by decide) (fun h17 => ?_) (fun h17 => ?_)
        · exact absurd h17 (fun q => q)
        · refine v_iload_n C dX4_square_20 rfl ?_
          refine v_iconstN 1 C dX4_square_21 ?_
          first | refine v_icmp_leN C 32 dX4_square_22 (by omega) (by omega) (by decide) (fun h22 => ?_) (fun h22 => ?_) | refine v_icmp_le C 32 dX4_square_22 (by decide) (fun h22 => ?_) (fun h22 => ?_)
          · refine v_aload_n C dX4_square_32 rfl ?_
            refine v_callS1_1 C (m_X4_mayBeMeasured T B) lk_X4_194 wt_434 dX4_square_33 ⟨Nat.le_of_ble_eq_true rfl, Nat.le_of_ble_eq_true rfl⟩ (Nat.le_of_ble_eq_true rfl) ⟨Nat.le_of_ble_eq_true rfl, Nat.le_of_ble_eq_true rfl⟩ ?_
            refine c_X4_mayBeMeasured hs hk2 hk3 o3 o6 ?_
            rw [decide_eq_false hmm]
            first | refine v_if_neN C 46 dX4_square_36 (by omega) (by decide) (fun h36 => ?_) (fun h36 => ?_) | refine v_if_ne C 46 dX4_square_36 (by decide) (fun h36 => ?_) (fun h36 => ?_)
            · exact absurd h36 (by decide)
            · refine v_aload_n C dX4_square_39 rfl ?_
              refine v_bipush (v := -6) C dX4_square_40 (by decide) ?_
              refine v_callV1_2 C (m_X4_refuseLong T B) lk_X4_168 ⟨wt_406, ws_10⟩ 4 rfl dX4_square_42 ⟨Nat.le_of_ble_eq_true rfl, Nat.le_of_ble_eq_true rfl⟩ (Nat.le_of_ble_eq_true rfl) ⟨Nat.le_of_ble_eq_true rfl, Nat.le_of_ble_eq_true rfl⟩ (by assumption) (cTo_4 (by assumption)) ?_
              refine c_X4_refuseLong (k := 6) hX (by decide) (by decide) ?_
              refine v_lret C Q dX4_square_45 (Nat.le_of_ble_eq_true rfl) (Nat.le_of_ble_eq_true rfl) ?_
              have w := Cq_rf (k := 6) hR0 (by decide) hp
              exact w
          · exact absurd h22 (by omega)
