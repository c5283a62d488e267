theorem nI_dec (M : Nat) : nI (M + 1) + Int32.ofInt (-1) = nI M := by
  rw [nI_succ, Int32.add_assoc, show (1 : Int32) + Int32.ofInt (-1) = 0 by decide, Int32.add_zero]
def nthW (f : Nat → Bool) : Nat → Nat → Nat → Int64
  | 0, _, _ => -9
  | e + 1, v, k => if f v = true then (if k = 0 then lN v else nthW f e (v + 1) (k - 1)) else nthW f e (v + 1) k
def whW (D : SD) (v : Nat) : Int := wht (fun u => qc (fun n => pl (prt D n) (D 4 0) (D 2 0)) u (D 4 0)) (D 3 0 * D 2 0) v
def wfW (D : SD) (w : Int32) (v : Nat) : Bool := !(decide (iZ (whW D v) = 0)) && decide (nI (pc v) ≤ w)
def o_waves (st : St) (s w i : Int32) : Int64 × St := onS st.1 s (rfg st (-1) 1) fun k => if st.2.1 k 1 0 = 3 then rfg st (-2) 2 else if w < 0 ∨ i < 0 then rfg st (-4) 4 else if 12 < st.2.1 k 3 0 * st.2.1 k 2 0 then rfg st (-6) 6 else (nthW (wfW (st.2.1 k) w) (2 ^ (st.2.1 k 3 0 * st.2.1 k 2 0) - 1) 1 (vN i), st)
def s_X4_waves : Sp := fun av z S I J R Post => ∃ (x : Nat), ∃ (st : St), ∃ (s w i : Int32), av = [.ref x, .int s, .int w, .int i] ∧ (Rc x st z S I R) ∧ (Ok st) ∧ (Cq x (o_waves st s w i).2 S I J R (fun z' S' I' J' R' => Post 0 (o_waves st s w i).1 none z' S' I' J' R'))
theorem c_X4_waves {x : Nat} {st : St} {s w i : Int32} {z : Nat} {S : MS} {I : MI} {J : MJ} {R : MR} {Post : PT} (hR : Rc x st z S I R) (hO : Ok st) (hp : Cq x (o_waves st s w i).2 S I J R (fun z' S' I' J' R' => Post 0 (o_waves st s w i).1 none z' S' I' J' R')) : s_X4_waves [.ref x, .int s, .int w, .int i] z S I J R Post := ⟨x, st, s, w, i, rfl, hR, hO, hp⟩
set_option maxRecDepth 100000 in
set_option maxHeartbeats 2000000 in
theorem m_X4_waves (T : TC) (B : Nat) : Mt T B yX4_waves cX4_waves 9 (some .long) 2 (rmL 4 0 0) s_X4_waves := by
  refine Mt_of rfl (by rintro _ _ _ _ _ _ _ ⟨_, _, _, _, _, rfl, -⟩; exact Nat.le_of_ble_eq_true rfl) ?_
  intro X av z S I J R Post h C Q hI
  obtain ⟨x, st, s, w, i, rfl, hR, hO, hp⟩ := h
  have hR0 := hR
  obtain ⟨sa, hX, hn, htl, hsc, hord, htr, hrf, hzz⟩ := hR
  have hn12 := hO.1
  have hx := hX.1
  have hT := hX.2.2.2.2.2.2.2.2.1
  have hX0 := hX
  obtain ⟨-, -, -, -, hx3, hx4, -, -, -, -, hs9, hCo, -⟩ := hX0
  unfold o_waves at hp
  rcases Oo_or s st.1 (by omega) with ho | ⟨k, hk, rfl⟩
  · rw [onS_o ho] at hp
    refine v_aload_n C dX4_waves_0 rfl ?_
    refine v_iload_n C dX4_waves_1 rfl ?_
    refine v_callV1_3 C (m_X4_find T B) lk_X4_65 ⟨wt_194, ws_3⟩ 4 rfl dX4_waves_2 ⟨Nat.le_of_ble_eq_true rfl, Nat.le_of_ble_eq_true rfl⟩ (Nat.le_of_ble_eq_true rfl) ⟨Nat.le_of_ble_eq_true rfl, Nat.le_of_ble_eq_true rfl⟩ (by assumption) (cTo_4 (by assumption)) ?_
    refine c_find_o hX hn hn12 (fun k hk => (hsc k hk).1) ho ?_
    refine v_astoreN C dX4_waves_5 (by decide) ?_
    refine v_aloadN C dX4_waves_7 rfl ?_
    refine v_ifnonnullN C dX4_waves_9 ?_
    refine v_aload_n C dX4_waves_12 rfl ?_
    refine v_iconst (v := -1) C dX4_waves_13 (by decide) ?_
    refine v_callV1_2 C (m_X4_refuseLong T B) lk_X4_168 ⟨wt_406, ws_10⟩ 4 rfl dX4_waves_14 ⟨Nat.le_of_ble_eq_true rfl, Nat.le_of_ble_eq_true rfl⟩ (Nat.le_of_ble_eq_true rfl) ⟨Nat.le_of_ble_eq_true rfl, Nat.le_of_ble_eq_true rfl⟩ (by assumption) (cTo_4 (by assumption)) ?_
    refine c_X4_refuseLong (k := 1) hX (by decide) (by decide) ?_
    refine v_lret C Q dX4_waves_17 (Nat.le_of_ble_eq_true rfl) (Nat.le_of_ble_eq_true rfl) ?_
    have w := Cq_rf (k := 1) hR0 (by decide) hp
    exact w
  · obtain ⟨hrk, hSR, hka, hkz⟩ := hsc k hk
    have hSR0 := hSR
    obtain ⟨hSc, hk0, hk1, hk2, hk3, hk4, hk5, hk6, hk7, hk8⟩ := hSR
    have hOk := hO.2.1 k hk
    obtain ⟨o1, o2, o3, o4, o5, o6, o7, o8, o9, o10, o11, o12⟩ := hOk
    have hs := hSc.1
    rw [onS_k hk (by omega)] at hp
    by_cases hkd : st.2.1 k 1 0 = 3
    · rw [if_pos hkd] at hp
      refine v_aload_n C dX4_waves_0 rfl ?_
      refine v_iload_n C dX4_waves_1 rfl ?_
      refine v_callV1_3 C (m_X4_find T B) lk_X4_65 ⟨wt_194, ws_3⟩ 4 rfl dX4_waves_2 ⟨Nat.le_of_ble_eq_true rfl, Nat.le_of_ble_eq_true rfl⟩ (Nat.le_of_ble_eq_true rfl) ⟨Nat.le_of_ble_eq_true rfl, Nat.le_of_ble_eq_true rfl⟩ (by assumption) (cTo_4 (by assumption)) ?_
      refine c_find_k hX hn hn12 (fun k hk => (hsc k hk).1) hk ?_
      refine v_astore C dX4_waves_5 (by decide) ?_
      refine v_aload C dX4_waves_7 rfl ?_
      refine v_ifnonnull C 18 dX4_waves_9 (by decide) ?_
      refine v_aload C dX4_waves_18 rfl ?_
      first | refine gv_2_0 C (by assumption) (by assumption) wt_143 dX4_waves_20 ?_ | refine g_2_0 C (by assumption) wt_143 dX4_waves_20 ?_
      refine v_iconstN 3 C dX4_waves_23 ?_
      first | refine v_icmp_neN C 34 dX4_waves_24 (by omega) (by omega) (by decide) (fun h24 => ?_) (fun h24 => ?_) | refine v_icmp_ne C 34 dX4_waves_24 (by decide) (fun h24 => ?_) (fun h24 => ?_)
      · exact absurd hkd h24
      · refine v_aload_n C dX4_waves_27 rfl ?_
        refine v_bipush (v := -2) C dX4_waves_28 (by decide) ?_
        refine v_callV1_2 C (m_X4_refuseLong T B) lk_X4_168 ⟨wt_406, ws_10⟩ 4 rfl dX4_waves_30 ⟨Nat.le_of_ble_eq_true rfl, Nat.le_of_ble_eq_true rfl⟩ (Nat.le_of_ble_eq_true rfl) ⟨Nat.le_of_ble_eq_true rfl, Nat.le_of_ble_eq_true rfl⟩ (by assumption) (cTo_4 (by assumption)) ?_
        refine c_X4_refuseLong (k := 2) hX (by decide) (by decide) ?_
        refine v_lret C Q dX4_waves_33 (Nat.le_of_ble_eq_true rfl) (Nat.le_of_ble_eq_true rfl) ?_
        have w := Cq_rf (k := 2) hR0 (by decide) hp
        exact w
    · rw [if_neg hkd] at hp
      have hpw : I (sa k) 1 = nI (st.2.1 k 3 0) := by rw [hk1]; unfold pwI; rw [if_neg hkd]
      by_cases e1 : w < 0 ∨ i < 0
      · rw [if_pos e1] at hp
        refine v_aload_n C dX4_waves_0 rfl ?_
        refine v_iload_n C dX4_waves_1 rfl ?_
        refine v_callV1_3 C (m_X4_find T B) lk_X4_65 ⟨wt_194, ws_3⟩ 4 rfl dX4_waves_2 ⟨Nat.le_of_ble_eq_true rfl, Nat.le_of_ble_eq_true rfl⟩ (Nat.le_of_ble_eq_true rfl) ⟨Nat.le_of_ble_eq_true rfl, Nat.le_of_ble_eq_true rfl⟩ (by assumption) (cTo_4 (by assumption)) ?_
        refine c_find_k hX hn hn12 (fun k hk => (hsc k hk).1) hk ?_
        refine v_astore C dX4_waves_5 (by decide) ?_
        refine v_aload C dX4_waves_7 rfl ?_
        refine v_ifnonnull C 18 dX4_waves_9 (by decide) ?_
        refine v_aload C dX4_waves_18 rfl ?_
        first | refine gv_2_0 C (by assumption) (by assumption) wt_143 dX4_waves_20 ?_ | refine g_2_0 C (by assumption) wt_143 dX4_waves_20 ?_
        refine v_iconstN 3 C dX4_waves_23 ?_
        first | refine v_icmp_neN C 34 dX4_waves_24 (by omega) (by omega) (by decide) (fun h24 => ?_) (fun h24 => ?_) | refine v_icmp_ne C 34 dX4_waves_24 (by decide) (fun h24 => ?_) (fun h24 => ?_)
        · refine v_iload_n C dX4_waves_34 rfl ?_
          refine v_if_lt C 42 dX4_waves_35 (by decide) (fun h35 => ?_) (fun h35 => ?_)
          · refine v_aload_n C dX4_waves_42 rfl ?_
            refine v_bipush (v := -4) C dX4_waves_43 (by decide) ?_
            refine v_callV1_2 C (m_X4_refuseLong T B) lk_X4_168 ⟨wt_406, ws_10⟩ 4 rfl dX4_waves_45 ⟨Nat.le_of_ble_eq_true rfl, Nat.le_of_ble_eq_true rfl⟩ (Nat.le_of_ble_eq_true rfl) ⟨Nat.le_of_ble_eq_true rfl, Nat.le_of_ble_eq_true rfl⟩ (by assumption) (cTo_4 (by assumption)) ?_
            refine c_X4_refuseLong (k := 4) hX (by decide) (by decide) ?_
            refine v_lret C Q dX4_waves_48 (Nat.le_of_ble_eq_true rfl) (Nat.le_of_ble_eq_true rfl) ?_
            have w := Cq_rf (k := 4) hR0 (by decide) hp
            exact w
          · refine v_iload_n C dX4_waves_38 rfl ?_
            refine v_if_ge C 49 dX4_waves_39 (by decide) (fun h39 => ?_) (fun h39 => ?_)
            · exact absurd e1 (fun q => q.elim h35 (fun q => absurd q (Int32.not_lt.mpr h39)))
            · refine v_aload_n C dX4_waves_42 rfl ?_
              refine v_bipush (v := -4) C dX4_waves_43 (by decide) ?_
              refine v_callV1_2 C (m_X4_refuseLong T B) lk_X4_168 ⟨wt_406, ws_10⟩ 4 rfl dX4_waves_45 ⟨Nat.le_of_ble_eq_true rfl, Nat.le_of_ble_eq_true rfl⟩ (Nat.le_of_ble_eq_true rfl) ⟨Nat.le_of_ble_eq_true rfl, Nat.le_of_ble_eq_true rfl⟩ (by assumption) (cTo_4 (by assumption)) ?_
              refine c_X4_refuseLong (k := 4) hX (by decide) (by decide) ?_
              refine v_lret C Q dX4_waves_48 (Nat.le_of_ble_eq_true rfl) (Nat.le_of_ble_eq_true rfl) ?_
              have w := Cq_rf (k := 4) hR0 (by decide) hp
              exact w
        · exact absurd h24 hkd
      · rw [if_neg e1] at hp
        have w0 : ¬ w < 0 := fun q => e1 (Or.inl q)
        have i0 : ¬ i < 0 := fun q => e1 (Or.inr q)
        obtain ⟨L, hL, rfl⟩ := nI_of i0
        rw [vN_nI hL] at hp
        have hpd : st.2.1 k 3 0 * st.2.1 k 2 0 ≤ 48 := Nat.le_trans (Nat.mul_le_mul o4 o3) (by decide)
        by_cases e2 : 12 < st.2.1 k 3 0 * st.2.1 k 2 0
        · rw [if_pos e2] at hp
          refine v_aload_n C dX4_waves_0 rfl ?_
          refine v_iload_n C dX4_waves_1 rfl ?_
          refine v_callV1_3 C (m_X4_find T B) lk_X4_65 ⟨wt_194, ws_3⟩ 4 rfl dX4_waves_2 ⟨Nat.le_of_ble_eq_true rfl, Nat.le_of_ble_eq_true rfl⟩ (Nat.le_of_ble_eq_true rfl) ⟨Nat.le_of_ble_eq_true rfl, Nat.le_of_ble_eq_true rfl⟩ (by assumption) (cTo_4 (by assumption)) ?_
          refine c_find_k hX hn hn12 (fun k hk => (hsc k hk).1) hk ?_
          refine v_astore C dX4_waves_5 (by decide) ?_
          refine v_aload C dX4_waves_7 rfl ?_
          refine v_ifnonnull C 18 dX4_waves_9 (by decide) ?_
          refine v_aload C dX4_waves_18 rfl ?_
          first | refine gv_2_0 C (by assumption) (by assumption) wt_143 dX4_waves_20 ?_ | refine g_2_0 C (by assumption) wt_143 dX4_waves_20 ?_
          refine v_iconstN 3 C dX4_waves_23 ?_
          first | refine v_icmp_neN C 34 dX4_waves_24 (by omega) (by omega) (by decide) (fun h24 => ?_) (fun h24 => ?_) | refine v_icmp_ne C 34 dX4_waves_24 (by decide) (fun h24 => ?_) (fun h24 => ?_)
          · refine v_iload_n C dX4_waves_34 rfl ?_
            refine v_if_lt C 42 dX4_waves_35 (by decide) (fun h35 => ?_) (fun h35 => ?_)
            · exact absurd h35 w0
            · refine v_iload_n C dX4_waves_38 rfl ?_
              first | refine v_if_geN C 49 dX4_waves_39 (by omega) (by decide) (fun h39 => ?_) (fun h39 => ?_) | refine v_if_ge C 49 dX4_waves_39 (by decide) (fun h39 => ?_) (fun h39 => ?_)
              · refine v_aload C dX4_waves_49 rfl ?_
                first | refine gv_2_1 C (by assumption) (by assumption) wt_145 dX4_waves_51 ?_ | refine g_2_1 C (by assumption) wt_145 dX4_waves_51 ?_
                refine v_aload C dX4_waves_54 rfl ?_
                first | refine gv_2_3 C (by assumption) (by assumption) wt_156 dX4_waves_56 ?_ | refine g_2_3 C (by assumption) wt_156 dX4_waves_56 ?_
                first | refine v_imulN C dX4_waves_59 ?_ | refine v_imul C dX4_waves_59 ?_
                refine v_istore C dX4_waves_60 (by decide) ?_
                refine v_iload C dX4_waves_62 rfl ?_
                refine v_bipushN 12 (by decide) C dX4_waves_64 ?_
                first | refine v_icmp_leN C 76 dX4_waves_66 (by omega) (by omega) (by decide) (fun h66 => ?_) (fun h66 => ?_) | refine v_icmp_le C 76 dX4_waves_66 (by decide) (fun h66 => ?_) (fun h66 => ?_)
                · exact absurd h66 (by omega)
                · refine v_aload_n C dX4_waves_69 rfl ?_
                  refine v_bipush (v := -6) C dX4_waves_70 (by decide) ?_
                  refine v_callV1_2 C (m_X4_refuseLong T B) lk_X4_168 ⟨wt_406, ws_10⟩ 4 rfl dX4_waves_72 ⟨Nat.le_of_ble_eq_true rfl, Nat.le_of_ble_eq_true rfl⟩ (Nat.le_of_ble_eq_true rfl) ⟨Nat.le_of_ble_eq_true rfl, Nat.le_of_ble_eq_true rfl⟩ (by assumption) (cTo_4 (by assumption)) ?_
                  refine c_X4_refuseLong (k := 6) hX (by decide) (by decide) ?_
                  refine v_lret C Q dX4_waves_75 (Nat.le_of_ble_eq_true rfl) (Nat.le_of_ble_eq_true rfl) ?_
                  have w := Cq_rf (k := 6) hR0 (by decide) hp
                  exact w
              · exact absurd h39 (fun q => q)
          · exact absurd h24 hkd
        · rw [if_neg e2] at hp
          generalize hb : st.2.1 k 3 0 * st.2.1 k 2 0 = b at *
          have hcd : st.2.1 k 4 0 ^ st.2.1 k 2 0 = 2 ^ b := by rw [o7 hkd, ← Nat.pow_mul, hb]
          have hb1 : 1 ≤ 2 ^ b := Nat.two_pow_pos b
          have hb2 : 2 ^ b ≤ 4096 := Nat.le_trans (Nat.pow_le_pow_right (by decide) (show b ≤ 12 by omega)) (by decide)
          have hPP : ∀ n j, n < st.2.1 k 4 0 → j < st.2.1 k 2 0 → I (sa k + 4) (j * st.2.1 k 4 0 + n) = nI (prt (st.2.1 k) n j) ∧ prt (st.2.1 k) n j < st.2.1 k 4 0 := fun n j h1 h2 => ⟨hk8 n j h1 h2, prt_lt (hO.2.1 k hk) n j⟩
          have aft : ∀ I2 : MI, FrS I I2 (x + 9) (x + 9) → (∀ v, v < 2 ^ b → I2 (x + 9) v = iZ (whW (st.2.1 k) v)) → ∀ v : Nat, v ≤ 2 ^ b → ∀ L : Nat, L < 2 ^ 31 → Post 0 (nthW (wfW (st.2.1 k) w) (2 ^ b - v) v L) none z S I2 J R → V X 0 0 z S I2 J R 96 [some (.ref x), none, some (.int w), none, some (.ref (sa k)), none, some (.int (nI (2 ^ b))), some (.int (nI L)), some (.int (nI v))] [] := by
            intro I2 hF hI2
            refine lp_up (2 ^ b) ?_
            intro v hv ih L hL hpv
            have nx : v < 2 ^ b → nthW (wfW (st.2.1 k) w) (2 ^ b - v) v L = if wfW (st.2.1 k) w v = true then (if L = 0 then lN v else nthW (wfW (st.2.1 k) w) (2 ^ b - (v + 1)) (v + 1) (L - 1)) else nthW (wfW (st.2.1 k) w) (2 ^ b - (v + 1)) (v + 1) L := fun hlt => by
              rw [show 2 ^ b - v = (2 ^ b - (v + 1)) + 1 by omega]; rfl
            refine v_iload C dX4_waves_96 rfl ?_
            refine v_iload C dX4_waves_98 rfl ?_
            first | refine v_icmp_geN C 140 dX4_waves_100 (by omega) (by omega) (by decide) (fun h100 => ?_) (fun h100 => ?_) | refine v_icmp_ge C 140 dX4_waves_100 (by decide) (fun h100 => ?_) (fun h100 => ?_)
            · refine v_ldc2 C dX4_waves_140 wt_512 ?_
              refine v_lret C Q dX4_waves_143 (Nat.le_of_ble_eq_true rfl) (Nat.le_of_ble_eq_true rfl) ?_
              rw [show 2 ^ b - v = 0 by omega] at hpv
              exact hpv
            · refine v_aload_n C dX4_waves_103 rfl ?_
              refine g_4_3 C (by assumption) (by assumption) wt_97 dX4_waves_104 ?_
              refine v_iload C dX4_waves_107 rfl ?_
              first | refine v_ialdN C (by assumption) (by omega) (by omega) dX4_waves_109 ?_ | refine v_iald C (by assumption) (by assumption) dX4_waves_109 ?_
              rw [hI2 v h100]
              refine v_if_eq C 134 dX4_waves_110 (by decide) (fun h110 => ?_) (fun h110 => ?_)
              · have hf : wfW (st.2.1 k) w v = false := by unfold wfW; rw [decide_eq_true h110]; rfl
                rw [nx h100, hf, if_neg (by decide)] at hpv
                first | refine v_iincN 1 C dX4_waves_134 rfl (by decide) ?_ | refine v_iinc C dX4_waves_134 rfl rfl (by decide) ?_
                refine v_goto C 96 dX4_waves_137 (by decide) ?_
                exact v_less (ih h100 L hL hpv) (by repeat (first | exact trivial | refine And.intro rfl ?_))
              · refine v_iload C dX4_waves_113 rfl ?_
                refine v_callS1_1 C (m_J6_bitCount_0f7a4 T B) lk_X4_234 wt_498 dX4_waves_115 ⟨Nat.le_of_ble_eq_true rfl, Nat.le_of_ble_eq_true rfl⟩ (Nat.le_of_ble_eq_true rfl) ⟨Nat.le_of_ble_eq_true rfl, Nat.le_of_ble_eq_true rfl⟩ ?_
                refine c_J6_bitCount_0f7a4 (by omega) ?_
                refine v_iload_n C dX4_waves_118 rfl ?_
                refine v_icmp_gt C 134 dX4_waves_119 (by decide) (fun h119 => ?_) (fun h119 => ?_)
                · have hf : wfW (st.2.1 k) w v = false := by unfold wfW; rw [decide_eq_false (Int32.not_le.mpr h119), Bool.and_false]
                  rw [nx h100, hf, if_neg (by decide)] at hpv
                  first | refine v_iincN 1 C dX4_waves_134 rfl (by decide) ?_ | refine v_iinc C dX4_waves_134 rfl rfl (by decide) ?_
                  refine v_goto C 96 dX4_waves_137 (by decide) ?_
                  exact v_less (ih h100 L hL hpv) (by repeat (first | exact trivial | refine And.intro rfl ?_))
                · have hf : wfW (st.2.1 k) w v = true := by unfold wfW; rw [decide_eq_false h110, decide_eq_true (Int32.not_lt.mp h119)]; rfl
                  rw [nx h100, hf, if_pos rfl] at hpv
                  refine v_iload C dX4_waves_122 rfl ?_
                  first | refine v_if_neN C 131 dX4_waves_124 (by omega) (by decide) (fun h124 => ?_) (fun h124 => ?_) | refine v_if_ne C 131 dX4_waves_124 (by decide) (fun h124 => ?_) (fun h124 => ?_)
                  · rw [if_neg h124] at hpv
                    obtain ⟨M, rfl⟩ : ∃ M, L = M + 1 := ⟨L - 1, by omega⟩
                    refine v_iinc C dX4_waves_131 rfl (nI_dec M) (by decide) ?_
                    refine v_iincN 1 C dX4_waves_134 rfl (by decide) ?_
                    refine v_goto C 96 dX4_waves_137 (by decide) ?_
                    exact v_less (ih h100 M (by omega) hpv) (by repeat (first | exact trivial | refine And.intro rfl ?_))
                  · rw [if_pos h124] at hpv
                    refine v_iload C dX4_waves_127 rfl ?_
                    first | refine v_i2lN C dX4_waves_129 (by omega) ?_ | refine v_i2l C dX4_waves_129 ?_
                    refine v_lret C Q dX4_waves_130 (Nat.le_of_ble_eq_true rfl) (Nat.le_of_ble_eq_true rfl) ?_
                    exact hpv
          refine v_aload_n C dX4_waves_0 rfl ?_
          refine v_iload_n C dX4_waves_1 rfl ?_
          refine v_callV1_3 C (m_X4_find T B) lk_X4_65 ⟨wt_194, ws_3⟩ 4 rfl dX4_waves_2 ⟨Nat.le_of_ble_eq_true rfl, Nat.le_of_ble_eq_true rfl⟩ (Nat.le_of_ble_eq_true rfl) ⟨Nat.le_of_ble_eq_true rfl, Nat.le_of_ble_eq_true rfl⟩ (by assumption) (cTo_4 (by assumption)) ?_
          refine c_find_k hX hn hn12 (fun k hk => (hsc k hk).1) hk ?_
          refine v_astore C dX4_waves_5 (by decide) ?_
          refine v_aload C dX4_waves_7 rfl ?_
          refine v_ifnonnull C 18 dX4_waves_9 (by decide) ?_
          refine v_aload C dX4_waves_18 rfl ?_
          first | refine gv_2_0 C (by assumption) (by assumption) wt_143 dX4_waves_20 ?_ | refine g_2_0 C (by assumption) wt_143 dX4_waves_20 ?_
          refine v_iconstN 3 C dX4_waves_23 ?_
          first | refine v_icmp_neN C 34 dX4_waves_24 (by omega) (by omega) (by decide) (fun h24 => ?_) (fun h24 => ?_) | refine v_icmp_ne C 34 dX4_waves_24 (by decide) (fun h24 => ?_) (fun h24 => ?_)
          · refine v_iload_n C dX4_waves_34 rfl ?_
            refine v_if_lt C 42 dX4_waves_35 (by decide) (fun h35 => ?_) (fun h35 => ?_)
            · exact absurd h35 w0
            · refine v_iload_n C dX4_waves_38 rfl ?_
              first | refine v_if_geN C 49 dX4_waves_39 (by omega) (by decide) (fun h39 => ?_) (fun h39 => ?_) | refine v_if_ge C 49 dX4_waves_39 (by decide) (fun h39 => ?_) (fun h39 => ?_)
              · refine v_aload C dX4_waves_49 rfl ?_
                first | refine gv_2_1 C (by assumption) (by assumption) wt_145 dX4_waves_51 ?_ | refine g_2_1 C (by assumption) wt_145 dX4_waves_51 ?_
                refine v_aload C dX4_waves_54 rfl ?_
                first | refine gv_2_3 C (by assumption) (by assumption) wt_156 dX4_waves_56 ?_ | refine g_2_3 C (by assumption) wt_156 dX4_waves_56 ?_
                first | refine v_imulN C dX4_waves_59 ?_ | refine v_imul C dX4_waves_59 ?_
                rw [hb]
                refine v_istore C dX4_waves_60 (by decide) ?_
                refine v_iload C dX4_waves_62 rfl ?_
                refine v_bipushN 12 (by decide) C dX4_waves_64 ?_
                first | refine v_icmp_leN C 76 dX4_waves_66 (by omega) (by omega) (by decide) (fun h66 => ?_) (fun h66 => ?_) | refine v_icmp_le C 76 dX4_waves_66 (by decide) (fun h66 => ?_) (fun h66 => ?_)
                · refine v_aload_n C dX4_waves_76 rfl ?_
                  refine v_aload C dX4_waves_77 rfl ?_
                  refine v_iload C dX4_waves_79 rfl ?_
                  refine v_callV2_0 C (m_X4_fillWaves T B) lk_X4_230 ⟨wt_509, ws_18⟩ 4 rfl dX4_waves_81 ⟨Nat.le_of_ble_eq_true rfl, Nat.le_of_ble_eq_true rfl⟩ (Nat.le_of_ble_eq_true rfl) ⟨Nat.le_of_ble_eq_true rfl, Nat.le_of_ble_eq_true rfl⟩ (by assumption) (cTo_4 (by assumption)) ?_
                  refine c_X4_fillWaves (P := prt (st.2.1 k)) hX hSc (by omega) hk2 hk3 o3 (by omega) hcd hPP (fun I2 hF hI2 => ?_)
                  refine v_iconstN 1 C dX4_waves_84 ?_
                  refine v_iload C dX4_waves_85 rfl ?_
                  first | refine v_ishlN C dX4_waves_87 (by omega) (by rw [Nat.one_mul]; omega) ?_ | refine v_ishl C dX4_waves_87 ?_
                  rw [Nat.one_mul]
                  refine v_istore C dX4_waves_88 (by decide) ?_
                  refine v_iload_n C dX4_waves_90 rfl ?_
                  refine v_istore C dX4_waves_91 (by decide) ?_
                  refine v_iconstN 1 C dX4_waves_93 ?_
                  refine v_istore C dX4_waves_94 (by decide) ?_
                  exact v_less (aft I2 hF (fun v hv => by unfold whW; rw [hb]; exact hI2 v hv) 1 hb1 L hL (Cq_scr hR0 (hF.wide (by omega) (by omega)) (fun _ _ _ => rfl) hp)) (by repeat (first | exact trivial | refine And.intro rfl ?_))
                · exact absurd h66 (by omega)
              · exact absurd h39 (fun q => q)
          · exact absurd h24 hkd
