theorem Cq_set2 {x z z' k : Nat} {sa : Nat → Nat} {st : St} {S S' : MS} {I I' : MI} {J : MJ} {R : MR} {D : SD} {Q : QT} (h : RcA x sa st z S I R) (hk : k < st.1) (hz : z ≤ z') (hS : ∀ b, b < z → S' b = S b) (hF : ∀ b i, b < z → ¬ (sa k ≤ b ∧ b ≤ sa k + 4) → I' b i = I b i) (hD : ScR D (sa k) S' I' R) (q : Cq x (setS st k D) S I J R Q) : Q z' S' I' J R := by
  obtain ⟨hX, hn, htl, hsc, hord, htr, hrf, hzz⟩ := h
  have hka := (hsc k hk).2.2.1
  refine q z' S' I' J R ⟨sa, hX.up (fun b h1 h2 => hS b (by omega)) (fun _ _ _ _ _ => rfl), (hF _ _ (by omega) (by omega)).trans hn, (hF _ _ (by omega) (by omega)).trans htl, fun l hl => ?_, hord, fun j hj => ?_, fun i hi => (hF _ _ (by omega) (by omega)).trans (hrf i hi), by omega⟩ (fun p h1 h2 => ⟨hS p (by omega), fun i => hF p i (by omega) (by omega), fun i => rfl, fun _ => rfl⟩)
  · obtain ⟨a1, a2, a3, a4⟩ := hsc l hl
    by_cases e : l = k
    · subst e
      refine ⟨a1, ?_, a3, by omega⟩
      show ScR (upF st.2.1 l D l) (sa l) S' I' R
      rw [upF_at]; exact hD
    · refine ⟨a1, ?_, a3, by omega⟩
      show ScR (upF st.2.1 k D l) (sa l) S' I' R
      rw [upF_ne _ _ e]
      refine a2.up (fun b h1 h2 => hS b (by omega)) (fun b i h1 h2 => hF b i (by omega) ?_) (fun _ => rfl)
      rcases Nat.lt_or_gt_of_ne e with g | g
      · have := hord l k g hk; omega
      · have := hord k l g hl; omega
  · obtain ⟨b1, b2, b3⟩ := htr j hj
    exact ⟨(hF _ _ (by omega) (by omega)).trans b1, (hF _ _ (by omega) (by omega)).trans b2, (hF _ _ (by omega) (by omega)).trans b3⟩
def dirD (D : SD) (F p : Nat) : SD := fun f i => if f = 2 then D 2 0 + 1 else if f = 6 ∧ D 2 0 * 8 ≤ i ∧ i < D 2 0 * 8 + D 3 0 then rB (rnT F p (dgF p 6) 8) (i - D 2 0 * 8) (D 3 0 - (i - D 2 0 * 8)) else D f i
def o_direction (st : St) (s p : Int32) (v : Int64) : Int32 × St := onS st.1 s (rfs st (-1) 1) fun k => if st.2.1 k 1 0 = 1 then (if p < nI 3 then rfs st (-4) 4 else if nI 127 < p ∨ 6 ≤ st.2.1 k 2 0 then rfs st (-6) 6 else if vN p % 2 = 1 ∧ allB (fFi (uL v)) (dgF (vN p) 6) = true then (nI (st.2.1 k 2 0), setS st k (dirD (st.2.1 k) (uL v) (vN p))) else rfs st (-3) 3) else rfs st (-2) 2
theorem dgF_1 : ∀ p, p < 128 → 2 ≤ p → 1 ≤ dgF p 6 := by decide +kernel
theorem fFi_lt {F q : Nat} (h : allB (fFi F) q = true) : ∀ k, 1 ≤ k → k ≤ q → vF F k < 2 ^ k := fun k h1 h2 => by
  have := allB_iff.mp h (k - 1) (by omega)
  simp only [fFi, Bool.and_eq_true, decide_eq_true_eq] at this
  rw [show k - 1 + 1 = k by omega] at this
  exact this.2
theorem ScR_dir {D : SD} {a F p z : Nat} {S S' : MS} {I I' : MI} {R : MR} (h : ScR D a S I R) (hO : OkD D) (h1 : D 1 0 = 1) (h6 : D 2 0 < 6) (haz : a + 4 < z) (hS : ∀ b, b < z → S' b = S b) (hA : FrA I I' a (D 2 0) (D 4 0) (D 3 0) z) (h3 : I' a 3 = nI (D 2 0 + 1)) (hr : ∀ i, i < D 3 0 → I' (a + 1) (D 2 0 * 8 + i) = nI (rB (rnT F p (dgF p 6) 8) i (D 3 0 - i))) (hc : ∀ n, n < D 4 0 → I' (a + 4) (D 2 0 * D 4 0 + n) = nI (pm (fun i => rB (rnT F p (dgF p 6) 8) i (D 3 0 - i)) (D 3 0) n ^^^ D 7 (D 2 0))) : ScR (dirD D F p) a S' I' R := by
  obtain ⟨g0, g1, g2, g3, g4, g5, g6, g7, g8, g9⟩ := h
  obtain ⟨o1, o2, o3, o4, o5, o6, o7, o8, o9, o10, o11, o12⟩ := hO
  have e : ∀ f i, f ≠ 2 → f ≠ 6 → dirD D F p f i = D f i := fun f i f2 f6 => by unfold dirD; rw [if_neg f2, if_neg (fun q => f6 q.1)]
  have er : ∀ i, i < D 3 0 → dirD D F p 6 (D 2 0 * 8 + i) = rB (rnT F p (dgF p 6) 8) i (D 3 0 - i) := fun i hi => by
    unfold dirD; rw [if_neg (by decide), if_pos ⟨rfl, by omega, by omega⟩, show D 2 0 * 8 + i - D 2 0 * 8 = i by omega]
  have eo : ∀ i, ¬ (D 2 0 * 8 ≤ i ∧ i < D 2 0 * 8 + D 3 0) → dirD D F p 6 i = D 6 i := fun i hi => by unfold dirD; rw [if_neg (by decide), if_neg (fun q => hi q.2)]
  have ed : dirD D F p 2 0 = D 2 0 + 1 := rfl
  have e4 := e 4 0 (by decide) (by decide)
  have e1 := e 1 0 (by decide) (by decide)
  have e3 := e 3 0 (by decide) (by decide)
  have e5 := e 5 0 (by decide) (by decide)
  refine ⟨by rw [e4]; exact g0.up (fun b q1 q2 => hS b (by omega)) (fun _ => rfl), ?_, ?_, ?_, ?_, ?_, fun i hi => ?_, fun i hi => ?_, fun i hi => ?_, fun n j q1 q2 => ?_⟩
  · rw [e1, hA _ _ (by omega) (by omega) (by omega) (by omega)]; exact g1
  · unfold pwI; rw [e1, e3, hA _ _ (by omega) (by omega) (by omega) (by omega)]; exact g2
  · rw [e4, hA _ _ (by omega) (by omega) (by omega) (by omega)]; exact g3
  · rw [ed]; exact h3
  · rw [e5, hA _ _ (by omega) (by omega) (by omega) (by omega)]; exact g5
  · by_cases c : D 2 0 * 8 ≤ i ∧ i < D 2 0 * 8 + D 3 0
    · obtain ⟨t, rfl⟩ : ∃ t, i = D 2 0 * 8 + t := ⟨i - D 2 0 * 8, by omega⟩
      rw [er t (by omega)]; exact hr t (by omega)
    · rw [eo i c, hA _ _ (by omega) (by omega) (by omega) (by omega)]; exact g6 i hi
  · rw [e 7 _ (by decide) (by decide), hA _ _ (by omega) (by omega) (by omega) (by omega)]; exact g7 i hi
  · rw [e 8 _ (by decide) (by decide), hA _ _ (by omega) (by omega) (by omega) (by omega)]; exact g8 i hi
  · rw [e4] at q1 ⊢
    rw [ed] at q2
    have ep : prt (dirD D F p) n j = pm (fun i => dirD D F p 6 (j * 8 + i)) (D 3 0) n ^^^ D 7 j := by
      unfold prt; rw [e1, e3, e 7 _ (by decide) (by decide), if_neg (by omega), if_neg (by omega)]
    by_cases c : j = D 2 0
    · subst c
      rw [ep, hc n q1, pm_congr n (D 3 0) (fun i hi => er i hi)]
    · have ep2 : prt D n j = pm (fun i => D 6 (j * 8 + i)) (D 3 0) n ^^^ D 7 j := by unfold prt; rw [if_neg (by omega), if_neg (by omega)]
      rw [ep, pm_congr n (D 3 0) (ro' := fun i => D 6 (j * 8 + i)) (fun i hi => eo _ (by omega)), ← ep2, hA _ _ (by omega) (by omega) (fun w => c (jc_inj q1 (n' := j * D 4 0 + n - D 2 0 * D 4 0) (by omega) (by omega)).1) (by omega)]
      exact g9 n j q1 (by omega)
def s_X4_direction : Sp := fun av z S I J R Post => ∃ (x : Nat), ∃ (st : St), ∃ (s p : Int32), ∃ (v : Int64), av = [.ref x, .int s, .int p, .long v] ∧ (Rc x st z S I R) ∧ (Ok st) ∧ (Cq x (o_direction st s p v).2 S I J R (fun z' S' I' J' R' => Post (o_direction st s p v).1 0 none z' S' I' J' R'))
theorem c_X4_direction {x : Nat} {st : St} {s p : Int32} {v : Int64} {z : Nat} {S : MS} {I : MI} {J : MJ} {R : MR} {Post : PT} (hR : Rc x st z S I R) (hO : Ok st) (hp : Cq x (o_direction st s p v).2 S I J R (fun z' S' I' J' R' => Post (o_direction st s p v).1 0 none z' S' I' J' R')) : s_X4_direction [.ref x, .int s, .int p, .long v] z S I J R Post := ⟨x, st, s, p, v, rfl, hR, hO, hp⟩
set_option maxRecDepth 100000 in
set_option maxHeartbeats 1000000 in
theorem m_X4_direction (T : TC) (B : Nat) : Mt T B yX4_direction cX4_direction 6 (some .int) 1 (rmL 5 1 9) s_X4_direction := by
  refine Mt_of rfl (by rintro _ _ _ _ _ _ _ ⟨_, _, _, _, _, rfl, -⟩; exact Nat.le_of_ble_eq_true rfl) ?_
  intro X av z S I J R Post h C Q hI
  obtain ⟨x, st, s, p, v, rfl, hR, hO, hp⟩ := h
  have hR0 := hR
  obtain ⟨sa, hX, hn, htl, hsc, hord, htr, hrf, hzz⟩ := hR
  have hn12 := hO.1
  have hx := hX.1
  have hT := hX.2.2.2.2.2.2.2.2.1
  rcases Oo_or s st.1 (by omega) with ho | ⟨k, hk, rfl⟩
  · have e : o_direction st s p v = rfs st (-1) 1 := by unfold o_direction; rw [onS_o ho]
    rw [e] at hp
    refine v_aload_n C dX4_direction_0 rfl ?_
    refine v_iload_n C dX4_direction_1 rfl ?_
    refine v_callV1_3 C (m_X4_find T B) lk_X4_65 ⟨wt_194, ws_3⟩ 4 rfl dX4_direction_2 ⟨Nat.le_of_ble_eq_true rfl, Nat.le_of_ble_eq_true rfl⟩ (Nat.le_of_ble_eq_true rfl) ⟨Nat.le_of_ble_eq_true rfl, Nat.le_of_ble_eq_true rfl⟩ (by assumption) (cTo_4 (by assumption)) ?_
    refine c_find_o hX hn hn12 (fun k hk => (hsc k hk).1) ho ?_
    refine v_astoreN C dX4_direction_5 (by decide) ?_
    refine v_aloadN C dX4_direction_7 rfl ?_
    refine v_ifnonnullN C dX4_direction_9 ?_
    refine v_aload_n C dX4_direction_12 rfl ?_
    refine v_iconst (v := -1) C dX4_direction_13 (by decide) ?_
    refine v_callV1_1 C (m_X4_refuse T B) lk_X4_54 ⟨wt_129, ws_1⟩ 4 rfl dX4_direction_14 ⟨Nat.le_of_ble_eq_true rfl, Nat.le_of_ble_eq_true rfl⟩ (Nat.le_of_ble_eq_true rfl) ⟨Nat.le_of_ble_eq_true rfl, Nat.le_of_ble_eq_true rfl⟩ (by assumption) (cTo_4 (by assumption)) ?_
    refine c_X4_refuse (k := 1) hX (by decide) (by decide) ?_
    refine v_iret C Q dX4_direction_17 (Nat.le_of_ble_eq_true rfl) (Nat.le_of_ble_eq_true rfl) ?_
    have w := Cq_rf (k := 1) hR0 (by decide) hp
    exact w
  · obtain ⟨hrk, hSR, hka, hkz⟩ := hsc k hk
    have hSR0 := hSR
    obtain ⟨hSc, hk0, hk1, hk2, hk3, hk4, hk5, hk6, hk7, hk8⟩ := hSR
    have hOk := hO.2.1 k hk
    obtain ⟨o1, o2, o3, o4, o5, o6, o7, o8, o9, o10, o11, o12⟩ := hOk
    have hs := hSc.1
    unfold o_direction at hp
    rw [onS_k hk (by omega)] at hp
    by_cases hkd : st.2.1 k 1 0 = 1
    · rw [if_pos hkd] at hp
      have hpw : I (sa k) 1 = nI (st.2.1 k 3 0) := by rw [hk1]; unfold pwI; rw [if_neg (by omega)]
      by_cases e1 : p < nI 3
      · rw [if_pos e1] at hp
        refine v_aload_n C dX4_direction_0 rfl ?_
        refine v_iload_n C dX4_direction_1 rfl ?_
        refine v_callV1_3 C (m_X4_find T B) lk_X4_65 ⟨wt_194, ws_3⟩ 4 rfl dX4_direction_2 ⟨Nat.le_of_ble_eq_true rfl, Nat.le_of_ble_eq_true rfl⟩ (Nat.le_of_ble_eq_true rfl) ⟨Nat.le_of_ble_eq_true rfl, Nat.le_of_ble_eq_true rfl⟩ (by assumption) (cTo_4 (by assumption)) ?_
        refine c_find_k hX hn hn12 (fun k hk => (hsc k hk).1) hk ?_
        refine v_astore C dX4_direction_5 (by decide) ?_
        refine v_aload C dX4_direction_7 rfl ?_
        refine v_ifnonnull C 18 dX4_direction_9 (by decide) ?_
        refine v_aload C dX4_direction_18 rfl ?_
        first | refine gv_2_0 C (by assumption) (by assumption) wt_143 dX4_direction_20 ?_ | refine g_2_0 C (by assumption) wt_143 dX4_direction_20 ?_
        refine v_iconstN 1 C dX4_direction_23 ?_
        first | refine v_icmp_eqN C 34 dX4_direction_24 (by omega) (by omega) (by decide) (fun h24 => ?_) (fun h24 => ?_) | refine v_icmp_eq C 34 dX4_direction_24 (by decide) (fun h24 => ?_) (fun h24 => ?_)
        · refine v_iload_n C dX4_direction_34 rfl ?_
          refine v_iconstN 3 C dX4_direction_35 ?_
          refine v_icmp_ge C 46 dX4_direction_36 (by decide) (fun h36 => ?_) (fun h36 => ?_)
          · exact absurd e1 (Int32.not_lt.mpr h36)
          · refine v_aload_n C dX4_direction_39 rfl ?_
            refine v_bipush (v := -4) C dX4_direction_40 (by decide) ?_
            refine v_callV1_1 C (m_X4_refuse T B) lk_X4_54 ⟨wt_129, ws_1⟩ 4 rfl dX4_direction_42 ⟨Nat.le_of_ble_eq_true rfl, Nat.le_of_ble_eq_true rfl⟩ (Nat.le_of_ble_eq_true rfl) ⟨Nat.le_of_ble_eq_true rfl, Nat.le_of_ble_eq_true rfl⟩ (by assumption) (cTo_4 (by assumption)) ?_
            refine c_X4_refuse (k := 4) hX (by decide) (by decide) ?_
            refine v_iret C Q dX4_direction_45 (Nat.le_of_ble_eq_true rfl) (Nat.le_of_ble_eq_true rfl) ?_
            have w := Cq_rf (k := 4) hR0 (by decide) hp
            exact w
        · exact absurd hkd h24
      · rw [if_neg e1] at hp
        by_cases e2 : nI 127 < p ∨ 6 ≤ st.2.1 k 2 0
        · rw [if_pos e2] at hp
          refine v_aload_n C dX4_direction_0 rfl ?_
          refine v_iload_n C dX4_direction_1 rfl ?_
          refine v_callV1_3 C (m_X4_find T B) lk_X4_65 ⟨wt_194, ws_3⟩ 4 rfl dX4_direction_2 ⟨Nat.le_of_ble_eq_true rfl, Nat.le_of_ble_eq_true rfl⟩ (Nat.le_of_ble_eq_true rfl) ⟨Nat.le_of_ble_eq_true rfl, Nat.le_of_ble_eq_true rfl⟩ (by assumption) (cTo_4 (by assumption)) ?_
          refine c_find_k hX hn hn12 (fun k hk => (hsc k hk).1) hk ?_
          refine v_astore C dX4_direction_5 (by decide) ?_
          refine v_aload C dX4_direction_7 rfl ?_
          refine v_ifnonnull C 18 dX4_direction_9 (by decide) ?_
          refine v_aload C dX4_direction_18 rfl ?_
          first | refine gv_2_0 C (by assumption) (by assumption) wt_143 dX4_direction_20 ?_ | refine g_2_0 C (by assumption) wt_143 dX4_direction_20 ?_
          refine v_iconstN 1 C dX4_direction_23 ?_
          first | refine v_icmp_eqN C 34 dX4_direction_24 (by omega) (by omega) (by decide) (fun h24 => ?_) (fun h24 => ?_) | refine v_icmp_eq C 34 dX4_direction_24 (by decide) (fun h24 => ?_) (fun h24 => ?_)
          · refine v_iload_n C dX4_direction_34 rfl ?_
            refine v_iconstN 3 C dX4_direction_35 ?_
            refine v_icmp_ge C 46 dX4_direction_36 (by decide) (fun h36 => ?_) (fun h36 => ?_)
            · refine v_iload_n C dX4_direction_46 rfl ?_
              refine v_bipushN 127 (by decide) C dX4_direction_47 ?_
              refine v_icmp_gt C 62 dX4_direction_49 (by decide) (fun h49 => ?_) (fun h49 => ?_)
              · refine v_aload_n C dX4_direction_62 rfl ?_
                refine v_bipush (v := -6) C dX4_direction_63 (by decide) ?_
                refine v_callV1_1 C (m_X4_refuse T B) lk_X4_54 ⟨wt_129, ws_1⟩ 4 rfl dX4_direction_65 ⟨Nat.le_of_ble_eq_true rfl, Nat.le_of_ble_eq_true rfl⟩ (Nat.le_of_ble_eq_true rfl) ⟨Nat.le_of_ble_eq_true rfl, Nat.le_of_ble_eq_true rfl⟩ (by assumption) (cTo_4 (by assumption)) ?_
                refine c_X4_refuse (k := 6) hX (by decide) (by decide) ?_
                refine v_iret C Q dX4_direction_68 (Nat.le_of_ble_eq_true rfl) (Nat.le_of_ble_eq_true rfl) ?_
                have w := Cq_rf (k := 6) hR0 (by decide) hp
                exact w
              · refine v_aload C dX4_direction_52 rfl ?_
                first | refine gv_2_3 C (by assumption) (by assumption) wt_156 dX4_direction_54 ?_ | refine g_2_3 C (by assumption) wt_156 dX4_direction_54 ?_
                refine v_bipushN 6 (by decide) C dX4_direction_57 ?_
                first | refine v_icmp_ltN C 69 dX4_direction_59 (by omega) (by omega) (by decide) (fun h59 => ?_) (fun h59 => ?_) | refine v_icmp_lt C 69 dX4_direction_59 (by decide) (fun h59 => ?_) (fun h59 => ?_)
                · exact absurd e2 (fun q => q.elim h49 (fun q => absurd h59 (by omega)))
                · refine v_aload_n C dX4_direction_62 rfl ?_
                  refine v_bipush (v := -6) C dX4_direction_63 (by decide) ?_
                  refine v_callV1_1 C (m_X4_refuse T B) lk_X4_54 ⟨wt_129, ws_1⟩ 4 rfl dX4_direction_65 ⟨Nat.le_of_ble_eq_true rfl, Nat.le_of_ble_eq_true rfl⟩ (Nat.le_of_ble_eq_true rfl) ⟨Nat.le_of_ble_eq_true rfl, Nat.le_of_ble_eq_true rfl⟩ (by assumption) (cTo_4 (by assumption)) ?_
                  refine c_X4_refuse (k := 6) hX (by decide) (by decide) ?_
                  refine v_iret C Q dX4_direction_68 (Nat.le_of_ble_eq_true rfl) (Nat.le_of_ble_eq_true rfl) ?_
                  have w := Cq_rf (k := 6) hR0 (by decide) hp
                  exact w
            · exact absurd (Int32.not_le.mp h36) e1
          · exact absurd hkd h24
        · rw [if_neg e2] at hp
          have p2 : ¬ nI 127 < p := fun q => e2 (Or.inl q)
          have d2 : st.2.1 k 2 0 < 6 := Nat.lt_of_not_le (fun q => e2 (Or.inr q))
          have p0 : ¬ p < 0 := fun q => by
            have a1 := Int32.le_iff_toInt_le.mp (Int32.not_lt.mp e1)
            have a2 := Int32.lt_iff_toInt_lt.mp q
            rw [nI_toInt (by decide)] at a1
            have : (0 : Int32).toInt = 0 := rfl
            omega
          obtain ⟨P, hP, rfl⟩ := nI_of2 (M := nI 127) (n := 127) (nI_toInt (by decide)) p0 (Int32.not_lt.mp p2)
          have hP3 : 3 ≤ P := Nat.le_of_not_lt (fun q => e1 (nI_lt q (by decide)))
          rw [vN_nI (by omega)] at hp
          have hvv := lN_uL v
          have huv := uL_lt v
          generalize uL v = F at *
          subst hvv
          have hq1 := dgF_1 P (by omega) (by omega)
          have hq6 := dgF_le P 6
          by_cases e3 : P % 2 = 1 ∧ allB (fFi F) (dgF P 6) = true
          · rw [if_pos e3] at hp
            refine v_aload_n C dX4_direction_0 rfl ?_
            refine v_iload_n C dX4_direction_1 rfl ?_
            refine v_callV1_3 C (m_X4_find T B) lk_X4_65 ⟨wt_194, ws_3⟩ 4 rfl dX4_direction_2 ⟨Nat.le_of_ble_eq_true rfl, Nat.le_of_ble_eq_true rfl⟩ (Nat.le_of_ble_eq_true rfl) ⟨Nat.le_of_ble_eq_true rfl, Nat.le_of_ble_eq_true rfl⟩ (by assumption) (cTo_4 (by assumption)) ?_
            refine c_find_k hX hn hn12 (fun k hk => (hsc k hk).1) hk ?_
            refine v_astore C dX4_direction_5 (by decide) ?_
            refine v_aload C dX4_direction_7 rfl ?_
            refine v_ifnonnull C 18 dX4_direction_9 (by decide) ?_
            refine v_aload C dX4_direction_18 rfl ?_
            first | refine gv_2_0 C (by assumption) (by assumption) wt_143 dX4_direction_20 ?_ | refine g_2_0 C (by assumption) wt_143 dX4_direction_20 ?_
            refine v_iconstN 1 C dX4_direction_23 ?_
            first | refine v_icmp_eqN C 34 dX4_direction_24 (by omega) (by omega) (by decide) (fun h24 => ?_) (fun h24 => ?_) | refine v_icmp_eq C 34 dX4_direction_24 (by decide) (fun h24 => ?_) (fun h24 => ?_)
            · refine v_iload_n C dX4_direction_34 rfl ?_
              refine v_iconstN 3 C dX4_direction_35 ?_
              first | refine v_icmp_geN C 46 dX4_direction_36 (by omega) (by omega) (by decide) (fun h36 => ?_) (fun h36 => ?_) | refine v_icmp_ge C 46 dX4_direction_36 (by decide) (fun h36 => ?_) (fun h36 => ?_)
              · refine v_iload_n C dX4_direction_46 rfl ?_
                refine v_bipushN 127 (by decide) C dX4_direction_47 ?_
                first | refine v_icmp_gtN C 62 dX4_direction_49 (by omega) (by omega) (by decide) (fun h49 => ?_) (fun h49 => ?_) | refine v_icmp_gt C 62 dX4_direction_49 (by decide) (fun h49 => ?_) (fun h49 => ?_)
                · exact absurd h49 (by omega)
                · refine v_aload C dX4_direction_52 rfl ?_
                  first | refine gv_2_3 C (by assumption) (by assumption) wt_156 dX4_direction_54 ?_ | refine g_2_3 C (by assumption) wt_156 dX4_direction_54 ?_
                  refine v_bipushN 6 (by decide) C dX4_direction_57 ?_
                  first | refine v_icmp_ltN C 69 dX4_direction_59 (by omega) (by omega) (by decide) (fun h59 => ?_) (fun h59 => ?_) | refine v_icmp_lt C 69 dX4_direction_59 (by decide) (fun h59 => ?_) (fun h59 => ?_)
                  · refine v_iload_n C dX4_direction_69 rfl ?_
                    refine v_iconstN 2 C dX4_direction_70 ?_
                    first | refine v_iremN C dX4_direction_71 (by omega) (by omega) (by omega) ?_ | refine v_irem C dX4_direction_71 (by assumption) ?_
                    first | refine v_if_eqN C 86 dX4_direction_72 (by omega) (by decide) (fun h72 => ?_) (fun h72 => ?_) | refine v_if_eq C 86 dX4_direction_72 (by decide) (fun h72 => ?_) (fun h72 => ?_)
                    · exact absurd h72 (by omega)
                    · refine v_iload_n C dX4_direction_75 rfl ?_
                      refine v_callS1_1 C (m_X4_degree T B) lk_X4_96 wt_226 dX4_direction_76 ⟨Nat.le_of_ble_eq_true rfl, Nat.le_of_ble_eq_true rfl⟩ (Nat.le_of_ble_eq_true rfl) ⟨Nat.le_of_ble_eq_true rfl, Nat.le_of_ble_eq_true rfl⟩ ?_
                      refine c_X4_degree (by omega) ?_
                      refine v_lload_n C dX4_direction_79 rfl ?_
                      refine v_callS2_1 C (m_X4_firstsMayBe T B) lk_X4_99 wt_229 dX4_direction_80 ⟨Nat.le_of_ble_eq_true rfl, Nat.le_of_ble_eq_true rfl⟩ (Nat.le_of_ble_eq_true rfl) ⟨Nat.le_of_ble_eq_true rfl, Nat.le_of_ble_eq_true rfl⟩ ?_
                      refine c_X4_firstsMayBe huv hq6 ?_
                      rw [e3.2]
                      first | refine v_if_neN C 93 dX4_direction_83 (by omega) (by decide) (fun h83 => ?_) (fun h83 => ?_) | refine v_if_ne C 93 dX4_direction_83 (by decide) (fun h83 => ?_) (fun h83 => ?_)
                      · refine v_aload C dX4_direction_93 rfl ?_
                        refine v_iload_n C dX4_direction_95 rfl ?_
                        refine v_iload_n C dX4_direction_96 rfl ?_
                        refine v_callS1_1 C (m_X4_degree T B) lk_X4_96 wt_226 dX4_direction_97 ⟨Nat.le_of_ble_eq_true rfl, Nat.le_of_ble_eq_true rfl⟩ (Nat.le_of_ble_eq_true rfl) ⟨Nat.le_of_ble_eq_true rfl, Nat.le_of_ble_eq_true rfl⟩ ?_
                        refine c_X4_degree (by omega) ?_
                        refine v_lload_n C dX4_direction_100 rfl ?_
                        refine v_callV3_0 C (m_X2_addRung T B) lk_X4_103 ⟨wt_236, wt_237⟩ 2 rfl dX4_direction_101 ⟨Nat.le_of_ble_eq_true rfl, Nat.le_of_ble_eq_true rfl⟩ (Nat.le_of_ble_eq_true rfl) ⟨Nat.le_of_ble_eq_true rfl, Nat.le_of_ble_eq_true rfl⟩ (by assumption) (cTo_2 (by assumption)) ?_
                        refine c_X2_addRung hSc hpw hk2 o4 (o7 (by omega)) hk3 d2 (hk6 _ (by omega)) huv (by omega) hq1 hq6 (fFi_lt e3.2) (fun I2 hA2 t3 tr tc => ?_)
                        have hsz : su S z 7 9 (sa k) = (3, 0) := (su_ne _ (by omega)).trans hs
                        refine v_aload C dX4_direction_104 rfl ?_
                        first | refine gv_2_3 C (by assumption) t3 wt_156 dX4_direction_106 ?_ | refine g_2_3 C (by assumption) wt_156 dX4_direction_106 ?_
                        refine v_iconstN 1 C dX4_direction_109 ?_
                        first | refine v_isubN C dX4_direction_110 (by omega) ?_ | refine v_isub C dX4_direction_110 ?_
                        refine v_iret C Q dX4_direction_111 (Nat.le_of_ble_eq_true rfl) (Nat.le_of_ble_eq_true rfl) ?_
                        have w := Cq_set2 (z' := z + 1) ⟨hX, hn, htl, hsc, hord, htr, hrf, hzz⟩ hk (by omega) (S' := su S z 7 9) (fun b hb => su_ne _ (by omega)) (fun b i hb hb2 => hA2 b i (by omega) (by omega) (by omega) (by omega)) (ScR_dir hSR0 (hO.2.1 k hk) hkd d2 hkz (fun b hb => su_ne _ (by omega)) hA2 t3 tr tc) hp
                        exact w
                      · exact absurd h83 (by decide)
                  · exact absurd d2 (by omega)
              · exact absurd h36 (by omega)
            · exact absurd hkd h24
          · rw [if_neg e3] at hp
            refine v_aload_n C dX4_direction_0 rfl ?_
            refine v_iload_n C dX4_direction_1 rfl ?_
            refine v_callV1_3 C (m_X4_find T B) lk_X4_65 ⟨wt_194, ws_3⟩ 4 rfl dX4_direction_2 ⟨Nat.le_of_ble_eq_true rfl, Nat.le_of_ble_eq_true rfl⟩ (Nat.le_of_ble_eq_true rfl) ⟨Nat.le_of_ble_eq_true rfl, Nat.le_of_ble_eq_true rfl⟩ (by assumption) (cTo_4 (by assumption)) ?_
            refine c_find_k hX hn hn12 (fun k hk => (hsc k hk).1) hk ?_
            refine v_astore C dX4_direction_5 (by decide) ?_
            refine v_aload C dX4_direction_7 rfl ?_
            refine v_ifnonnull C 18 dX4_direction_9 (by decide) ?_
            refine v_aload C dX4_direction_18 rfl ?_
            first | refine gv_2_0 C (by assumption) (by assumption) wt_143 dX4_direction_20 ?_ | refine g_2_0 C (by assumption) wt_143 dX4_direction_20 ?_
            refine v_iconstN 1 C dX4_direction_23 ?_
            first | refine v_icmp_eqN C 34 dX4_direction_24 (by omega) (by omega) (by decide) (fun h24 => ?_) (fun h24 => ?_) | refine v_icmp_eq C 34 dX4_direction_24 (by decide) (fun h24 => ?_) (fun h24 => ?_)
            · refine v_iload_n C dX4_direction_34 rfl ?_
              refine v_iconstN 3 C dX4_direction_35 ?_
              first | refine v_icmp_geN C 46 dX4_direction_36 (by omega) (by omega) (by decide) (fun h36 => ?_) (fun h36 => ?_) | refine v_icmp_ge C 46 dX4_direction_36 (by decide) (fun h36 => ?_) (fun h36 => ?_)
              · refine v_iload_n C dX4_direction_46 rfl ?_
                refine v_bipushN 127 (by decide) C dX4_direction_47 ?_
                first | refine v_icmp_gtN C 62 dX4_direction_49 (by omega) (by omega) (by decide) (fun h49 => ?_) (fun h49 => ?_) | refine v_icmp_gt C 62 dX4_direction_49 (by decide) (fun h49 => ?_) (fun h49 => ?_)
                · exact absurd h49 (by omega)
                · refine v_aload C dX4_direction_52 rfl ?_
                  first | refine gv_2_3 C (by assumption) (by assumption) wt_156 dX4_direction_54 ?_ | refine g_2_3 C (by assumption) wt_156 dX4_direction_54 ?_
                  refine v_bipushN 6 (by decide) C dX4_direction_57 ?_
                  first | refine v_icmp_ltN C 69 dX4_direction_59 (by omega) (by omega) (by decide) (fun h59 => ?_) (fun h59 => ?_) | refine v_icmp_lt C 69 dX4_direction_59 (by decide) (fun h59 => ?_) (fun h59 => ?_)
                  · refine v_iload_n C dX4_direction_69 rfl ?_
                    refine v_iconstN 2 C dX4_direction_70 ?_
                    first | refine v_iremN C dX4_direction_71 (by omega) (by omega) (by omega) ?_ | refine v_irem C dX4_direction_71 (by assumption) ?_
                    first | refine v_if_eqN C 86 dX4_direction_72 (by omega) (by decide) (fun h72 => ?_) (fun h72 => ?_) | refine v_if_eq C 86 dX4_direction_72 (by decide) (fun h72 => ?_) (fun h72 => ?_)
                    · refine v_aload_n C dX4_direction_86 rfl ?_
                      refine v_bipush (v := -3) C dX4_direction_87 (by decide) ?_
                      refine v_callV1_1 C (m_X4_refuse T B) lk_X4_54 ⟨wt_129, ws_1⟩ 4 rfl dX4_direction_89 ⟨Nat.le_of_ble_eq_true rfl, Nat.le_of_ble_eq_true rfl⟩ (Nat.le_of_ble_eq_true rfl) ⟨Nat.le_of_ble_eq_true rfl, Nat.le_of_ble_eq_true rfl⟩ (by assumption) (cTo_4 (by assumption)) ?_
                      refine c_X4_refuse (k := 3) hX (by decide) (by decide) ?_
                      refine v_iret C Q dX4_direction_92 (Nat.le_of_ble_eq_true rfl) (Nat.le_of_ble_eq_true rfl) ?_
                      have w := Cq_rf (k := 3) hR0 (by decide) hp
                      exact w
                    · refine v_iload_n C dX4_direction_75 rfl ?_
                      refine v_callS1_1 C (m_X4_degree T B) lk_X4_96 wt_226 dX4_direction_76 ⟨Nat.le_of_ble_eq_true rfl, Nat.le_of_ble_eq_true rfl⟩ (Nat.le_of_ble_eq_true rfl) ⟨Nat.le_of_ble_eq_true rfl, Nat.le_of_ble_eq_true rfl⟩ ?_
                      refine c_X4_degree (by omega) ?_
                      refine v_lload_n C dX4_direction_79 rfl ?_
                      refine v_callS2_1 C (m_X4_firstsMayBe T B) lk_X4_99 wt_229 dX4_direction_80 ⟨Nat.le_of_ble_eq_true rfl, Nat.le_of_ble_eq_true rfl⟩ (Nat.le_of_ble_eq_true rfl) ⟨Nat.le_of_ble_eq_true rfl, Nat.le_of_ble_eq_true rfl⟩ ?_
                      refine c_X4_firstsMayBe huv hq6 ?_
                      refine v_if_ne C 93 dX4_direction_83 (by decide) (fun h83 => ?_) (fun h83 => ?_)
                      · exfalso
                        apply e3
                        refine ⟨by omega, ?_⟩
                        cases hh : allB (fFi F) (dgF P 6) with
                        | true => rfl
                        | false => rw [hh] at h83; exact absurd rfl h83
                        skip
                      · refine v_aload_n C dX4_direction_86 rfl ?_
                        refine v_bipush (v := -3) C dX4_direction_87 (by decide) ?_
                        refine v_callV1_1 C (m_X4_refuse T B) lk_X4_54 ⟨wt_129, ws_1⟩ 4 rfl dX4_direction_89 ⟨Nat.le_of_ble_eq_true rfl, Nat.le_of_ble_eq_true rfl⟩ (Nat.le_of_ble_eq_true rfl) ⟨Nat.le_of_ble_eq_true rfl, Nat.le_of_ble_eq_true rfl⟩ (by assumption) (cTo_4 (by assumption)) ?_
                        refine c_X4_refuse (k := 3) hX (by decide) (by decide) ?_
                        refine v_iret C Q dX4_direction_92 (Nat.le_of_ble_eq_true rfl) (Nat.le_of_ble_eq_true rfl) ?_
                        have w := Cq_rf (k := 3) hR0 (by decide) hp
                        exact w
                  · exact absurd d2 (by omega)
              · exact absurd h36 (by omega)
            · exact absurd hkd h24
    · rw [if_neg hkd] at hp
      refine v_aload_n C dX4_direction_0 rfl ?_
      refine v_iload_n C dX4_direction_1 rfl ?_
      refine v_callV1_3 C (m_X4_find T B) lk_X4_65 ⟨wt_194, ws_3⟩ 4 rfl dX4_direction_2 ⟨Nat.le_of_ble_eq_true rfl, Nat.le_of_ble_eq_true rfl⟩ (Nat.le_of_ble_eq_true rfl) ⟨Nat.le_of_ble_eq_true rfl, Nat.le_of_ble_eq_true rfl⟩ (by assumption) (cTo_4 (by assumption)) ?_
      refine c_find_k hX hn hn12 (fun k hk => (hsc k hk).1) hk ?_
      refine v_astore C dX4_direction_5 (by decide) ?_
      refine v_aload C dX4_direction_7 rfl ?_
      refine v_ifnonnull C 18 dX4_direction_9 (by decide) ?_
      refine v_aload C dX4_direction_18 rfl ?_
      first | refine gv_2_0 C (by assumption) (by assumption) wt_143 dX4_direction_20 ?_ | refine g_2_0 C (by assumption) wt_143 dX4_direction_20 ?_
      refine v_iconstN 1 C dX4_direction_23 ?_
      first | refine v_icmp_eqN C 34 dX4_direction_24 (by omega) (by omega) (by decide) (fun h24 => ?_) (fun h24 => ?_) | refine v_icmp_eq C 34 dX4_direction_24 (by decide) (fun h24 => ?_) (fun h24 => ?_)
      · exact absurd h24 hkd
      · refine v_aload_n C dX4_direction_27 rfl ?_
        refine v_bipush (v := -2) C dX4_direction_28 (by decide) ?_
        refine v_callV1_1 C (m_X4_refuse T B) lk_X4_54 ⟨wt_129, ws_1⟩ 4 rfl dX4_direction_30 ⟨Nat.le_of_ble_eq_true rfl, Nat.le_of_ble_eq_true rfl⟩ (Nat.le_of_ble_eq_true rfl) ⟨Nat.le_of_ble_eq_true rfl, Nat.le_of_ble_eq_true rfl⟩ (by assumption) (cTo_4 (by assumption)) ?_
        refine c_X4_refuse (k := 2) hX (by decide) (by decide) ?_
        refine v_iret C Q dX4_direction_33 (Nat.le_of_ble_eq_true rfl) (Nat.le_of_ble_eq_true rfl) ?_
        have w := Cq_rf (k := 2) hR0 (by decide) hp
        exact w
