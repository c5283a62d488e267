theorem ScR.col {D : SD} {a f i v j : Nat} {S : MS} {I I' : MI} {R : MR} (h : ScR D a S I R) (hf : f = 6 ∨ f = 7 ∨ f = 8) (hF : Fr (mu I (a + (f - 5)) i (nI v)) I' (a + 4) (j * D 4 0) (j * D 4 0 + D 4 0)) (hc : ∀ n, n < D 4 0 → I' (a + 4) (j * D 4 0 + n) = nI (prt (mu D f i v) n j)) (ho : ∀ n j', j' ≠ j → prt (mu D f i v) n j' = prt D n j') : ScR (mu D f i v) a S I' R := by
  obtain ⟨h0, h1, h2, h3, h4, h5, h6, h7, h8, h9⟩ := h
  have e : ∀ g k, g < 6 → mu D f i v g k = D g k := fun g k hg => mu_other _ _ (by omega)
  have q : ∀ b k, b < a + 4 → I' b k = mu I (a + (f - 5)) i (nI v) b k := fun b k hb => hF b k (by omega)
  have e1 := e 1 0 (by decide)
  have e2 := e 2 0 (by decide)
  have e3 := e 3 0 (by decide)
  have e4 := e 4 0 (by decide)
  have e5 := e 5 0 (by decide)
  have st : ∀ (g k : Nat), 6 ≤ g → g ≤ 8 → I (a + (g - 5)) k = nI (D g k) → I' (a + (g - 5)) k = nI (mu D f i v g k) := fun g k g1 g2 hk => by
    rw [q _ _ (by omega)]
    by_cases c : g = f ∧ k = i
    · obtain ⟨rfl, rfl⟩ := c
      rw [mu_at, mu_at]
    · rw [mu_other _ _ c, mu_other _ _ (by omega)]; exact hk
  refine ⟨by rw [e4]; exact h0, ?_, ?_, ?_, ?_, ?_, fun k hk => st 6 k (by decide) (by decide) (h6 k hk), fun k hk => st 7 k (by decide) (by decide) (h7 k hk), fun k hk => st 8 k (by decide) (by decide) (h8 k hk), fun n j' q1 q2 => ?_⟩
  · rw [e1, q _ _ (by omega), mu_ne _ _ (by omega)]; exact h1
  · unfold pwI; rw [e1, e3, q _ _ (by omega), mu_ne _ _ (by omega)]; exact h2
  · rw [e4, q _ _ (by omega), mu_ne _ _ (by omega)]; exact h3
  · rw [e2, q _ _ (by omega), mu_ne _ _ (by omega)]; exact h4
  · rw [e5, q _ _ (by omega), mu_ne _ _ (by omega)]; exact h5
  · rw [e4] at q1 ⊢
    rw [e2] at q2
    by_cases ej : j' = j
    · subst ej; exact hc n q1
    · rw [ho n j' ej, hF _ _ (fun c => ej (jc_inj q1 (n' := j' * D 4 0 + n - j * D 4 0) (by omega) (by omega)).1), mu_ne _ _ (by omega)]
      exact h9 n j' q1 q2
def o_row (st : St) (s j i b : Int32) : Int32 × St := onS st.1 s (rfs st (-1) 1) fun k => onS (st.2.1 k 2 0) j (rfs st (-1) 1) fun j => if st.2.1 k 1 0 = 0 then onS (st.2.1 k 3 0) i (rfs st (-3) 3) fun i => onS (st.2.1 k 4 0) b (rfs st (-3) 3) fun b => (nI (st.2.1 k 6 (j * 8 + i)), setS st k (mu (st.2.1 k) 6 (j * 8 + i) b)) else rfs st (-2) 2
def o_mask (st : St) (s j b : Int32) : Int32 × St := onS st.1 s (rfs st (-1) 1) fun k => onS (st.2.1 k 2 0) j (rfs st (-1) 1) fun j => if st.2.1 k 1 0 = 2 then onS (st.2.1 k 4 0) b (rfs st (-3) 3) fun b => (nI (st.2.1 k 7 j), setS st k (mu (st.2.1 k) 7 j b)) else rfs st (-2) 2
def o_step (st : St) (s j g : Int32) : Int32 × St := onS st.1 s (rfs st (-1) 1) fun k => onS (st.2.1 k 2 0) j (rfs st (-1) 1) fun j => if st.2.1 k 1 0 = 3 then onS (st.2.1 k 4 0) g (rfs st (-3) 3) fun g => (nI (st.2.1 k 8 j), setS st k (mu (st.2.1 k) 8 j g)) else rfs st (-2) 2
theorem pm_congr {ro ro' : Nat → Nat} (n : Nat) : ∀ p, (∀ i, i < p → ro i = ro' i) → pm ro p n = pm ro' p n
  | 0, _ => rfl
  | p + 1, h => by
    simp only [pm]
    rw [pm_congr n p (fun i hi => h i (by omega)), h p (by omega)]
theorem prt_6 {D : SD} {j i v : Nat} (h3 : D 3 0 ≤ 8) (hi : i < 8) (n j' : Nat) (hj : j' ≠ j) : prt (mu D 6 (j * 8 + i) v) n j' = prt D n j' := by
  have e : ∀ g k, g ≠ 6 → mu D 6 (j * 8 + i) v g k = D g k := fun g k hg => mu_other _ _ (by omega)
  unfold prt
  rw [e 1 _ (by decide), e 8 _ (by decide), e 4 _ (by decide), e 9 _ (by decide), e 3 _ (by decide), e 7 _ (by decide), pm_congr n (D 3 0) (ro' := fun i => D 6 (j' * 8 + i)) (fun t ht => mu_other _ _ (by omega))]
theorem prt_7 {D : SD} {j v : Nat} (n j' : Nat) (hj : j' ≠ j) : prt (mu D 7 j v) n j' = prt D n j' := by
  have e : ∀ g k, g ≠ 7 → mu D 7 j v g k = D g k := fun g k hg => mu_other _ _ (by omega)
  unfold prt
  rw [e 1 _ (by decide), e 8 _ (by decide), e 4 _ (by decide), e 9 _ (by decide), e 3 _ (by decide), mu_other (a := 7) (b := 7) _ _ (by omega), pm_congr n (D 3 0) (ro' := fun i => D 6 (j' * 8 + i)) (fun t ht => e 6 _ (by decide))]
theorem prt_8 {D : SD} {j v : Nat} (n j' : Nat) (hj : j' ≠ j) : prt (mu D 8 j v) n j' = prt D n j' := by
  have e : ∀ g k, g ≠ 8 → mu D 8 j v g k = D g k := fun g k hg => mu_other _ _ (by omega)
  unfold prt
  rw [e 1 _ (by decide), e 4 _ (by decide), e 9 _ (by decide), e 3 _ (by decide), e 7 _ (by decide), mu_other (a := 8) (b := 8) _ _ (by omega), pm_congr n (D 3 0) (ro' := fun i => D 6 (j' * 8 + i)) (fun t ht => e 6 _ (by decide))]
def s_X4_row : Sp := fun av z S I J R Post => ∃ (x : Nat), ∃ (st : St), ∃ (s j i b : Int32), av = [.ref x, .int s, .int j, .int i, .int b] ∧ (Rc x st z S I R) ∧ (Ok st) ∧ (Cq x (o_row st s j i b).2 S I J R (fun z' S' I' J' R' => Post (o_row st s j i b).1 0 none z' S' I' J' R'))
theorem c_X4_row {x : Nat} {st : St} {s j i b : Int32} {z : Nat} {S : MS} {I : MI} {J : MJ} {R : MR} {Post : PT} (hR : Rc x st z S I R) (hO : Ok st) (hp : Cq x (o_row st s j i b).2 S I J R (fun z' S' I' J' R' => Post (o_row st s j i b).1 0 none z' S' I' J' R')) : s_X4_row [.ref x, .int s, .int j, .int i, .int b] z S I J R Post := ⟨x, st, s, j, i, b, rfl, hR, hO, hp⟩
set_option maxRecDepth 100000 in
set_option maxHeartbeats 1000000 in
theorem m_X4_row (T : TC) (B : Nat) : Mt T B yX4_row cX4_row 7 (some .int) 1 (rmL 4 0 0) s_X4_row := by
  refine Mt_of rfl (by rintro _ _ _ _ _ _ _ ⟨_, _, _, _, _, _, rfl, -⟩; exact Nat.le_of_ble_eq_true rfl) ?_
  intro X av z S I J R Post h C Q hI
  obtain ⟨x, st, s, j, i, b, rfl, hR, hO, hp⟩ := h
  have hR0 := hR
  obtain ⟨sa, hX, hn, htl, hsc, hord, htr, hrf, hzz⟩ := hR
  have hn12 := hO.1
  have hx := hX.1
  have hT := hX.2.2.2.2.2.2.2.2.1
  rcases Oo_or s st.1 (by omega) with ho | ⟨k, hk, rfl⟩
  · have e : o_row st s j i b = rfs st (-1) 1 := by unfold o_row; rw [onS_o ho]
    rw [e] at hp
    refine v_aload_n C dX4_row_0 rfl ?_
    refine v_iload_n C dX4_row_1 rfl ?_
    refine v_callV1_3 C (m_X4_find T B) lk_X4_65 ⟨wt_194, ws_3⟩ 4 rfl dX4_row_2 ⟨Nat.le_of_ble_eq_true rfl, Nat.le_of_ble_eq_true rfl⟩ (Nat.le_of_ble_eq_true rfl) ⟨Nat.le_of_ble_eq_true rfl, Nat.le_of_ble_eq_true rfl⟩ (by assumption) (cTo_4 (by assumption)) ?_
    refine c_find_o hX hn hn12 (fun k hk => (hsc k hk).1) ho ?_
    refine v_astoreN C dX4_row_5 (by decide) ?_
    refine v_aloadN C dX4_row_7 rfl ?_
    refine v_ifnullN C 21 dX4_row_9 (by decide) ?_
    refine v_aload_n C dX4_row_21 rfl ?_
    refine v_iconst (v := -1) C dX4_row_22 (by decide) ?_
    refine v_callV1_1 C (m_X4_refuse T B) lk_X4_54 ⟨wt_129, ws_1⟩ 4 rfl dX4_row_23 ⟨Nat.le_of_ble_eq_true rfl, Nat.le_of_ble_eq_true rfl⟩ (Nat.le_of_ble_eq_true rfl) ⟨Nat.le_of_ble_eq_true rfl, Nat.le_of_ble_eq_true rfl⟩ (by assumption) (cTo_4 (by assumption)) ?_
    refine c_X4_refuse (k := 1) hX (by decide) (by decide) ?_
    refine v_iret C Q dX4_row_26 (Nat.le_of_ble_eq_true rfl) (Nat.le_of_ble_eq_true rfl) ?_
    have w := Cq_rf (k := 1) hR0 (by decide) hp
    exact w
  · obtain ⟨hrk, hSR, hka, hkz⟩ := hsc k hk
    have hSR0 := hSR
    obtain ⟨hSc, hk0, hk1, hk2, hk3, hk4, hk5, hk6, hk7, hk8⟩ := hSR
    have hOk := hO.2.1 k hk
    obtain ⟨o1, o2, o3, o4, o5, o6, o7, o8, o9, o10, o11, o12⟩ := hOk
    have hs := hSc.1
    rcases Oo_or j (st.2.1 k 2 0) (by omega) with hq | ⟨l, hl, rfl⟩
    · have e : o_row st (nI k) j i b = rfs st (-1) 1 := by unfold o_row; rw [onS_k hk (by omega), onS_o hq]
      rw [e] at hp
      refine v_aload_n C dX4_row_0 rfl ?_
      refine v_iload_n C dX4_row_1 rfl ?_
      refine v_callV1_3 C (m_X4_find T B) lk_X4_65 ⟨wt_194, ws_3⟩ 4 rfl dX4_row_2 ⟨Nat.le_of_ble_eq_true rfl, Nat.le_of_ble_eq_true rfl⟩ (Nat.le_of_ble_eq_true rfl) ⟨Nat.le_of_ble_eq_true rfl, Nat.le_of_ble_eq_true rfl⟩ (by assumption) (cTo_4 (by assumption)) ?_
      refine c_find_k hX hn hn12 (fun k hk => (hsc k hk).1) hk ?_
      refine v_astore C dX4_row_5 (by decide) ?_
      refine v_aload C dX4_row_7 rfl ?_
      refine v_ifnull C dX4_row_9 ?_
      refine v_aload C dX4_row_12 rfl ?_
      refine v_iload_n C dX4_row_14 rfl ?_
      refine v_callV1_1 C (m_X2_hasDirection T B) lk_X4_69 ⟨wt_197, wt_198⟩ 2 rfl dX4_row_15 ⟨Nat.le_of_ble_eq_true rfl, Nat.le_of_ble_eq_true rfl⟩ (Nat.le_of_ble_eq_true rfl) ⟨Nat.le_of_ble_eq_true rfl, Nat.le_of_ble_eq_true rfl⟩ (by assumption) (cTo_2 (by assumption)) ?_
      refine c_dir_o hs hk3 o3 hq ?_
      first | refine v_if_neN C 27 dX4_row_18 (by omega) (by decide) (fun h18 => ?_) (fun h18 => ?_) | refine v_if_ne C 27 dX4_row_18 (by decide) (fun h18 => ?_) (fun h18 => ?_)
      · exact absurd h18 (by decide)
      · refine v_aload_n C dX4_row_21 rfl ?_
        refine v_iconst (v := -1) C dX4_row_22 (by decide) ?_
        refine v_callV1_1 C (m_X4_refuse T B) lk_X4_54 ⟨wt_129, ws_1⟩ 4 rfl dX4_row_23 ⟨Nat.le_of_ble_eq_true rfl, Nat.le_of_ble_eq_true rfl⟩ (Nat.le_of_ble_eq_true rfl) ⟨Nat.le_of_ble_eq_true rfl, Nat.le_of_ble_eq_true rfl⟩ (by assumption) (cTo_4 (by assumption)) ?_
        refine c_X4_refuse (k := 1) hX (by decide) (by decide) ?_
        refine v_iret C Q dX4_row_26 (Nat.le_of_ble_eq_true rfl) (Nat.le_of_ble_eq_true rfl) ?_
        have w := Cq_rf (k := 1) hR0 (by decide) hp
        exact w
    · by_cases hkd : st.2.1 k 1 0 = 0
      · have hpw : I (sa k) 1 = nI (st.2.1 k 3 0) := by rw [hk1]; unfold pwI; rw [if_neg (by omega)]
        rcases Oo_or i (st.2.1 k 3 0) (by omega) with hq | ⟨m, hm, rfl⟩
        · have e : o_row st (nI k) (nI l) i b = rfs st (-3) 3 := by unfold o_row; rw [onS_k hk (by omega), onS_k hl (by omega), if_pos hkd, onS_o hq]
          rw [e] at hp
          refine v_aload_n C dX4_row_0 rfl ?_
          refine v_iload_n C dX4_row_1 rfl ?_
          refine v_callV1_3 C (m_X4_find T B) lk_X4_65 ⟨wt_194, ws_3⟩ 4 rfl dX4_row_2 ⟨Nat.le_of_ble_eq_true rfl, Nat.le_of_ble_eq_true rfl⟩ (Nat.le_of_ble_eq_true rfl) ⟨Nat.le_of_ble_eq_true rfl, Nat.le_of_ble_eq_true rfl⟩ (by assumption) (cTo_4 (by assumption)) ?_
          refine c_find_k hX hn hn12 (fun k hk => (hsc k hk).1) hk ?_
          refine v_astore C dX4_row_5 (by decide) ?_
          refine v_aload C dX4_row_7 rfl ?_
          refine v_ifnull C dX4_row_9 ?_
          refine v_aload C dX4_row_12 rfl ?_
          refine v_iload_n C dX4_row_14 rfl ?_
          refine v_callV1_1 C (m_X2_hasDirection T B) lk_X4_69 ⟨wt_197, wt_198⟩ 2 rfl dX4_row_15 ⟨Nat.le_of_ble_eq_true rfl, Nat.le_of_ble_eq_true rfl⟩ (Nat.le_of_ble_eq_true rfl) ⟨Nat.le_of_ble_eq_true rfl, Nat.le_of_ble_eq_true rfl⟩ (by assumption) (cTo_2 (by assumption)) ?_
          refine c_dir_k hs hk3 o3 hl ?_
          first | refine v_if_neN C 27 dX4_row_18 (by omega) (by decide) (fun h18 => ?_) (fun h18 => ?_) | refine v_if_ne C 27 dX4_row_18 (by decide) (fun h18 => ?_) (fun h18 => ?_)
          · refine v_aload C dX4_row_27 rfl ?_
            first | refine gv_2_0 C (by assumption) (by assumption) wt_143 dX4_row_29 ?_ | refine g_2_0 C (by assumption) wt_143 dX4_row_29 ?_
            first | refine v_if_eqN C 42 dX4_row_32 (by omega) (by decide) (fun h32 => ?_) (fun h32 => ?_) | refine v_if_eq C 42 dX4_row_32 (by decide) (fun h32 => ?_) (fun h32 => ?_)
            · refine v_iload_n C dX4_row_42 rfl ?_
              refine v_if_lt C 70 dX4_row_43 (by decide) (fun h43 => ?_) (fun h43 => ?_)
              · refine v_aload_n C dX4_row_70 rfl ?_
                refine v_bipush (v := -3) C dX4_row_71 (by decide) ?_
                refine v_callV1_1 C (m_X4_refuse T B) lk_X4_54 ⟨wt_129, ws_1⟩ 4 rfl dX4_row_73 ⟨Nat.le_of_ble_eq_true rfl, Nat.le_of_ble_eq_true rfl⟩ (Nat.le_of_ble_eq_true rfl) ⟨Nat.le_of_ble_eq_true rfl, Nat.le_of_ble_eq_true rfl⟩ (by assumption) (cTo_4 (by assumption)) ?_
                refine c_X4_refuse (k := 3) hX (by decide) (by decide) ?_
                refine v_iret C Q dX4_row_76 (Nat.le_of_ble_eq_true rfl) (Nat.le_of_ble_eq_true rfl) ?_
                have w := Cq_rf (k := 3) hR0 (by decide) hp
                exact w
              · refine v_iload_n C dX4_row_46 rfl ?_
                refine v_aload C dX4_row_47 rfl ?_
                first | refine gv_2_1 C (by assumption) (by assumption) wt_145 dX4_row_49 ?_ | refine g_2_1 C (by assumption) wt_145 dX4_row_49 ?_
                refine v_icmp_ge C 70 dX4_row_52 (by decide) (fun h52 => ?_) (fun h52 => ?_)
                · refine v_aload_n C dX4_row_70 rfl ?_
                  refine v_bipush (v := -3) C dX4_row_71 (by decide) ?_
                  refine v_callV1_1 C (m_X4_refuse T B) lk_X4_54 ⟨wt_129, ws_1⟩ 4 rfl dX4_row_73 ⟨Nat.le_of_ble_eq_true rfl, Nat.le_of_ble_eq_true rfl⟩ (Nat.le_of_ble_eq_true rfl) ⟨Nat.le_of_ble_eq_true rfl, Nat.le_of_ble_eq_true rfl⟩ (by assumption) (cTo_4 (by assumption)) ?_
                  refine c_X4_refuse (k := 3) hX (by decide) (by decide) ?_
                  refine v_iret C Q dX4_row_76 (Nat.le_of_ble_eq_true rfl) (Nat.le_of_ble_eq_true rfl) ?_
                  have w := Cq_rf (k := 3) hR0 (by decide) hp
                  exact w
                · exact absurd hq (fun q => q.elim h43 h52)
            · exact absurd hkd h32
          · exact absurd h18 (by decide)
        · rcases Oo_or b (st.2.1 k 4 0) (by omega) with hq | ⟨v, hv, rfl⟩
          · have e : o_row st (nI k) (nI l) (nI m) b = rfs st (-3) 3 := by unfold o_row; rw [onS_k hk (by omega), onS_k hl (by omega), if_pos hkd, onS_k hm (by omega), onS_o hq]
            rw [e] at hp
            refine v_aload_n C dX4_row_0 rfl ?_
            refine v_iload_n C dX4_row_1 rfl ?_
            refine v_callV1_3 C (m_X4_find T B) lk_X4_65 ⟨wt_194, ws_3⟩ 4 rfl dX4_row_2 ⟨Nat.le_of_ble_eq_true rfl, Nat.le_of_ble_eq_true rfl⟩ (Nat.le_of_ble_eq_true rfl) ⟨Nat.le_of_ble_eq_true rfl, Nat.le_of_ble_eq_true rfl⟩ (by assumption) (cTo_4 (by assumption)) ?_
            refine c_find_k hX hn hn12 (fun k hk => (hsc k hk).1) hk ?_
            refine v_astore C dX4_row_5 (by decide) ?_
            refine v_aload C dX4_row_7 rfl ?_
            refine v_ifnull C dX4_row_9 ?_
            refine v_aload C dX4_row_12 rfl ?_
            refine v_iload_n C dX4_row_14 rfl ?_
            refine v_callV1_1 C (m_X2_hasDirection T B) lk_X4_69 ⟨wt_197, wt_198⟩ 2 rfl dX4_row_15 ⟨Nat.le_of_ble_eq_true rfl, Nat.le_of_ble_eq_true rfl⟩ (Nat.le_of_ble_eq_true rfl) ⟨Nat.le_of_ble_eq_true rfl, Nat.le_of_ble_eq_true rfl⟩ (by assumption) (cTo_2 (by assumption)) ?_
            refine c_dir_k hs hk3 o3 hl ?_
            first | refine v_if_neN C 27 dX4_row_18 (by omega) (by decide) (fun h18 => ?_) (fun h18 => ?_) | refine v_if_ne C 27 dX4_row_18 (by decide) (fun h18 => ?_) (fun h18 => ?_)
            · refine v_aload C dX4_row_27 rfl ?_
              first | refine gv_2_0 C (by assumption) (by assumption) wt_143 dX4_row_29 ?_ | refine g_2_0 C (by assumption) wt_143 dX4_row_29 ?_
              first | refine v_if_eqN C 42 dX4_row_32 (by omega) (by decide) (fun h32 => ?_) (fun h32 => ?_) | refine v_if_eq C 42 dX4_row_32 (by decide) (fun h32 => ?_) (fun h32 => ?_)
              · refine v_iload_n C dX4_row_42 rfl ?_
                first | refine v_if_ltN C 70 dX4_row_43 (by omega) (by decide) (fun h43 => ?_) (fun h43 => ?_) | refine v_if_lt C 70 dX4_row_43 (by decide) (fun h43 => ?_) (fun h43 => ?_)
                · exact absurd h43 (fun q => q)
                · refine v_iload_n C dX4_row_46 rfl ?_
                  refine v_aload C dX4_row_47 rfl ?_
                  first | refine gv_2_1 C (by assumption) (by assumption) wt_145 dX4_row_49 ?_ | refine g_2_1 C (by assumption) wt_145 dX4_row_49 ?_
                  first | refine v_icmp_geN C 70 dX4_row_52 (by omega) (by omega) (by decide) (fun h52 => ?_) (fun h52 => ?_) | refine v_icmp_ge C 70 dX4_row_52 (by decide) (fun h52 => ?_) (fun h52 => ?_)
                  · exact absurd h52 (by omega)
                  · refine v_iload C dX4_row_55 rfl ?_
                    refine v_if_lt C 70 dX4_row_57 (by decide) (fun h57 => ?_) (fun h57 => ?_)
                    · refine v_aload_n C dX4_row_70 rfl ?_
                      refine v_bipush (v := -3) C dX4_row_71 (by decide) ?_
                      refine v_callV1_1 C (m_X4_refuse T B) lk_X4_54 ⟨wt_129, ws_1⟩ 4 rfl dX4_row_73 ⟨Nat.le_of_ble_eq_true rfl, Nat.le_of_ble_eq_true rfl⟩ (Nat.le_of_ble_eq_true rfl) ⟨Nat.le_of_ble_eq_true rfl, Nat.le_of_ble_eq_true rfl⟩ (by assumption) (cTo_4 (by assumption)) ?_
                      refine c_X4_refuse (k := 3) hX (by decide) (by decide) ?_
                      refine v_iret C Q dX4_row_76 (Nat.le_of_ble_eq_true rfl) (Nat.le_of_ble_eq_true rfl) ?_
                      have w := Cq_rf (k := 3) hR0 (by decide) hp
                      exact w
                    · refine v_iload C dX4_row_60 rfl ?_
                      refine v_aload C dX4_row_62 rfl ?_
                      first | refine gv_2_2 C (by assumption) (by assumption) wt_150 dX4_row_64 ?_ | refine g_2_2 C (by assumption) wt_150 dX4_row_64 ?_
                      refine v_icmp_lt C 77 dX4_row_67 (by decide) (fun h67 => ?_) (fun h67 => ?_)
                      · exact absurd hq (fun q => q.elim h57 (fun q2 => absurd h67 (Int32.not_lt.mpr q2)))
                      · refine v_aload_n C dX4_row_70 rfl ?_
                        refine v_bipush (v := -3) C dX4_row_71 (by decide) ?_
                        refine v_callV1_1 C (m_X4_refuse T B) lk_X4_54 ⟨wt_129, ws_1⟩ 4 rfl dX4_row_73 ⟨Nat.le_of_ble_eq_true rfl, Nat.le_of_ble_eq_true rfl⟩ (Nat.le_of_ble_eq_true rfl) ⟨Nat.le_of_ble_eq_true rfl, Nat.le_of_ble_eq_true rfl⟩ (by assumption) (cTo_4 (by assumption)) ?_
                        refine c_X4_refuse (k := 3) hX (by decide) (by decide) ?_
                        refine v_iret C Q dX4_row_76 (Nat.le_of_ble_eq_true rfl) (Nat.le_of_ble_eq_true rfl) ?_
                        have w := Cq_rf (k := 3) hR0 (by decide) hp
                        exact w
              · exact absurd hkd h32
            · exact absurd h18 (by decide)
          · have e : o_row st (nI k) (nI l) (nI m) (nI v) = (nI (st.2.1 k 6 (l * 8 + m)), setS st k (mu (st.2.1 k) 6 (l * 8 + m) v)) := by unfold o_row; rw [onS_k hk (by omega), onS_k hl (by omega), if_pos hkd, onS_k hm (by omega), onS_k hv (by omega)]
            rw [e] at hp
            have hl8 : l * 8 + m < 48 := by omega
            have hr0 := hk5 _ hl8
            refine v_aload_n C dX4_row_0 rfl ?_
            refine v_iload_n C dX4_row_1 rfl ?_
            refine v_callV1_3 C (m_X4_find T B) lk_X4_65 ⟨wt_194, ws_3⟩ 4 rfl dX4_row_2 ⟨Nat.le_of_ble_eq_true rfl, Nat.le_of_ble_eq_true rfl⟩ (Nat.le_of_ble_eq_true rfl) ⟨Nat.le_of_ble_eq_true rfl, Nat.le_of_ble_eq_true rfl⟩ (by assumption) (cTo_4 (by assumption)) ?_
            refine c_find_k hX hn hn12 (fun k hk => (hsc k hk).1) hk ?_
            refine v_astore C dX4_row_5 (by decide) ?_
            refine v_aload C dX4_row_7 rfl ?_
            refine v_ifnull C dX4_row_9 ?_
            refine v_aload C dX4_row_12 rfl ?_
            refine v_iload_n C dX4_row_14 rfl ?_
            refine v_callV1_1 C (m_X2_hasDirection T B) lk_X4_69 ⟨wt_197, wt_198⟩ 2 rfl dX4_row_15 ⟨Nat.le_of_ble_eq_true rfl, Nat.le_of_ble_eq_true rfl⟩ (Nat.le_of_ble_eq_true rfl) ⟨Nat.le_of_ble_eq_true rfl, Nat.le_of_ble_eq_true rfl⟩ (by assumption) (cTo_2 (by assumption)) ?_
            refine c_dir_k hs hk3 o3 hl ?_
            first | refine v_if_neN C 27 dX4_row_18 (by omega) (by decide) (fun h18 => ?_) (fun h18 => ?_) | refine v_if_ne C 27 dX4_row_18 (by decide) (fun h18 => ?_) (fun h18 => ?_)
            · refine v_aload C dX4_row_27 rfl ?_
              first | refine gv_2_0 C (by assumption) (by assumption) wt_143 dX4_row_29 ?_ | refine g_2_0 C (by assumption) wt_143 dX4_row_29 ?_
              first | refine v_if_eqN C 42 dX4_row_32 (by omega) (by decide) (fun h32 => ?_) (fun h32 => ?_) | refine v_if_eq C 42 dX4_row_32 (by decide) (fun h32 => ?_) (fun h32 => ?_)
              · refine v_iload_n C dX4_row_42 rfl ?_
                first | refine v_if_ltN C 70 dX4_row_43 (by omega) (by decide) (fun h43 => ?_) (fun h43 => ?_) | refine v_if_lt C 70 dX4_row_43 (by decide) (fun h43 => ?_) (fun h43 => ?_)
                · exact absurd h43 (fun q => q)
                · refine v_iload_n C dX4_row_46 rfl ?_
                  refine v_aload C dX4_row_47 rfl ?_
                  first | refine gv_2_1 C (by assumption) (by assumption) wt_145 dX4_row_49 ?_ | refine g_2_1 C (by assumption) wt_145 dX4_row_49 ?_
                  first | refine v_icmp_geN C 70 dX4_row_52 (by omega) (by omega) (by decide) (fun h52 => ?_) (fun h52 => ?_) | refine v_icmp_ge C 70 dX4_row_52 (by decide) (fun h52 => ?_) (fun h52 => ?_)
                  · exact absurd h52 (by omega)
                  · refine v_iload C dX4_row_55 rfl ?_
                    first | refine v_if_ltN C 70 dX4_row_57 (by omega) (by decide) (fun h57 => ?_) (fun h57 => ?_) | refine v_if_lt C 70 dX4_row_57 (by decide) (fun h57 => ?_) (fun h57 => ?_)
                    · exact absurd h57 (fun q => q)
                    · refine v_iload C dX4_row_60 rfl ?_
                      refine v_aload C dX4_row_62 rfl ?_
                      first | refine gv_2_2 C (by assumption) (by assumption) wt_150 dX4_row_64 ?_ | refine g_2_2 C (by assumption) wt_150 dX4_row_64 ?_
                      first | refine v_icmp_ltN C 77 dX4_row_67 (by omega) (by omega) (by decide) (fun h67 => ?_) (fun h67 => ?_) | refine v_icmp_lt C 77 dX4_row_67 (by decide) (fun h67 => ?_) (fun h67 => ?_)
                      · refine v_aload C dX4_row_77 rfl ?_
                        refine v_iload_n C dX4_row_79 rfl ?_
                        refine v_iload_n C dX4_row_80 rfl ?_
                        refine v_callV2_1 C (m_X2_rowAt T B) lk_X4_82 ⟨wt_201, wt_202⟩ 2 rfl dX4_row_81 ⟨Nat.le_of_ble_eq_true rfl, Nat.le_of_ble_eq_true rfl⟩ (Nat.le_of_ble_eq_true rfl) ⟨Nat.le_of_ble_eq_true rfl, Nat.le_of_ble_eq_true rfl⟩ (by assumption) (cTo_2 (by assumption)) ?_
                        refine c_X2_rowAt hSc (by omega) (by omega) ?_
                        rw [hr0]
                        refine v_istore C dX4_row_84 (by decide) ?_
                        refine v_aload C dX4_row_86 rfl ?_
                        refine v_iload_n C dX4_row_88 rfl ?_
                        refine v_iload_n C dX4_row_89 rfl ?_
                        refine v_iload C dX4_row_90 rfl ?_
                        refine v_callV3_0 C (m_X2_setRow T B) lk_X4_85 ⟨wt_205, wt_206⟩ 2 rfl dX4_row_92 ⟨Nat.le_of_ble_eq_true rfl, Nat.le_of_ble_eq_true rfl⟩ (Nat.le_of_ble_eq_true rfl) ⟨Nat.le_of_ble_eq_true rfl, Nat.le_of_ble_eq_true rfl⟩ (by assumption) (cTo_2 (by assumption)) ?_
                        refine c_X2_setRow hSc (by omega) (by omega) ?_
                        refine v_aload C dX4_row_95 rfl ?_
                        refine v_iload_n C dX4_row_97 rfl ?_
                        refine v_callV1_0 C (m_X2_fillFromRows T B) lk_X4_89 ⟨wt_209, wt_210⟩ 2 rfl dX4_row_98 ⟨Nat.le_of_ble_eq_true rfl, Nat.le_of_ble_eq_true rfl⟩ (Nat.le_of_ble_eq_true rfl) ⟨Nat.le_of_ble_eq_true rfl, Nat.le_of_ble_eq_true rfl⟩ (by assumption) (cTo_2 (by assumption)) ?_
                        refine c_X2_fillFromRows (mk := st.2.1 k 7 l) (ro := fun i => mu (st.2.1 k) 6 (l * 8 + m) v 6 (l * 8 + i)) hSc ((congrFun (mu_ne _ _ (by omega)) _).trans hpw) ((congrFun (mu_ne _ _ (by omega)) _).trans hk2) o4 (o7 (by omega)) (by omega) ((congrFun (mu_ne _ _ (by omega)) _).trans (hk6 l (by omega))) (fun i hi => ?_) (fun I2 hF2 hI2 => ?_)
                        · by_cases e2 : i = m
                          · subst e2; rw [mu_at, mu_at]; exact ⟨rfl, by omega⟩
                          · rw [mu_other _ _ (by omega), mu_other _ _ (by omega)]; exact ⟨hk5 _ (by omega), by have := o9 (l * 8 + i); omega⟩
                        refine v_iload C dX4_row_101 rfl ?_
                        refine v_iret C Q dX4_row_103 (Nat.le_of_ble_eq_true rfl) (Nat.le_of_ble_eq_true rfl) ?_
                        have w := Cq_set ⟨hX, hn, htl, hsc, hord, htr, hrf, hzz⟩ hk (D := mu (st.2.1 k) 6 (l * 8 + m) v) ((FrS.rf.mu (b := sa k + 1) (k := l * 8 + m) (x := nI v) (by omega) (by omega)).tr (hF2.s (by omega) (by omega))) (hSR0.col (Or.inl rfl) hF2 (fun n hn => ?_) (prt_6 o4 (by omega))) hp
                        · exact w
                        · rw [hI2 n hn]
                          unfold prt
                          rw [mu_other (b := 1) _ _ (by omega), mu_other (b := 3) _ _ (by omega), mu_other (b := 7) _ _ (by omega), if_neg (by omega), if_neg (by omega)]
                      · exact absurd h67 (by omega)
              · exact absurd hkd h32
            · exact absurd h18 (by decide)
      · have e : o_row st (nI k) (nI l) i b = rfs st (-2) 2 := by unfold o_row; rw [onS_k hk (by omega), onS_k hl (by omega), if_neg hkd]
        rw [e] at hp
        refine v_aload_n C dX4_row_0 rfl ?_
        refine v_iload_n C dX4_row_1 rfl ?_
        refine v_callV1_3 C (m_X4_find T B) lk_X4_65 ⟨wt_194, ws_3⟩ 4 rfl dX4_row_2 ⟨Nat.le_of_ble_eq_true rfl, Nat.le_of_ble_eq_true rfl⟩ (Nat.le_of_ble_eq_true rfl) ⟨Nat.le_of_ble_eq_true rfl, Nat.le_of_ble_eq_true rfl⟩ (by assumption) (cTo_4 (by assumption)) ?_
        refine c_find_k hX hn hn12 (fun k hk => (hsc k hk).1) hk ?_
        refine v_astore C dX4_row_5 (by decide) ?_
        refine v_aload C dX4_row_7 rfl ?_
        refine v_ifnull C dX4_row_9 ?_
        refine v_aload C dX4_row_12 rfl ?_
        refine v_iload_n C dX4_row_14 rfl ?_
        refine v_callV1_1 C (m_X2_hasDirection T B) lk_X4_69 ⟨wt_197, wt_198⟩ 2 rfl dX4_row_15 ⟨Nat.le_of_ble_eq_true rfl, Nat.le_of_ble_eq_true rfl⟩ (Nat.le_of_ble_eq_true rfl) ⟨Nat.le_of_ble_eq_true rfl, Nat.le_of_ble_eq_true rfl⟩ (by assumption) (cTo_2 (by assumption)) ?_
        refine c_dir_k hs hk3 o3 hl ?_
        first | refine v_if_neN C 27 dX4_row_18 (by omega) (by decide) (fun h18 => ?_) (fun h18 => ?_) | refine v_if_ne C 27 dX4_row_18 (by decide) (fun h18 => ?_) (fun h18 => ?_)
        · refine v_aload C dX4_row_27 rfl ?_
          first | refine gv_2_0 C (by assumption) (by assumption) wt_143 dX4_row_29 ?_ | refine g_2_0 C (by assumption) wt_143 dX4_row_29 ?_
          first | refine v_if_eqN C 42 dX4_row_32 (by omega) (by decide) (fun h32 => ?_) (fun h32 => ?_) | refine v_if_eq C 42 dX4_row_32 (by decide) (fun h32 => ?_) (fun h32 => ?_)
          · exact absurd h32 hkd
          · refine v_aload_n C dX4_row_35 rfl ?_
            refine v_bipush (v := -2) C dX4_row_36 (by decide) ?_
            refine v_callV1_1 C (m_X4_refuse T B) lk_X4_54 ⟨wt_129, ws_1⟩ 4 rfl dX4_row_38 ⟨Nat.le_of_ble_eq_true rfl, Nat.le_of_ble_eq_true rfl⟩ (Nat.le_of_ble_eq_true rfl) ⟨Nat.le_of_ble_eq_true rfl, Nat.le_of_ble_eq_true rfl⟩ (by assumption) (cTo_4 (by assumption)) ?_
            refine c_X4_refuse (k := 2) hX (by decide) (by decide) ?_
            refine v_iret C Q dX4_row_41 (Nat.le_of_ble_eq_true rfl) (Nat.le_of_ble_eq_true rfl) ?_
            have w := Cq_rf (k := 2) hR0 (by decide) hp
            exact w
        · exact absurd h18 (by decide)
def s_X4_mask : Sp := fun av z S I J R Post => ∃ (x : Nat), ∃ (st : St), ∃ (s j b : Int32), av = [.ref x, .int s, .int j, .int b] ∧ (Rc x st z S I R) ∧ (Ok st) ∧ (Cq x (o_mask st s j b).2 S I J R (fun z' S' I' J' R' => Post (o_mask st s j b).1 0 none z' S' I' J' R'))
theorem c_X4_mask {x : Nat} {st : St} {s j b : Int32} {z : Nat} {S : MS} {I : MI} {J : MJ} {R : MR} {Post : PT} (hR : Rc x st z S I R) (hO : Ok st) (hp : Cq x (o_mask st s j b).2 S I J R (fun z' S' I' J' R' => Post (o_mask st s j b).1 0 none z' S' I' J' R')) : s_X4_mask [.ref x, .int s, .int j, .int b] z S I J R Post := ⟨x, st, s, j, b, rfl, hR, hO, hp⟩
set_option maxRecDepth 100000 in
set_option maxHeartbeats 1000000 in
theorem m_X4_mask (T : TC) (B : Nat) : Mt T B yX4_mask cX4_mask 6 (some .int) 1 (rmL 4 0 0) s_X4_mask := by
  refine Mt_of rfl (by rintro _ _ _ _ _ _ _ ⟨_, _, _, _, _, rfl, -⟩; exact Nat.le_of_ble_eq_true rfl) ?_
  intro X av z S I J R Post h C Q hI
  obtain ⟨x, st, s, j, b, rfl, hR, hO, hp⟩ := h
  have hR0 := hR
  obtain ⟨sa, hX, hn, htl, hsc, hord, htr, hrf, hzz⟩ := hR
  have hn12 := hO.1
  have hx := hX.1
  have hT := hX.2.2.2.2.2.2.2.2.1
  rcases Oo_or s st.1 (by omega) with ho | ⟨k, hk, rfl⟩
  · have e : o_mask st s j b = rfs st (-1) 1 := by unfold o_mask; rw [onS_o ho]
    rw [e] at hp
    refine v_aload_n C dX4_mask_0 rfl ?_
    refine v_iload_n C dX4_mask_1 rfl ?_
    refine v_callV1_3 C (m_X4_find T B) lk_X4_65 ⟨wt_194, ws_3⟩ 4 rfl dX4_mask_2 ⟨Nat.le_of_ble_eq_true rfl, Nat.le_of_ble_eq_true rfl⟩ (Nat.le_of_ble_eq_true rfl) ⟨Nat.le_of_ble_eq_true rfl, Nat.le_of_ble_eq_true rfl⟩ (by assumption) (cTo_4 (by assumption)) ?_
    refine c_find_o hX hn hn12 (fun k hk => (hsc k hk).1) ho ?_
    refine v_astoreN C dX4_mask_5 (by decide) ?_
    refine v_aloadN C dX4_mask_7 rfl ?_
    refine v_ifnullN C 21 dX4_mask_9 (by decide) ?_
    refine v_aload_n C dX4_mask_21 rfl ?_
    refine v_iconst (v := -1) C dX4_mask_22 (by decide) ?_
    refine v_callV1_1 C (m_X4_refuse T B) lk_X4_54 ⟨wt_129, ws_1⟩ 4 rfl dX4_mask_23 ⟨Nat.le_of_ble_eq_true rfl, Nat.le_of_ble_eq_true rfl⟩ (Nat.le_of_ble_eq_true rfl) ⟨Nat.le_of_ble_eq_true rfl, Nat.le_of_ble_eq_true rfl⟩ (by assumption) (cTo_4 (by assumption)) ?_
    refine c_X4_refuse (k := 1) hX (by decide) (by decide) ?_
    refine v_iret C Q dX4_mask_26 (Nat.le_of_ble_eq_true rfl) (Nat.le_of_ble_eq_true rfl) ?_
    have w := Cq_rf (k := 1) hR0 (by decide) hp
    exact w
  · obtain ⟨hrk, hSR, hka, hkz⟩ := hsc k hk
    have hSR0 := hSR
    obtain ⟨hSc, hk0, hk1, hk2, hk3, hk4, hk5, hk6, hk7, hk8⟩ := hSR
    have hOk := hO.2.1 k hk
    obtain ⟨o1, o2, o3, o4, o5, o6, o7, o8, o9, o10, o11, o12⟩ := hOk
    have hs := hSc.1
    obtain ⟨-, -, -, hr7, -, -, hs2, hs3, -, -, -⟩ := id hSc
    have hr6 := hSc.2.2.1
    rcases Oo_or j (st.2.1 k 2 0) (by omega) with hq | ⟨l, hl, rfl⟩
    · have e : o_mask st (nI k) j b = rfs st (-1) 1 := by unfold o_mask; rw [onS_k hk (by omega), onS_o hq]
      rw [e] at hp
      refine v_aload_n C dX4_mask_0 rfl ?_
      refine v_iload_n C dX4_mask_1 rfl ?_
      refine v_callV1_3 C (m_X4_find T B) lk_X4_65 ⟨wt_194, ws_3⟩ 4 rfl dX4_mask_2 ⟨Nat.le_of_ble_eq_true rfl, Nat.le_of_ble_eq_true rfl⟩ (Nat.le_of_ble_eq_true rfl) ⟨Nat.le_of_ble_eq_true rfl, Nat.le_of_ble_eq_true rfl⟩ (by assumption) (cTo_4 (by assumption)) ?_
      refine c_find_k hX hn hn12 (fun k hk => (hsc k hk).1) hk ?_
      refine v_astore C dX4_mask_5 (by decide) ?_
      refine v_aload C dX4_mask_7 rfl ?_
      refine v_ifnull C dX4_mask_9 ?_
      refine v_aload C dX4_mask_12 rfl ?_
      refine v_iload_n C dX4_mask_14 rfl ?_
      refine v_callV1_1 C (m_X2_hasDirection T B) lk_X4_69 ⟨wt_197, wt_198⟩ 2 rfl dX4_mask_15 ⟨Nat.le_of_ble_eq_true rfl, Nat.le_of_ble_eq_true rfl⟩ (Nat.le_of_ble_eq_true rfl) ⟨Nat.le_of_ble_eq_true rfl, Nat.le_of_ble_eq_true rfl⟩ (by assumption) (cTo_2 (by assumption)) ?_
      refine c_dir_o hs hk3 o3 hq ?_
      first | refine v_if_neN C 27 dX4_mask_18 (by omega) (by decide) (fun h18 => ?_) (fun h18 => ?_) | refine v_if_ne C 27 dX4_mask_18 (by decide) (fun h18 => ?_) (fun h18 => ?_)
      · exact absurd h18 (by decide)
      · refine v_aload_n C dX4_mask_21 rfl ?_
        refine v_iconst (v := -1) C dX4_mask_22 (by decide) ?_
        refine v_callV1_1 C (m_X4_refuse T B) lk_X4_54 ⟨wt_129, ws_1⟩ 4 rfl dX4_mask_23 ⟨Nat.le_of_ble_eq_true rfl, Nat.le_of_ble_eq_true rfl⟩ (Nat.le_of_ble_eq_true rfl) ⟨Nat.le_of_ble_eq_true rfl, Nat.le_of_ble_eq_true rfl⟩ (by assumption) (cTo_4 (by assumption)) ?_
        refine c_X4_refuse (k := 1) hX (by decide) (by decide) ?_
        refine v_iret C Q dX4_mask_26 (Nat.le_of_ble_eq_true rfl) (Nat.le_of_ble_eq_true rfl) ?_
        have w := Cq_rf (k := 1) hR0 (by decide) hp
        exact w
    · by_cases hkd : st.2.1 k 1 0 = 2
      · have hpw : I (sa k) 1 = nI (st.2.1 k 3 0) := by rw [hk1]; unfold pwI; rw [if_neg (by omega)]
        rcases Oo_or b (st.2.1 k 4 0) (by omega) with hq | ⟨v, hv, rfl⟩
        · have e : o_mask st (nI k) (nI l) b = rfs st (-3) 3 := by unfold o_mask; rw [onS_k hk (by omega), onS_k hl (by omega), if_pos hkd, onS_o hq]
          rw [e] at hp
          refine v_aload_n C dX4_mask_0 rfl ?_
          refine v_iload_n C dX4_mask_1 rfl ?_
          refine v_callV1_3 C (m_X4_find T B) lk_X4_65 ⟨wt_194, ws_3⟩ 4 rfl dX4_mask_2 ⟨Nat.le_of_ble_eq_true rfl, Nat.le_of_ble_eq_true rfl⟩ (Nat.le_of_ble_eq_true rfl) ⟨Nat.le_of_ble_eq_true rfl, Nat.le_of_ble_eq_true rfl⟩ (by assumption) (cTo_4 (by assumption)) ?_
          refine c_find_k hX hn hn12 (fun k hk => (hsc k hk).1) hk ?_
          refine v_astore C dX4_mask_5 (by decide) ?_
          refine v_aload C dX4_mask_7 rfl ?_
          refine v_ifnull C dX4_mask_9 ?_
          refine v_aload C dX4_mask_12 rfl ?_
          refine v_iload_n C dX4_mask_14 rfl ?_
          refine v_callV1_1 C (m_X2_hasDirection T B) lk_X4_69 ⟨wt_197, wt_198⟩ 2 rfl dX4_mask_15 ⟨Nat.le_of_ble_eq_true rfl, Nat.le_of_ble_eq_true rfl⟩ (Nat.le_of_ble_eq_true rfl) ⟨Nat.le_of_ble_eq_true rfl, Nat.le_of_ble_eq_true rfl⟩ (by assumption) (cTo_2 (by assumption)) ?_
          refine c_dir_k hs hk3 o3 hl ?_
          first | refine v_if_neN C 27 dX4_mask_18 (by omega) (by decide) (fun h18 => ?_) (fun h18 => ?_) | refine v_if_ne C 27 dX4_mask_18 (by decide) (fun h18 => ?_) (fun h18 => ?_)
          · refine v_aload C dX4_mask_27 rfl ?_
            first | refine gv_2_0 C (by assumption) (by assumption) wt_143 dX4_mask_29 ?_ | refine g_2_0 C (by assumption) wt_143 dX4_mask_29 ?_
            refine v_iconstN 2 C dX4_mask_32 ?_
            first | refine v_icmp_eqN C 43 dX4_mask_33 (by omega) (by omega) (by decide) (fun h33 => ?_) (fun h33 => ?_) | refine v_icmp_eq C 43 dX4_mask_33 (by decide) (fun h33 => ?_) (fun h33 => ?_)
            · refine v_iload_n C dX4_mask_43 rfl ?_
              refine v_if_lt C 56 dX4_mask_44 (by decide) (fun h44 => ?_) (fun h44 => ?_)
              · refine v_aload_n C dX4_mask_56 rfl ?_
                refine v_bipush (v := -3) C dX4_mask_57 (by decide) ?_
                refine v_callV1_1 C (m_X4_refuse T B) lk_X4_54 ⟨wt_129, ws_1⟩ 4 rfl dX4_mask_59 ⟨Nat.le_of_ble_eq_true rfl, Nat.le_of_ble_eq_true rfl⟩ (Nat.le_of_ble_eq_true rfl) ⟨Nat.le_of_ble_eq_true rfl, Nat.le_of_ble_eq_true rfl⟩ (by assumption) (cTo_4 (by assumption)) ?_
                refine c_X4_refuse (k := 3) hX (by decide) (by decide) ?_
                refine v_iret C Q dX4_mask_62 (Nat.le_of_ble_eq_true rfl) (Nat.le_of_ble_eq_true rfl) ?_
                have w := Cq_rf (k := 3) hR0 (by decide) hp
                exact w
              · refine v_iload_n C dX4_mask_47 rfl ?_
                refine v_aload C dX4_mask_48 rfl ?_
                first | refine gv_2_2 C (by assumption) (by assumption) wt_150 dX4_mask_50 ?_ | refine g_2_2 C (by assumption) wt_150 dX4_mask_50 ?_
                refine v_icmp_lt C 63 dX4_mask_53 (by decide) (fun h53 => ?_) (fun h53 => ?_)
                · exact absurd hq (fun q => q.elim h44 (fun q2 => absurd h53 (Int32.not_lt.mpr q2)))
                · refine v_aload_n C dX4_mask_56 rfl ?_
                  refine v_bipush (v := -3) C dX4_mask_57 (by decide) ?_
                  refine v_callV1_1 C (m_X4_refuse T B) lk_X4_54 ⟨wt_129, ws_1⟩ 4 rfl dX4_mask_59 ⟨Nat.le_of_ble_eq_true rfl, Nat.le_of_ble_eq_true rfl⟩ (Nat.le_of_ble_eq_true rfl) ⟨Nat.le_of_ble_eq_true rfl, Nat.le_of_ble_eq_true rfl⟩ (by assumption) (cTo_4 (by assumption)) ?_
                  refine c_X4_refuse (k := 3) hX (by decide) (by decide) ?_
                  refine v_iret C Q dX4_mask_62 (Nat.le_of_ble_eq_true rfl) (Nat.le_of_ble_eq_true rfl) ?_
                  have w := Cq_rf (k := 3) hR0 (by decide) hp
                  exact w
            · exact absurd hkd h33
          · exact absurd h18 (by decide)
        · have e : o_mask st (nI k) (nI l) (nI v) = (nI (st.2.1 k 7 l), setS st k (mu (st.2.1 k) 7 l v)) := by unfold o_mask; rw [onS_k hk (by omega), onS_k hl (by omega), if_pos hkd, onS_k hv (by omega)]
          rw [e] at hp
          have hr0 := hk6 l (by omega)
          refine v_aload_n C dX4_mask_0 rfl ?_
          refine v_iload_n C dX4_mask_1 rfl ?_
          refine v_callV1_3 C (m_X4_find T B) lk_X4_65 ⟨wt_194, ws_3⟩ 4 rfl dX4_mask_2 ⟨Nat.le_of_ble_eq_true rfl, Nat.le_of_ble_eq_true rfl⟩ (Nat.le_of_ble_eq_true rfl) ⟨Nat.le_of_ble_eq_true rfl, Nat.le_of_ble_eq_true rfl⟩ (by assumption) (cTo_4 (by assumption)) ?_
          refine c_find_k hX hn hn12 (fun k hk => (hsc k hk).1) hk ?_
          refine v_astore C dX4_mask_5 (by decide) ?_
          refine v_aload C dX4_mask_7 rfl ?_
          refine v_ifnull C dX4_mask_9 ?_
          refine v_aload C dX4_mask_12 rfl ?_
          refine v_iload_n C dX4_mask_14 rfl ?_
          refine v_callV1_1 C (m_X2_hasDirection T B) lk_X4_69 ⟨wt_197, wt_198⟩ 2 rfl dX4_mask_15 ⟨Nat.le_of_ble_eq_true rfl, Nat.le_of_ble_eq_true rfl⟩ (Nat.le_of_ble_eq_true rfl) ⟨Nat.le_of_ble_eq_true rfl, Nat.le_of_ble_eq_true rfl⟩ (by assumption) (cTo_2 (by assumption)) ?_
          refine c_dir_k hs hk3 o3 hl ?_
          first | refine v_if_neN C 27 dX4_mask_18 (by omega) (by decide) (fun h18 => ?_) (fun h18 => ?_) | refine v_if_ne C 27 dX4_mask_18 (by decide) (fun h18 => ?_) (fun h18 => ?_)
          · refine v_aload C dX4_mask_27 rfl ?_
            first | refine gv_2_0 C (by assumption) (by assumption) wt_143 dX4_mask_29 ?_ | refine g_2_0 C (by assumption) wt_143 dX4_mask_29 ?_
            refine v_iconstN 2 C dX4_mask_32 ?_
            first | refine v_icmp_eqN C 43 dX4_mask_33 (by omega) (by omega) (by decide) (fun h33 => ?_) (fun h33 => ?_) | refine v_icmp_eq C 43 dX4_mask_33 (by decide) (fun h33 => ?_) (fun h33 => ?_)
            · refine v_iload_n C dX4_mask_43 rfl ?_
              first | refine v_if_ltN C 56 dX4_mask_44 (by omega) (by decide) (fun h44 => ?_) (fun h44 => ?_) | refine v_if_lt C 56 dX4_mask_44 (by decide) (fun h44 => ?_) (fun h44 => ?_)
              · exact absurd h44 (fun q => q)
              · refine v_iload_n C dX4_mask_47 rfl ?_
                refine v_aload C dX4_mask_48 rfl ?_
                first | refine gv_2_2 C (by assumption) (by assumption) wt_150 dX4_mask_50 ?_ | refine g_2_2 C (by assumption) wt_150 dX4_mask_50 ?_
                first | refine v_icmp_ltN C 63 dX4_mask_53 (by omega) (by omega) (by decide) (fun h53 => ?_) (fun h53 => ?_) | refine v_icmp_lt C 63 dX4_mask_53 (by decide) (fun h53 => ?_) (fun h53 => ?_)
                · refine v_aload C dX4_mask_63 rfl ?_
                  refine g_2_6 C (by assumption) (by assumption) wt_161 dX4_mask_65 ?_
                  refine v_iload_n C dX4_mask_68 rfl ?_
                  first | refine v_ialdN C (by assumption) (by omega) (by omega) dX4_mask_69 ?_ | refine v_iald C (by assumption) (by assumption) dX4_mask_69 ?_
                  rw [hr0]
                  refine v_istore C dX4_mask_70 (by decide) ?_
                  refine v_aload C dX4_mask_72 rfl ?_
                  refine g_2_6 C (by assumption) (by assumption) wt_161 dX4_mask_74 ?_
                  refine v_iload_n C dX4_mask_77 rfl ?_
                  refine v_iload_n C dX4_mask_78 rfl ?_
                  first | refine v_iastN C (by assumption) (by omega) (by omega) dX4_mask_79 ?_ | refine v_iast C (by assumption) (by assumption) dX4_mask_79 ?_
                  refine v_aload C dX4_mask_80 rfl ?_
                  refine v_iload_n C dX4_mask_82 rfl ?_
                  refine v_callV1_0 C (m_X2_fillFromRows T B) lk_X4_89 ⟨wt_209, wt_210⟩ 2 rfl dX4_mask_83 ⟨Nat.le_of_ble_eq_true rfl, Nat.le_of_ble_eq_true rfl⟩ (Nat.le_of_ble_eq_true rfl) ⟨Nat.le_of_ble_eq_true rfl, Nat.le_of_ble_eq_true rfl⟩ (by assumption) (cTo_2 (by assumption)) ?_
                  refine c_X2_fillFromRows (mk := v) (ro := fun i => st.2.1 k 6 (l * 8 + i)) hSc ((congrFun (mu_ne _ _ (by omega)) _).trans hpw) ((congrFun (mu_ne _ _ (by omega)) _).trans hk2) o4 (o7 (by omega)) (by omega) (mu_at _ _ _ _) (fun i hi => ⟨(congrFun (mu_ne _ _ (by omega)) _).trans (hk5 _ (by omega)), by have := o9 (l * 8 + i); omega⟩) (fun I2 hF2 hI2 => ?_)
                  refine v_iload C dX4_mask_86 rfl ?_
                  refine v_iret C Q dX4_mask_88 (Nat.le_of_ble_eq_true rfl) (Nat.le_of_ble_eq_true rfl) ?_
                  have w := Cq_set ⟨hX, hn, htl, hsc, hord, htr, hrf, hzz⟩ hk (D := mu (st.2.1 k) 7 l v) ((FrS.rf.mu (b := sa k + 2) (k := l) (x := nI v) (by omega) (by omega)).tr (hF2.s (by omega) (by omega))) (hSR0.col (Or.inr (Or.inl rfl)) hF2 (fun n hn => ?_) prt_7) hp
                  · exact w
                  · rw [hI2 n hn]
                    unfold prt
                    rw [mu_other (b := 1) _ _ (by omega), mu_other (b := 3) _ _ (by omega), mu_at, if_neg (by omega), if_neg (by omega), pm_congr n (st.2.1 k 3 0) (ro := fun i => mu (st.2.1 k) 7 l v 6 (l * 8 + i)) (ro' := fun i => st.2.1 k 6 (l * 8 + i)) (fun t ht => mu_other _ _ (by omega))]
                · exact absurd h53 (by omega)
            · exact absurd hkd h33
          · exact absurd h18 (by decide)
      · have e : o_mask st (nI k) (nI l) b = rfs st (-2) 2 := by unfold o_mask; rw [onS_k hk (by omega), onS_k hl (by omega), if_neg hkd]
        rw [e] at hp
        refine v_aload_n C dX4_mask_0 rfl ?_
        refine v_iload_n C dX4_mask_1 rfl ?_
        refine v_callV1_3 C (m_X4_find T B) lk_X4_65 ⟨wt_194, ws_3⟩ 4 rfl dX4_mask_2 ⟨Nat.le_of_ble_eq_true rfl, Nat.le_of_ble_eq_true rfl⟩ (Nat.le_of_ble_eq_true rfl) ⟨Nat.le_of_ble_eq_true rfl, Nat.le_of_ble_eq_true rfl⟩ (by assumption) (cTo_4 (by assumption)) ?_
        refine c_find_k hX hn hn12 (fun k hk => (hsc k hk).1) hk ?_
        refine v_astore C dX4_mask_5 (by decide) ?_
        refine v_aload C dX4_mask_7 rfl ?_
        refine v_ifnull C dX4_mask_9 ?_
        refine v_aload C dX4_mask_12 rfl ?_
        refine v_iload_n C dX4_mask_14 rfl ?_
        refine v_callV1_1 C (m_X2_hasDirection T B) lk_X4_69 ⟨wt_197, wt_198⟩ 2 rfl dX4_mask_15 ⟨Nat.le_of_ble_eq_true rfl, Nat.le_of_ble_eq_true rfl⟩ (Nat.le_of_ble_eq_true rfl) ⟨Nat.le_of_ble_eq_true rfl, Nat.le_of_ble_eq_true rfl⟩ (by assumption) (cTo_2 (by assumption)) ?_
        refine c_dir_k hs hk3 o3 hl ?_
        first | refine v_if_neN C 27 dX4_mask_18 (by omega) (by decide) (fun h18 => ?_) (fun h18 => ?_) | refine v_if_ne C 27 dX4_mask_18 (by decide) (fun h18 => ?_) (fun h18 => ?_)
        · refine v_aload C dX4_mask_27 rfl ?_
          first | refine gv_2_0 C (by assumption) (by assumption) wt_143 dX4_mask_29 ?_ | refine g_2_0 C (by assumption) wt_143 dX4_mask_29 ?_
          refine v_iconstN 2 C dX4_mask_32 ?_
          first | refine v_icmp_eqN C 43 dX4_mask_33 (by omega) (by omega) (by decide) (fun h33 => ?_) (fun h33 => ?_) | refine v_icmp_eq C 43 dX4_mask_33 (by decide) (fun h33 => ?_) (fun h33 => ?_)
          · exact absurd h33 hkd
          · refine v_aload_n C dX4_mask_36 rfl ?_
            refine v_bipush (v := -2) C dX4_mask_37 (by decide) ?_
            refine v_callV1_1 C (m_X4_refuse T B) lk_X4_54 ⟨wt_129, ws_1⟩ 4 rfl dX4_mask_39 ⟨Nat.le_of_ble_eq_true rfl, Nat.le_of_ble_eq_true rfl⟩ (Nat.le_of_ble_eq_true rfl) ⟨Nat.le_of_ble_eq_true rfl, Nat.le_of_ble_eq_true rfl⟩ (by assumption) (cTo_4 (by assumption)) ?_
            refine c_X4_refuse (k := 2) hX (by decide) (by decide) ?_
            refine v_iret C Q dX4_mask_42 (Nat.le_of_ble_eq_true rfl) (Nat.le_of_ble_eq_true rfl) ?_
            have w := Cq_rf (k := 2) hR0 (by decide) hp
            exact w
        · exact absurd h18 (by decide)
def s_X4_step : Sp := fun av z S I J R Post => ∃ (x : Nat), ∃ (st : St), ∃ (s j b : Int32), av = [.ref x, .int s, .int j, .int b] ∧ (Rc x st z S I R) ∧ (Ok st) ∧ (Cq x (o_step st s j b).2 S I J R (fun z' S' I' J' R' => Post (o_step st s j b).1 0 none z' S' I' J' R'))
theorem c_X4_step {x : Nat} {st : St} {s j b : Int32} {z : Nat} {S : MS} {I : MI} {J : MJ} {R : MR} {Post : PT} (hR : Rc x st z S I R) (hO : Ok st) (hp : Cq x (o_step st s j b).2 S I J R (fun z' S' I' J' R' => Post (o_step st s j b).1 0 none z' S' I' J' R')) : s_X4_step [.ref x, .int s, .int j, .int b] z S I J R Post := ⟨x, st, s, j, b, rfl, hR, hO, hp⟩
set_option maxRecDepth 100000 in
set_option maxHeartbeats 1000000 in
theorem m_X4_step (T : TC) (B : Nat) : Mt T B yX4_step cX4_step 6 (some .int) 1 (rmL 2 0 0) s_X4_step := by
  refine Mt_of rfl (by rintro _ _ _ _ _ _ _ ⟨_, _, _, _, _, rfl, -⟩; exact Nat.le_of_ble_eq_true rfl) ?_
  intro X av z S I J R Post h C Q hI
  obtain ⟨x, st, s, j, b, rfl, hR, hO, hp⟩ := h
  have hR0 := hR
  obtain ⟨sa, hX, hn, htl, hsc, hord, htr, hrf, hzz⟩ := hR
  have hn12 := hO.1
  have hx := hX.1
  have hT := hX.2.2.2.2.2.2.2.2.1
  rcases Oo_or s st.1 (by omega) with ho | ⟨k, hk, rfl⟩
  · have e : o_step st s j b = rfs st (-1) 1 := by unfold o_step; rw [onS_o ho]
    rw [e] at hp
    refine v_aload_n C dX4_step_0 rfl ?_
    refine v_iload_n C dX4_step_1 rfl ?_
    refine v_callV1_3 C (m_X4_find T B) lk_X4_65 ⟨wt_194, ws_3⟩ 4 rfl dX4_step_2 ⟨Nat.le_of_ble_eq_true rfl, Nat.le_of_ble_eq_true rfl⟩ (Nat.le_of_ble_eq_true rfl) ⟨Nat.le_of_ble_eq_true rfl, Nat.le_of_ble_eq_true rfl⟩ (by assumption) (cTo_4 (by assumption)) ?_
    refine c_find_o hX hn hn12 (fun k hk => (hsc k hk).1) ho ?_
    refine v_astoreN C dX4_step_5 (by decide) ?_
    refine v_aloadN C dX4_step_7 rfl ?_
    refine v_ifnullN C 21 dX4_step_9 (by decide) ?_
    refine v_aload_n C dX4_step_21 rfl ?_
    refine v_iconst (v := -1) C dX4_step_22 (by decide) ?_
    refine v_callV1_1 C (m_X4_refuse T B) lk_X4_54 ⟨wt_129, ws_1⟩ 4 rfl dX4_step_23 ⟨Nat.le_of_ble_eq_true rfl, Nat.le_of_ble_eq_true rfl⟩ (Nat.le_of_ble_eq_true rfl) ⟨Nat.le_of_ble_eq_true rfl, Nat.le_of_ble_eq_true rfl⟩ (by assumption) (cTo_4 (by assumption)) ?_
    refine c_X4_refuse (k := 1) hX (by decide) (by decide) ?_
    refine v_iret C Q dX4_step_26 (Nat.le_of_ble_eq_true rfl) (Nat.le_of_ble_eq_true rfl) ?_
    have w := Cq_rf (k := 1) hR0 (by decide) hp
    exact w
  · obtain ⟨hrk, hSR, hka, hkz⟩ := hsc k hk
    have hSR0 := hSR
    obtain ⟨hSc, hk0, hk1, hk2, hk3, hk4, hk5, hk6, hk7, hk8⟩ := hSR
    have hOk := hO.2.1 k hk
    obtain ⟨o1, o2, o3, o4, o5, o6, o7, o8, o9, o10, o11, o12⟩ := hOk
    have hs := hSc.1
    obtain ⟨-, -, -, hr7, -, -, hs2, hs3, -, -, -⟩ := id hSc
    rcases Oo_or j (st.2.1 k 2 0) (by omega) with hq | ⟨l, hl, rfl⟩
    · have e : o_step st (nI k) j b = rfs st (-1) 1 := by unfold o_step; rw [onS_k hk (by omega), onS_o hq]
      rw [e] at hp
      refine v_aload_n C dX4_step_0 rfl ?_
      refine v_iload_n C dX4_step_1 rfl ?_
      refine v_callV1_3 C (m_X4_find T B) lk_X4_65 ⟨wt_194, ws_3⟩ 4 rfl dX4_step_2 ⟨Nat.le_of_ble_eq_true rfl, Nat.le_of_ble_eq_true rfl⟩ (Nat.le_of_ble_eq_true rfl) ⟨Nat.le_of_ble_eq_true rfl, Nat.le_of_ble_eq_true rfl⟩ (by assumption) (cTo_4 (by assumption)) ?_
      refine c_find_k hX hn hn12 (fun k hk => (hsc k hk).1) hk ?_
      refine v_astore C dX4_step_5 (by decide) ?_
      refine v_aload C dX4_step_7 rfl ?_
      refine v_ifnull C dX4_step_9 ?_
      refine v_aload C dX4_step_12 rfl ?_
      refine v_iload_n C dX4_step_14 rfl ?_
      refine v_callV1_1 C (m_X2_hasDirection T B) lk_X4_69 ⟨wt_197, wt_198⟩ 2 rfl dX4_step_15 ⟨Nat.le_of_ble_eq_true rfl, Nat.le_of_ble_eq_true rfl⟩ (Nat.le_of_ble_eq_true rfl) ⟨Nat.le_of_ble_eq_true rfl, Nat.le_of_ble_eq_true rfl⟩ (by assumption) (cTo_2 (by assumption)) ?_
      refine c_dir_o hs hk3 o3 hq ?_
      first | refine v_if_neN C 27 dX4_step_18 (by omega) (by decide) (fun h18 => ?_) (fun h18 => ?_) | refine v_if_ne C 27 dX4_step_18 (by decide) (fun h18 => ?_) (fun h18 => ?_)
      · exact absurd h18 (by decide)
      · refine v_aload_n C dX4_step_21 rfl ?_
        refine v_iconst (v := -1) C dX4_step_22 (by decide) ?_
        refine v_callV1_1 C (m_X4_refuse T B) lk_X4_54 ⟨wt_129, ws_1⟩ 4 rfl dX4_step_23 ⟨Nat.le_of_ble_eq_true rfl, Nat.le_of_ble_eq_true rfl⟩ (Nat.le_of_ble_eq_true rfl) ⟨Nat.le_of_ble_eq_true rfl, Nat.le_of_ble_eq_true rfl⟩ (by assumption) (cTo_4 (by assumption)) ?_
        refine c_X4_refuse (k := 1) hX (by decide) (by decide) ?_
        refine v_iret C Q dX4_step_26 (Nat.le_of_ble_eq_true rfl) (Nat.le_of_ble_eq_true rfl) ?_
        have w := Cq_rf (k := 1) hR0 (by decide) hp
        exact w
    · by_cases hkd : st.2.1 k 1 0 = 3
      · rcases Oo_or b (st.2.1 k 4 0) (by omega) with hq | ⟨v, hv, rfl⟩
        · have e : o_step st (nI k) (nI l) b = rfs st (-3) 3 := by unfold o_step; rw [onS_k hk (by omega), onS_k hl (by omega), if_pos hkd, onS_o hq]
          rw [e] at hp
          refine v_aload_n C dX4_step_0 rfl ?_
          refine v_iload_n C dX4_step_1 rfl ?_
          refine v_callV1_3 C (m_X4_find T B) lk_X4_65 ⟨wt_194, ws_3⟩ 4 rfl dX4_step_2 ⟨Nat.le_of_ble_eq_true rfl, Nat.le_of_ble_eq_true rfl⟩ (Nat.le_of_ble_eq_true rfl) ⟨Nat.le_of_ble_eq_true rfl, Nat.le_of_ble_eq_true rfl⟩ (by assumption) (cTo_4 (by assumption)) ?_
          refine c_find_k hX hn hn12 (fun k hk => (hsc k hk).1) hk ?_
          refine v_astore C dX4_step_5 (by decide) ?_
          refine v_aload C dX4_step_7 rfl ?_
          refine v_ifnull C dX4_step_9 ?_
          refine v_aload C dX4_step_12 rfl ?_
          refine v_iload_n C dX4_step_14 rfl ?_
          refine v_callV1_1 C (m_X2_hasDirection T B) lk_X4_69 ⟨wt_197, wt_198⟩ 2 rfl dX4_step_15 ⟨Nat.le_of_ble_eq_true rfl, Nat.le_of_ble_eq_true rfl⟩ (Nat.le_of_ble_eq_true rfl) ⟨Nat.le_of_ble_eq_true rfl, Nat.le_of_ble_eq_true rfl⟩ (by assumption) (cTo_2 (by assumption)) ?_
          refine c_dir_k hs hk3 o3 hl ?_
          first | refine v_if_neN C 27 dX4_step_18 (by omega) (by decide) (fun h18 => ?_) (fun h18 => ?_) | refine v_if_ne C 27 dX4_step_18 (by decide) (fun h18 => ?_) (fun h18 => ?_)
          · refine v_aload C dX4_step_27 rfl ?_
            first | refine gv_2_0 C (by assumption) (by assumption) wt_143 dX4_step_29 ?_ | refine g_2_0 C (by assumption) wt_143 dX4_step_29 ?_
            refine v_iconstN 3 C dX4_step_32 ?_
            first | refine v_icmp_eqN C 43 dX4_step_33 (by omega) (by omega) (by decide) (fun h33 => ?_) (fun h33 => ?_) | refine v_icmp_eq C 43 dX4_step_33 (by decide) (fun h33 => ?_) (fun h33 => ?_)
            · refine v_iload_n C dX4_step_43 rfl ?_
              refine v_if_lt C 56 dX4_step_44 (by decide) (fun h44 => ?_) (fun h44 => ?_)
              · refine v_aload_n C dX4_step_56 rfl ?_
                refine v_bipush (v := -3) C dX4_step_57 (by decide) ?_
                refine v_callV1_1 C (m_X4_refuse T B) lk_X4_54 ⟨wt_129, ws_1⟩ 4 rfl dX4_step_59 ⟨Nat.le_of_ble_eq_true rfl, Nat.le_of_ble_eq_true rfl⟩ (Nat.le_of_ble_eq_true rfl) ⟨Nat.le_of_ble_eq_true rfl, Nat.le_of_ble_eq_true rfl⟩ (by assumption) (cTo_4 (by assumption)) ?_
                refine c_X4_refuse (k := 3) hX (by decide) (by decide) ?_
                refine v_iret C Q dX4_step_62 (Nat.le_of_ble_eq_true rfl) (Nat.le_of_ble_eq_true rfl) ?_
                have w := Cq_rf (k := 3) hR0 (by decide) hp
                exact w
              · refine v_iload_n C dX4_step_47 rfl ?_
                refine v_aload C dX4_step_48 rfl ?_
                first | refine gv_2_2 C (by assumption) (by assumption) wt_150 dX4_step_50 ?_ | refine g_2_2 C (by assumption) wt_150 dX4_step_50 ?_
                refine v_icmp_lt C 63 dX4_step_53 (by decide) (fun h53 => ?_) (fun h53 => ?_)
                · exact absurd hq (fun q => q.elim h44 (fun q2 => absurd h53 (Int32.not_lt.mpr q2)))
                · refine v_aload_n C dX4_step_56 rfl ?_
                  refine v_bipush (v := -3) C dX4_step_57 (by decide) ?_
                  refine v_callV1_1 C (m_X4_refuse T B) lk_X4_54 ⟨wt_129, ws_1⟩ 4 rfl dX4_step_59 ⟨Nat.le_of_ble_eq_true rfl, Nat.le_of_ble_eq_true rfl⟩ (Nat.le_of_ble_eq_true rfl) ⟨Nat.le_of_ble_eq_true rfl, Nat.le_of_ble_eq_true rfl⟩ (by assumption) (cTo_4 (by assumption)) ?_
                  refine c_X4_refuse (k := 3) hX (by decide) (by decide) ?_
                  refine v_iret C Q dX4_step_62 (Nat.le_of_ble_eq_true rfl) (Nat.le_of_ble_eq_true rfl) ?_
                  have w := Cq_rf (k := 3) hR0 (by decide) hp
                  exact w
            · exact absurd hkd h33
          · exact absurd h18 (by decide)
        · have e : o_step st (nI k) (nI l) (nI v) = (nI (st.2.1 k 8 l), setS st k (mu (st.2.1 k) 8 l v)) := by unfold o_step; rw [onS_k hk (by omega), onS_k hl (by omega), if_pos hkd, onS_k hv (by omega)]
          rw [e] at hp
          have hr0 := hk7 l (by omega)
          refine v_aload_n C dX4_step_0 rfl ?_
          refine v_iload_n C dX4_step_1 rfl ?_
          refine v_callV1_3 C (m_X4_find T B) lk_X4_65 ⟨wt_194, ws_3⟩ 4 rfl dX4_step_2 ⟨Nat.le_of_ble_eq_true rfl, Nat.le_of_ble_eq_true rfl⟩ (Nat.le_of_ble_eq_true rfl) ⟨Nat.le_of_ble_eq_true rfl, Nat.le_of_ble_eq_true rfl⟩ (by assumption) (cTo_4 (by assumption)) ?_
          refine c_find_k hX hn hn12 (fun k hk => (hsc k hk).1) hk ?_
          refine v_astore C dX4_step_5 (by decide) ?_
          refine v_aload C dX4_step_7 rfl ?_
          refine v_ifnull C dX4_step_9 ?_
          refine v_aload C dX4_step_12 rfl ?_
          refine v_iload_n C dX4_step_14 rfl ?_
          refine v_callV1_1 C (m_X2_hasDirection T B) lk_X4_69 ⟨wt_197, wt_198⟩ 2 rfl dX4_step_15 ⟨Nat.le_of_ble_eq_true rfl, Nat.le_of_ble_eq_true rfl⟩ (Nat.le_of_ble_eq_true rfl) ⟨Nat.le_of_ble_eq_true rfl, Nat.le_of_ble_eq_true rfl⟩ (by assumption) (cTo_2 (by assumption)) ?_
          refine c_dir_k hs hk3 o3 hl ?_
          first | refine v_if_neN C 27 dX4_step_18 (by omega) (by decide) (fun h18 => ?_) (fun h18 => ?_) | refine v_if_ne C 27 dX4_step_18 (by decide) (fun h18 => ?_) (fun h18 => ?_)
          · refine v_aload C dX4_step_27 rfl ?_
            first | refine gv_2_0 C (by assumption) (by assumption) wt_143 dX4_step_29 ?_ | refine g_2_0 C (by assumption) wt_143 dX4_step_29 ?_
            refine v_iconstN 3 C dX4_step_32 ?_
            first | refine v_icmp_eqN C 43 dX4_step_33 (by omega) (by omega) (by decide) (fun h33 => ?_) (fun h33 => ?_) | refine v_icmp_eq C 43 dX4_step_33 (by decide) (fun h33 => ?_) (fun h33 => ?_)
            · refine v_iload_n C dX4_step_43 rfl ?_
              first | refine v_if_ltN C 56 dX4_step_44 (by omega) (by decide) (fun h44 => ?_) (fun h44 => ?_) | refine v_if_lt C 56 dX4_step_44 (by decide) (fun h44 => ?_) (fun h44 => ?_)
              · exact absurd h44 (fun q => q)
              · refine v_iload_n C dX4_step_47 rfl ?_
                refine v_aload C dX4_step_48 rfl ?_
                first | refine gv_2_2 C (by assumption) (by assumption) wt_150 dX4_step_50 ?_ | refine g_2_2 C (by assumption) wt_150 dX4_step_50 ?_
                first | refine v_icmp_ltN C 63 dX4_step_53 (by omega) (by omega) (by decide) (fun h53 => ?_) (fun h53 => ?_) | refine v_icmp_lt C 63 dX4_step_53 (by decide) (fun h53 => ?_) (fun h53 => ?_)
                · refine v_aload C dX4_step_63 rfl ?_
                  refine g_2_7 C (by assumption) (by assumption) wt_163 dX4_step_65 ?_
                  refine v_iload_n C dX4_step_68 rfl ?_
                  first | refine v_ialdN C (by assumption) (by omega) (by omega) dX4_step_69 ?_ | refine v_iald C (by assumption) (by assumption) dX4_step_69 ?_
                  rw [hr0]
                  refine v_istore C dX4_step_70 (by decide) ?_
                  refine v_aload C dX4_step_72 rfl ?_
                  refine g_2_7 C (by assumption) (by assumption) wt_163 dX4_step_74 ?_
                  refine v_iload_n C dX4_step_77 rfl ?_
                  refine v_iload_n C dX4_step_78 rfl ?_
                  first | refine v_iastN C (by assumption) (by omega) (by omega) dX4_step_79 ?_ | refine v_iast C (by assumption) (by assumption) dX4_step_79 ?_
                  refine v_aload C dX4_step_80 rfl ?_
                  refine v_iload_n C dX4_step_82 rfl ?_
                  refine v_callV1_0 C (m_X2_fillFromStep T B) lk_X4_121 ⟨wt_273, wt_274⟩ 2 rfl dX4_step_83 ⟨Nat.le_of_ble_eq_true rfl, Nat.le_of_ble_eq_true rfl⟩ (Nat.le_of_ble_eq_true rfl) ⟨Nat.le_of_ble_eq_true rfl, Nat.le_of_ble_eq_true rfl⟩ (by assumption) (cTo_2 (by assumption)) ?_
                  refine c_X2_fillFromStep (g := v) hSc ((congrFun (mu_ne _ _ (by omega)) _).trans hk2) (by omega) (mu_at _ _ _ _) hv (fun I2 hF2 hI2 => ?_)
                  refine v_iload C dX4_step_86 rfl ?_
                  refine v_iret C Q dX4_step_88 (Nat.le_of_ble_eq_true rfl) (Nat.le_of_ble_eq_true rfl) ?_
                  have w := Cq_set ⟨hX, hn, htl, hsc, hord, htr, hrf, hzz⟩ hk (D := mu (st.2.1 k) 8 l v) ((FrS.rf.mu (b := sa k + 3) (k := l) (x := nI v) (by omega) (by omega)).tr (hF2.s (by omega) (by omega))) (hSR0.col (Or.inr (Or.inr rfl)) hF2 (fun n hn => ?_) prt_8) hp
                  · exact w
                  · rw [hI2 n hn]
                    unfold prt
                    rw [mu_other (b := 1) _ _ (by omega), mu_other (b := 4) _ _ (by omega), mu_at, if_pos hkd]
                · exact absurd h53 (by omega)
            · exact absurd hkd h33
          · exact absurd h18 (by decide)
      · have e : o_step st (nI k) (nI l) b = rfs st (-2) 2 := by unfold o_step; rw [onS_k hk (by omega), onS_k hl (by omega), if_neg hkd]
        rw [e] at hp
        refine v_aload_n C dX4_step_0 rfl ?_
        refine v_iload_n C dX4_step_1 rfl ?_
        refine v_callV1_3 C (m_X4_find T B) lk_X4_65 ⟨wt_194, ws_3⟩ 4 rfl dX4_step_2 ⟨Nat.le_of_ble_eq_true rfl, Nat.le_of_ble_eq_true rfl⟩ (Nat.le_of_ble_eq_true rfl) ⟨Nat.le_of_ble_eq_true rfl, Nat.le_of_ble_eq_true rfl⟩ (by assumption) (cTo_4 (by assumption)) ?_
        refine c_find_k hX hn hn12 (fun k hk => (hsc k hk).1) hk ?_
        refine v_astore C dX4_step_5 (by decide) ?_
        refine v_aload C dX4_step_7 rfl ?_
        refine v_ifnull C dX4_step_9 ?_
        refine v_aload C dX4_step_12 rfl ?_
        refine v_iload_n C dX4_step_14 rfl ?_
        refine v_callV1_1 C (m_X2_hasDirection T B) lk_X4_69 ⟨wt_197, wt_198⟩ 2 rfl dX4_step_15 ⟨Nat.le_of_ble_eq_true rfl, Nat.le_of_ble_eq_true rfl⟩ (Nat.le_of_ble_eq_true rfl) ⟨Nat.le_of_ble_eq_true rfl, Nat.le_of_ble_eq_true rfl⟩ (by assumption) (cTo_2 (by assumption)) ?_
        refine c_dir_k hs hk3 o3 hl ?_
        first | refine v_if_neN C 27 dX4_step_18 (by omega) (by decide) (fun h18 => ?_) (fun h18 => ?_) | refine v_if_ne C 27 dX4_step_18 (by decide) (fun h18 => ?_) (fun h18 => ?_)
        · refine v_aload C dX4_step_27 rfl ?_
          first | refine gv_2_0 C (by assumption) (by assumption) wt_143 dX4_step_29 ?_ | refine g_2_0 C (by assumption) wt_143 dX4_step_29 ?_
          refine v_iconstN 3 C dX4_step_32 ?_
          first | refine v_icmp_eqN C 43 dX4_step_33 (by omega) (by omega) (by decide) (fun h33 => ?_) (fun h33 => ?_) | refine v_icmp_eq C 43 dX4_step_33 (by decide) (fun h33 => ?_) (fun h33 => ?_)
          · exact absurd h33 hkd
          · refine v_aload_n C dX4_step_36 rfl ?_
            refine v_bipush (v := -2) C dX4_step_37 (by decide) ?_
            refine v_callV1_1 C (m_X4_refuse T B) lk_X4_54 ⟨wt_129, ws_1⟩ 4 rfl dX4_step_39 ⟨Nat.le_of_ble_eq_true rfl, Nat.le_of_ble_eq_true rfl⟩ (Nat.le_of_ble_eq_true rfl) ⟨Nat.le_of_ble_eq_true rfl, Nat.le_of_ble_eq_true rfl⟩ (by assumption) (cTo_4 (by assumption)) ?_
            refine c_X4_refuse (k := 2) hX (by decide) (by decide) ?_
            refine v_iret C Q dX4_step_42 (Nat.le_of_ble_eq_true rfl) (Nat.le_of_ble_eq_true rfl) ?_
            have w := Cq_rf (k := 2) hR0 (by decide) hp
            exact w
        · exact absurd h18 (by decide)
