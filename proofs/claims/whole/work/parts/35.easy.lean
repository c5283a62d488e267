def o_scatter (st : St) (s w : Int32) : Int32 × St := onS st.1 s (rfs st (-1) 1) fun k => onS 5 w (rfs st (-2) 2) fun w => ((match w with | 0 => nI (st.2.1 k 1 0) | 1 => nI (st.2.1 k 2 0) | 2 => nI (st.2.1 k 4 0) | 3 => pwI (st.2.1 k) | _ => nI (st.2.1 k 5 0)), st)
def o_part (st : St) (s n j : Int32) : Int32 × St := onS st.1 s (rfs st (-1) 1) fun k => onS (st.2.1 k 4 0) n (rfs st (-1) 1) fun n => onS (st.2.1 k 2 0) j (rfs st (-1) 1) fun j => (nI (prt (st.2.1 k) n j), st)
def gry (k t c : Nat) : Nat := if k = 3 then t % c else (t % c) ^^^ (t % c / 2)
def o_next (st : St) (s : Int32) : Int32 × St := onS st.1 s (rfs st (-1) 1) fun k => if 1000000 ≤ st.2.1 k 5 0 then rfs st (-6) 6 else (nI (gry (st.2.1 k 1 0) (st.2.1 k 5 0) (st.2.1 k 4 0)), st.1, upF st.2.1 k (mu (st.2.1 k) 5 0 (st.2.1 k 5 0 + 1)), mu st.2.2 4 0 (st.2.2 4 0 + nI 1))
def o_skip (st : St) (s t : Int32) : Int32 × St := onS st.1 s (rfs st (-1) 1) fun k => if t < 0 then rfs st (-4) 4 else onS 1000001 t (rfs st (-6) 6) fun t => (nI (st.2.1 k 5 0), setS st k (mu (st.2.1 k) 5 0 t))
def o_side (st : St) (j l h : Int32) : Int32 × St := onS 6 j (rfs st (-1) 1) fun j => (nI 1, st.1, st.2.1, mu (mu st.2.2 0 j l) 1 j h)
def o_mark (st : St) (j v : Int32) : Int32 × St := onS 6 j (rfs st (-1) 1) fun j => (st.2.2 2 j, st.1, st.2.1, mu st.2.2 2 j v)
def o_status (st : St) (w : Int32) : Int32 × St := (if w = 0 then nI st.1 else if w = nI 1 then st.2.2 4 0 else if w < nI 11 ∨ nI 16 < w then -9 else st.2.2 3 (vN w - 10), st)
/-- a SCATTER's turn alone has changed -/
theorem ScR.turn {D : SD} {a t : Nat} {S : MS} {I : MI} {R : MR} (h : ScR D a S I R) : ScR (mu D 5 0 t) a S (mu I a 4 (nI t)) R := by
  obtain ⟨h0, h1, h2, h3, h4, h5, h6, h7, h8, h9⟩ := h
  have e : ∀ f i, f ≠ 5 → mu D 5 0 t f i = D f i := fun f i hf => mu_other _ _ (by omega)
  have ep : ∀ n j, prt (mu D 5 0 t) n j = prt D n j := fun n j => by unfold prt; simp only [e 1 _ (by decide), e 8 _ (by decide), e 4 _ (by decide), e 9 _ (by decide), e 6 _ (by decide), e 3 _ (by decide), e 7 _ (by decide)]
  refine ⟨by rw [e _ _ (by decide)]; exact h0, ?_, ?_, ?_, ?_, ?_, fun i hi => ?_, fun i hi => ?_, fun i hi => ?_, fun n j q1 q2 => ?_⟩
  · rw [e _ _ (by decide), mu_other _ _ (by omega)]; exact h1
  · unfold pwI; rw [e _ _ (by decide), e _ _ (by decide), mu_other _ _ (by omega)]; exact h2
  · rw [e _ _ (by decide), mu_other _ _ (by omega)]; exact h3
  · rw [e _ _ (by decide), mu_other _ _ (by omega)]; exact h4
  · rw [mu_at, mu_at]
  · rw [e _ _ (by decide), mu_ne _ _ (by omega)]; exact h6 i hi
  · rw [e _ _ (by decide), mu_ne _ _ (by omega)]; exact h7 i hi
  · rw [e _ _ (by decide), mu_ne _ _ (by omega)]; exact h8 i hi
  · rw [e _ _ (by decide)] at q1 q2 ⊢; rw [ep, mu_ne _ _ (by omega)]; exact h9 n j q1 q2
def s_X4_scatter : Sp := fun av z S I J R Post => ∃ (x : Nat), ∃ (st : St), ∃ (s w : Int32), av = [.ref x, .int s, .int w] ∧ (Rc x st z S I R) ∧ (Ok st) ∧ (Cq x (o_scatter st s w).2 S I J R (fun z' S' I' J' R' => Post (o_scatter st s w).1 0 none z' S' I' J' R'))
theorem c_X4_scatter {x : Nat} {st : St} {s w : Int32} {z : Nat} {S : MS} {I : MI} {J : MJ} {R : MR} {Post : PT} (hR : Rc x st z S I R) (hO : Ok st) (hp : Cq x (o_scatter st s w).2 S I J R (fun z' S' I' J' R' => Post (o_scatter st s w).1 0 none z' S' I' J' R')) : s_X4_scatter [.ref x, .int s, .int w] z S I J R Post := ⟨x, st, s, w, rfl, hR, hO, hp⟩
set_option maxRecDepth 100000 in
set_option maxHeartbeats 1000000 in
theorem m_X4_scatter (T : TC) (B : Nat) : Mt T B yX4_scatter cX4_scatter 4 (some .int) 1 (rmL 2 0 0) s_X4_scatter := by
  refine Mt_of rfl (by rintro _ _ _ _ _ _ _ ⟨_, _, _, _, rfl, -⟩; exact Nat.le_of_ble_eq_true rfl) ?_
  intro X av z S I J R Post h C Q hI
  obtain ⟨x, st, s, w, rfl, hR, hO, hp⟩ := h
  have hR0 := hR
  obtain ⟨sa, hX, hn, htl, hsc, hord, htr, hrf, hzz⟩ := hR
  have hn12 := hO.1
  have hx := hX.1
  have hT := hX.2.2.2.2.2.2.2.2.1
  rcases Oo_or s st.1 (by omega) with ho | ⟨k, hk, rfl⟩
  · have e : o_scatter st s w = rfs st (-1) 1 := by unfold o_scatter; rw [onS_o ho]
    rw [e] at hp
    refine v_aload_n C dX4_scatter_0 rfl ?_
    refine v_iload_n C dX4_scatter_1 rfl ?_
    refine v_callV1_3 C (m_X4_find T B) lk_X4_65 ⟨wt_194, ws_3⟩ 4 rfl dX4_scatter_2 ⟨Nat.le_of_ble_eq_true rfl, Nat.le_of_ble_eq_true rfl⟩ (Nat.le_of_ble_eq_true rfl) ⟨Nat.le_of_ble_eq_true rfl, Nat.le_of_ble_eq_true rfl⟩ (by assumption) (cTo_4 (by assumption)) ?_
    refine c_find_o hX hn hn12 (fun k hk => (hsc k hk).1) ho ?_
    refine v_astore_nN C dX4_scatter_5 (by decide) ?_
    refine v_aload_nN C dX4_scatter_6 rfl ?_
    refine v_ifnonnullN C dX4_scatter_7 ?_
    refine v_aload_n C dX4_scatter_10 rfl ?_
    refine v_iconst (v := -1) C dX4_scatter_11 (by decide) ?_
    refine v_callV1_1 C (m_X4_refuse T B) lk_X4_54 ⟨wt_129, ws_1⟩ 4 rfl dX4_scatter_12 ⟨Nat.le_of_ble_eq_true rfl, Nat.le_of_ble_eq_true rfl⟩ (Nat.le_of_ble_eq_true rfl) ⟨Nat.le_of_ble_eq_true rfl, Nat.le_of_ble_eq_true rfl⟩ (by assumption) (cTo_4 (by assumption)) ?_
    refine c_X4_refuse (k := 1) hX (by decide) (by decide) ?_
    refine v_iret C Q dX4_scatter_15 (Nat.le_of_ble_eq_true rfl) (Nat.le_of_ble_eq_true rfl) ?_
    have w := Cq_rf (k := 1) hR0 (by decide) hp
    exact w
  · obtain ⟨hrk, hSR, hka, hkz⟩ := hsc k hk
    have hSR0 := hSR
    obtain ⟨hSc, hk0, hk1, hk2, hk3, hk4, hk5, hk6, hk7, hk8⟩ := hSR
    have hOk := hO.2.1 k hk
    obtain ⟨o1, o2, o3, o4, o5, o6, o7, o8, o9, o10, o11, o12⟩ := hOk
    have hs := hSc.1
    rcases Oo_or w 5 (by omega) with hw | ⟨v, hv, rfl⟩
    · have e : o_scatter st (nI k) w = rfs st (-2) 2 := by unfold o_scatter; rw [onS_k hk (by omega), onS_o hw]
      rw [e] at hp
      have hw' : w.toInt < 0 ∨ 4 < w.toInt := by
        rcases hw with q | q
        · exact Or.inl (Int32.lt_iff_toInt_lt.mp q)
        · have := Int32.le_iff_toInt_le.mp q
          rw [nI_toInt (by decide)] at this
          exact Or.inr (by omega)
      refine v_aload_n C dX4_scatter_0 rfl ?_
      refine v_iload_n C dX4_scatter_1 rfl ?_
      refine v_callV1_3 C (m_X4_find T B) lk_X4_65 ⟨wt_194, ws_3⟩ 4 rfl dX4_scatter_2 ⟨Nat.le_of_ble_eq_true rfl, Nat.le_of_ble_eq_true rfl⟩ (Nat.le_of_ble_eq_true rfl) ⟨Nat.le_of_ble_eq_true rfl, Nat.le_of_ble_eq_true rfl⟩ (by assumption) (cTo_4 (by assumption)) ?_
      refine c_find_k hX hn hn12 (fun k hk => (hsc k hk).1) hk ?_
      refine v_astore_n C dX4_scatter_5 (by decide) ?_
      refine v_aload_n C dX4_scatter_6 rfl ?_
      refine v_ifnonnull C 16 dX4_scatter_7 (by decide) ?_
      refine v_iload_n C dX4_scatter_16 rfl ?_
      refine v_tableOut C 77 dX4_scatter_17 hw' (by decide) ?_
      refine v_aload_n C dX4_scatter_77 rfl ?_
      refine v_bipush (v := -2) C dX4_scatter_78 (by decide) ?_
      refine v_callV1_1 C (m_X4_refuse T B) lk_X4_54 ⟨wt_129, ws_1⟩ 4 rfl dX4_scatter_80 ⟨Nat.le_of_ble_eq_true rfl, Nat.le_of_ble_eq_true rfl⟩ (Nat.le_of_ble_eq_true rfl) ⟨Nat.le_of_ble_eq_true rfl, Nat.le_of_ble_eq_true rfl⟩ (by assumption) (cTo_4 (by assumption)) ?_
      refine c_X4_refuse (k := 2) hX (by decide) (by decide) ?_
      refine v_iret C Q dX4_scatter_83 (Nat.le_of_ble_eq_true rfl) (Nat.le_of_ble_eq_true rfl) ?_
      have w := Cq_rf (k := 2) hR0 (by decide) hp
      exact w
    · rcases (show v = 0 ∨ v = 1 ∨ v = 2 ∨ v = 3 ∨ v = 4 by omega) with rfl | rfl | rfl | rfl | rfl
      · have e : o_scatter st (nI k) (nI 0) = (nI (st.2.1 k 1 0), st) := by unfold o_scatter; rw [onS_k hk (by omega), onS_k (by decide) (by decide)]; rfl
        rw [e] at hp
        refine v_aload_n C dX4_scatter_0 rfl ?_
        refine v_iload_n C dX4_scatter_1 rfl ?_
        refine v_callV1_3 C (m_X4_find T B) lk_X4_65 ⟨wt_194, ws_3⟩ 4 rfl dX4_scatter_2 ⟨Nat.le_of_ble_eq_true rfl, Nat.le_of_ble_eq_true rfl⟩ (Nat.le_of_ble_eq_true rfl) ⟨Nat.le_of_ble_eq_true rfl, Nat.le_of_ble_eq_true rfl⟩ (by assumption) (cTo_4 (by assumption)) ?_
        refine c_find_k hX hn hn12 (fun k hk => (hsc k hk).1) hk ?_
        refine v_astore_n C dX4_scatter_5 (by decide) ?_
        refine v_aload_n C dX4_scatter_6 rfl ?_
        refine v_ifnonnull C 16 dX4_scatter_7 (by decide) ?_
        refine v_iload_n C dX4_scatter_16 rfl ?_
        refine v_tableIn C 52 dX4_scatter_17 (by decide) (by decide) rfl (by decide) ?_
        refine v_aload_n C dX4_scatter_52 rfl ?_
        first | refine gv_2_0 C (by assumption) (by assumption) wt_143 dX4_scatter_53 ?_ | refine g_2_0 C (by assumption) wt_143 dX4_scatter_53 ?_
        refine v_iret C Q dX4_scatter_56 (Nat.le_of_ble_eq_true rfl) (Nat.le_of_ble_eq_true rfl) ?_
        have w := Cq_same hR0 hp
        exact w
      · have e : o_scatter st (nI k) (nI 1) = (nI (st.2.1 k 2 0), st) := by unfold o_scatter; rw [onS_k hk (by omega), onS_k (by decide) (by decide)]; rfl
        rw [e] at hp
        refine v_aload_n C dX4_scatter_0 rfl ?_
        refine v_iload_n C dX4_scatter_1 rfl ?_
        refine v_callV1_3 C (m_X4_find T B) lk_X4_65 ⟨wt_194, ws_3⟩ 4 rfl dX4_scatter_2 ⟨Nat.le_of_ble_eq_true rfl, Nat.le_of_ble_eq_true rfl⟩ (Nat.le_of_ble_eq_true rfl) ⟨Nat.le_of_ble_eq_true rfl, Nat.le_of_ble_eq_true rfl⟩ (by assumption) (cTo_4 (by assumption)) ?_
        refine c_find_k hX hn hn12 (fun k hk => (hsc k hk).1) hk ?_
        refine v_astore_n C dX4_scatter_5 (by decide) ?_
        refine v_aload_n C dX4_scatter_6 rfl ?_
        refine v_ifnonnull C 16 dX4_scatter_7 (by decide) ?_
        refine v_iload_n C dX4_scatter_16 rfl ?_
        refine v_tableIn C 57 dX4_scatter_17 (by decide) (by decide) rfl (by decide) ?_
        refine v_aload_n C dX4_scatter_57 rfl ?_
        first | refine gv_2_3 C (by assumption) (by assumption) wt_156 dX4_scatter_58 ?_ | refine g_2_3 C (by assumption) wt_156 dX4_scatter_58 ?_
        refine v_iret C Q dX4_scatter_61 (Nat.le_of_ble_eq_true rfl) (Nat.le_of_ble_eq_true rfl) ?_
        have w := Cq_same hR0 hp
        exact w
      · have e : o_scatter st (nI k) (nI 2) = (nI (st.2.1 k 4 0), st) := by unfold o_scatter; rw [onS_k hk (by omega), onS_k (by decide) (by decide)]; rfl
        rw [e] at hp
        refine v_aload_n C dX4_scatter_0 rfl ?_
        refine v_iload_n C dX4_scatter_1 rfl ?_
        refine v_callV1_3 C (m_X4_find T B) lk_X4_65 ⟨wt_194, ws_3⟩ 4 rfl dX4_scatter_2 ⟨Nat.le_of_ble_eq_true rfl, Nat.le_of_ble_eq_true rfl⟩ (Nat.le_of_ble_eq_true rfl) ⟨Nat.le_of_ble_eq_true rfl, Nat.le_of_ble_eq_true rfl⟩ (by assumption) (cTo_4 (by assumption)) ?_
        refine c_find_k hX hn hn12 (fun k hk => (hsc k hk).1) hk ?_
        refine v_astore_n C dX4_scatter_5 (by decide) ?_
        refine v_aload_n C dX4_scatter_6 rfl ?_
        refine v_ifnonnull C 16 dX4_scatter_7 (by decide) ?_
        refine v_iload_n C dX4_scatter_16 rfl ?_
        refine v_tableIn C 62 dX4_scatter_17 (by decide) (by decide) rfl (by decide) ?_
        refine v_aload_n C dX4_scatter_62 rfl ?_
        first | refine gv_2_2 C (by assumption) (by assumption) wt_150 dX4_scatter_63 ?_ | refine g_2_2 C (by assumption) wt_150 dX4_scatter_63 ?_
        refine v_iret C Q dX4_scatter_66 (Nat.le_of_ble_eq_true rfl) (Nat.le_of_ble_eq_true rfl) ?_
        have w := Cq_same hR0 hp
        exact w
      · have e : o_scatter st (nI k) (nI 3) = (pwI (st.2.1 k), st) := by unfold o_scatter; rw [onS_k hk (by omega), onS_k (by decide) (by decide)]; rfl
        rw [e] at hp
        refine v_aload_n C dX4_scatter_0 rfl ?_
        refine v_iload_n C dX4_scatter_1 rfl ?_
        refine v_callV1_3 C (m_X4_find T B) lk_X4_65 ⟨wt_194, ws_3⟩ 4 rfl dX4_scatter_2 ⟨Nat.le_of_ble_eq_true rfl, Nat.le_of_ble_eq_true rfl⟩ (Nat.le_of_ble_eq_true rfl) ⟨Nat.le_of_ble_eq_true rfl, Nat.le_of_ble_eq_true rfl⟩ (by assumption) (cTo_4 (by assumption)) ?_
        refine c_find_k hX hn hn12 (fun k hk => (hsc k hk).1) hk ?_
        refine v_astore_n C dX4_scatter_5 (by decide) ?_
        refine v_aload_n C dX4_scatter_6 rfl ?_
        refine v_ifnonnull C 16 dX4_scatter_7 (by decide) ?_
        refine v_iload_n C dX4_scatter_16 rfl ?_
        refine v_tableIn C 67 dX4_scatter_17 (by decide) (by decide) rfl (by decide) ?_
        refine v_aload_n C dX4_scatter_67 rfl ?_
        first | refine gv_2_1 C (by assumption) (by assumption) wt_145 dX4_scatter_68 ?_ | refine g_2_1 C (by assumption) wt_145 dX4_scatter_68 ?_
        refine v_iret C Q dX4_scatter_71 (Nat.le_of_ble_eq_true rfl) (Nat.le_of_ble_eq_true rfl) ?_
        have w := Cq_same hR0 hp
        exact w
      · have e : o_scatter st (nI k) (nI 4) = (nI (st.2.1 k 5 0), st) := by unfold o_scatter; rw [onS_k hk (by omega), onS_k (by decide) (by decide)]; rfl
        rw [e] at hp
        refine v_aload_n C dX4_scatter_0 rfl ?_
        refine v_iload_n C dX4_scatter_1 rfl ?_
        refine v_callV1_3 C (m_X4_find T B) lk_X4_65 ⟨wt_194, ws_3⟩ 4 rfl dX4_scatter_2 ⟨Nat.le_of_ble_eq_true rfl, Nat.le_of_ble_eq_true rfl⟩ (Nat.le_of_ble_eq_true rfl) ⟨Nat.le_of_ble_eq_true rfl, Nat.le_of_ble_eq_true rfl⟩ (by assumption) (cTo_4 (by assumption)) ?_
        refine c_find_k hX hn hn12 (fun k hk => (hsc k hk).1) hk ?_
        refine v_astore_n C dX4_scatter_5 (by decide) ?_
        refine v_aload_n C dX4_scatter_6 rfl ?_
        refine v_ifnonnull C 16 dX4_scatter_7 (by decide) ?_
        refine v_iload_n C dX4_scatter_16 rfl ?_
        refine v_tableIn C 72 dX4_scatter_17 (by decide) (by decide) rfl (by decide) ?_
        refine v_aload_n C dX4_scatter_72 rfl ?_
        first | refine gv_2_4 C (by assumption) (by assumption) wt_158 dX4_scatter_73 ?_ | refine g_2_4 C (by assumption) wt_158 dX4_scatter_73 ?_
        refine v_iret C Q dX4_scatter_76 (Nat.le_of_ble_eq_true rfl) (Nat.le_of_ble_eq_true rfl) ?_
        have w := Cq_same hR0 hp
        exact w
def s_X4_part : Sp := fun av z S I J R Post => ∃ (x : Nat), ∃ (st : St), ∃ (s n j : Int32), av = [.ref x, .int s, .int n, .int j] ∧ (Rc x st z S I R) ∧ (Ok st) ∧ (Cq x (o_part st s n j).2 S I J R (fun z' S' I' J' R' => Post (o_part st s n j).1 0 none z' S' I' J' R'))
theorem c_X4_part {x : Nat} {st : St} {s n j : Int32} {z : Nat} {S : MS} {I : MI} {J : MJ} {R : MR} {Post : PT} (hR : Rc x st z S I R) (hO : Ok st) (hp : Cq x (o_part st s n j).2 S I J R (fun z' S' I' J' R' => Post (o_part st s n j).1 0 none z' S' I' J' R')) : s_X4_part [.ref x, .int s, .int n, .int j] z S I J R Post := ⟨x, st, s, n, j, rfl, hR, hO, hp⟩
set_option maxRecDepth 100000 in
set_option maxHeartbeats 1000000 in
theorem m_X4_part (T : TC) (B : Nat) : Mt T B yX4_part cX4_part 5 (some .int) 1 (rmL 2 0 0) s_X4_part := by
  refine Mt_of rfl (by rintro _ _ _ _ _ _ _ ⟨_, _, _, _, _, rfl, -⟩; exact Nat.le_of_ble_eq_true rfl) ?_
  intro X av z S I J R Post h C Q hI
  obtain ⟨x, st, s, n, j, rfl, hR, hO, hp⟩ := h
  have hR0 := hR
  obtain ⟨sa, hX, hn, htl, hsc, hord, htr, hrf, hzz⟩ := hR
  have hn12 := hO.1
  have hx := hX.1
  have hT := hX.2.2.2.2.2.2.2.2.1
  rcases Oo_or s st.1 (by omega) with ho | ⟨k, hk, rfl⟩
  · have e : o_part st s n j = rfs st (-1) 1 := by unfold o_part; rw [onS_o ho]
    rw [e] at hp
    refine v_aload_n C dX4_part_0 rfl ?_
    refine v_iload_n C dX4_part_1 rfl ?_
    refine v_callV1_3 C (m_X4_find T B) lk_X4_65 ⟨wt_194, ws_3⟩ 4 rfl dX4_part_2 ⟨Nat.le_of_ble_eq_true rfl, Nat.le_of_ble_eq_true rfl⟩ (Nat.le_of_ble_eq_true rfl) ⟨Nat.le_of_ble_eq_true rfl, Nat.le_of_ble_eq_true rfl⟩ (by assumption) (cTo_4 (by assumption)) ?_
    refine c_find_o hX hn hn12 (fun k hk => (hsc k hk).1) ho ?_
    refine v_astoreN C dX4_part_5 (by decide) ?_
    refine v_aloadN C dX4_part_7 rfl ?_
    refine v_ifnullN C 34 dX4_part_9 (by decide) ?_
    refine v_aload_n C dX4_part_34 rfl ?_
    refine v_iconst (v := -1) C dX4_part_35 (by decide) ?_
    refine v_callV1_1 C (m_X4_refuse T B) lk_X4_54 ⟨wt_129, ws_1⟩ 4 rfl dX4_part_36 ⟨Nat.le_of_ble_eq_true rfl, Nat.le_of_ble_eq_true rfl⟩ (Nat.le_of_ble_eq_true rfl) ⟨Nat.le_of_ble_eq_true rfl, Nat.le_of_ble_eq_true rfl⟩ (by assumption) (cTo_4 (by assumption)) ?_
    refine c_X4_refuse (k := 1) hX (by decide) (by decide) ?_
    refine v_iret C Q dX4_part_39 (Nat.le_of_ble_eq_true rfl) (Nat.le_of_ble_eq_true rfl) ?_
    have w := Cq_rf (k := 1) hR0 (by decide) hp
    exact w
  · obtain ⟨hrk, hSR, hka, hkz⟩ := hsc k hk
    have hSR0 := hSR
    obtain ⟨hSc, hk0, hk1, hk2, hk3, hk4, hk5, hk6, hk7, hk8⟩ := hSR
    have hOk := hO.2.1 k hk
    obtain ⟨o1, o2, o3, o4, o5, o6, o7, o8, o9, o10, o11, o12⟩ := hOk
    have hs := hSc.1
    rcases Oo_or n (st.2.1 k 4 0) (by omega) with hq | ⟨m, hm, rfl⟩
    · have e : o_part st (nI k) n j = rfs st (-1) 1 := by unfold o_part; rw [onS_k hk (by omega), onS_o hq]
      rw [e] at hp
      refine v_aload_n C dX4_part_0 rfl ?_
      refine v_iload_n C dX4_part_1 rfl ?_
      refine v_callV1_3 C (m_X4_find T B) lk_X4_65 ⟨wt_194, ws_3⟩ 4 rfl dX4_part_2 ⟨Nat.le_of_ble_eq_true rfl, Nat.le_of_ble_eq_true rfl⟩ (Nat.le_of_ble_eq_true rfl) ⟨Nat.le_of_ble_eq_true rfl, Nat.le_of_ble_eq_true rfl⟩ (by assumption) (cTo_4 (by assumption)) ?_
      refine c_find_k hX hn hn12 (fun k hk => (hsc k hk).1) hk ?_
      refine v_astore C dX4_part_5 (by decide) ?_
      refine v_aload C dX4_part_7 rfl ?_
      refine v_ifnull C dX4_part_9 ?_
      refine v_iload_n C dX4_part_12 rfl ?_
      refine v_if_lt C 34 dX4_part_13 (by decide) (fun h13 => ?_) (fun h13 => ?_)
      · refine v_aload_n C dX4_part_34 rfl ?_
        refine v_iconst (v := -1) C dX4_part_35 (by decide) ?_
        refine v_callV1_1 C (m_X4_refuse T B) lk_X4_54 ⟨wt_129, ws_1⟩ 4 rfl dX4_part_36 ⟨Nat.le_of_ble_eq_true rfl, Nat.le_of_ble_eq_true rfl⟩ (Nat.le_of_ble_eq_true rfl) ⟨Nat.le_of_ble_eq_true rfl, Nat.le_of_ble_eq_true rfl⟩ (by assumption) (cTo_4 (by assumption)) ?_
        refine c_X4_refuse (k := 1) hX (by decide) (by decide) ?_
        refine v_iret C Q dX4_part_39 (Nat.le_of_ble_eq_true rfl) (Nat.le_of_ble_eq_true rfl) ?_
        have w := Cq_rf (k := 1) hR0 (by decide) hp
        exact w
      · refine v_iload_n C dX4_part_16 rfl ?_
        refine v_aload C dX4_part_17 rfl ?_
        first | refine gv_2_2 C (by assumption) (by assumption) wt_150 dX4_part_19 ?_ | refine g_2_2 C (by assumption) wt_150 dX4_part_19 ?_
        refine v_icmp_ge C 34 dX4_part_22 (by decide) (fun h22 => ?_) (fun h22 => ?_)
        · refine v_aload_n C dX4_part_34 rfl ?_
          refine v_iconst (v := -1) C dX4_part_35 (by decide) ?_
          refine v_callV1_1 C (m_X4_refuse T B) lk_X4_54 ⟨wt_129, ws_1⟩ 4 rfl dX4_part_36 ⟨Nat.le_of_ble_eq_true rfl, Nat.le_of_ble_eq_true rfl⟩ (Nat.le_of_ble_eq_true rfl) ⟨Nat.le_of_ble_eq_true rfl, Nat.le_of_ble_eq_true rfl⟩ (by assumption) (cTo_4 (by assumption)) ?_
          refine c_X4_refuse (k := 1) hX (by decide) (by decide) ?_
          refine v_iret C Q dX4_part_39 (Nat.le_of_ble_eq_true rfl) (Nat.le_of_ble_eq_true rfl) ?_
          have w := Cq_rf (k := 1) hR0 (by decide) hp
          exact w
        · exact absurd hq (fun q => q.elim h13 h22)
    · rcases Oo_or j (st.2.1 k 2 0) (by omega) with hq | ⟨l, hl, rfl⟩
      · have e : o_part st (nI k) (nI m) j = rfs st (-1) 1 := by unfold o_part; rw [onS_k hk (by omega), onS_k hm (by omega), onS_o hq]
        rw [e] at hp
        refine v_aload_n C dX4_part_0 rfl ?_
        refine v_iload_n C dX4_part_1 rfl ?_
        refine v_callV1_3 C (m_X4_find T B) lk_X4_65 ⟨wt_194, ws_3⟩ 4 rfl dX4_part_2 ⟨Nat.le_of_ble_eq_true rfl, Nat.le_of_ble_eq_true rfl⟩ (Nat.le_of_ble_eq_true rfl) ⟨Nat.le_of_ble_eq_true rfl, Nat.le_of_ble_eq_true rfl⟩ (by assumption) (cTo_4 (by assumption)) ?_
        refine c_find_k hX hn hn12 (fun k hk => (hsc k hk).1) hk ?_
        refine v_astore C dX4_part_5 (by decide) ?_
        refine v_aload C dX4_part_7 rfl ?_
        refine v_ifnull C dX4_part_9 ?_
        refine v_iload_n C dX4_part_12 rfl ?_
        first | refine v_if_ltN C 34 dX4_part_13 (by omega) (by decide) (fun h13 => ?_) (fun h13 => ?_) | refine v_if_lt C 34 dX4_part_13 (by decide) (fun h13 => ?_) (fun h13 => ?_)
        · exact absurd h13 (fun q => q)
        · refine v_iload_n C dX4_part_16 rfl ?_
          refine v_aload C dX4_part_17 rfl ?_
          first | refine gv_2_2 C (by assumption) (by assumption) wt_150 dX4_part_19 ?_ | refine g_2_2 C (by assumption) wt_150 dX4_part_19 ?_
          first | refine v_icmp_geN C 34 dX4_part_22 (by omega) (by omega) (by decide) (fun h22 => ?_) (fun h22 => ?_) | refine v_icmp_ge C 34 dX4_part_22 (by decide) (fun h22 => ?_) (fun h22 => ?_)
          · exact absurd h22 (by omega)
          · refine v_aload C dX4_part_25 rfl ?_
            refine v_iload_n C dX4_part_27 rfl ?_
            refine v_callV1_1 C (m_X2_hasDirection T B) lk_X4_69 ⟨wt_197, wt_198⟩ 2 rfl dX4_part_28 ⟨Nat.le_of_ble_eq_true rfl, Nat.le_of_ble_eq_true rfl⟩ (Nat.le_of_ble_eq_true rfl) ⟨Nat.le_of_ble_eq_true rfl, Nat.le_of_ble_eq_true rfl⟩ (by assumption) (cTo_2 (by assumption)) ?_
            refine c_dir_o hs hk3 o3 hq ?_
            first | refine v_if_neN C 40 dX4_part_31 (by omega) (by decide) (fun h31 => ?_) (fun h31 => ?_) | refine v_if_ne C 40 dX4_part_31 (by decide) (fun h31 => ?_) (fun h31 => ?_)
            · exact absurd h31 (by decide)
            · refine v_aload_n C dX4_part_34 rfl ?_
              refine v_iconst (v := -1) C dX4_part_35 (by decide) ?_
              refine v_callV1_1 C (m_X4_refuse T B) lk_X4_54 ⟨wt_129, ws_1⟩ 4 rfl dX4_part_36 ⟨Nat.le_of_ble_eq_true rfl, Nat.le_of_ble_eq_true rfl⟩ (Nat.le_of_ble_eq_true rfl) ⟨Nat.le_of_ble_eq_true rfl, Nat.le_of_ble_eq_true rfl⟩ (by assumption) (cTo_4 (by assumption)) ?_
              refine c_X4_refuse (k := 1) hX (by decide) (by decide) ?_
              refine v_iret C Q dX4_part_39 (Nat.le_of_ble_eq_true rfl) (Nat.le_of_ble_eq_true rfl) ?_
              have w := Cq_rf (k := 1) hR0 (by decide) hp
              exact w
      · have e : o_part st (nI k) (nI m) (nI l) = (nI (prt (st.2.1 k) m l), st) := by unfold o_part; rw [onS_k hk (by omega), onS_k hm (by omega), onS_k hl (by omega)]
        rw [e] at hp
        refine v_aload_n C dX4_part_0 rfl ?_
        refine v_iload_n C dX4_part_1 rfl ?_
        refine v_callV1_3 C (m_X4_find T B) lk_X4_65 ⟨wt_194, ws_3⟩ 4 rfl dX4_part_2 ⟨Nat.le_of_ble_eq_true rfl, Nat.le_of_ble_eq_true rfl⟩ (Nat.le_of_ble_eq_true rfl) ⟨Nat.le_of_ble_eq_true rfl, Nat.le_of_ble_eq_true rfl⟩ (by assumption) (cTo_4 (by assumption)) ?_
        refine c_find_k hX hn hn12 (fun k hk => (hsc k hk).1) hk ?_
        refine v_astore C dX4_part_5 (by decide) ?_
        refine v_aload C dX4_part_7 rfl ?_
        refine v_ifnull C dX4_part_9 ?_
        refine v_iload_n C dX4_part_12 rfl ?_
        first | refine v_if_ltN C 34 dX4_part_13 (by omega) (by decide) (fun h13 => ?_) (fun h13 => ?_) | refine v_if_lt C 34 dX4_part_13 (by decide) (fun h13 => ?_) (fun h13 => ?_)
        · exact absurd h13 (fun q => q)
        · refine v_iload_n C dX4_part_16 rfl ?_
          refine v_aload C dX4_part_17 rfl ?_
          first | refine gv_2_2 C (by assumption) (by assumption) wt_150 dX4_part_19 ?_ | refine g_2_2 C (by assumption) wt_150 dX4_part_19 ?_
          first | refine v_icmp_geN C 34 dX4_part_22 (by omega) (by omega) (by decide) (fun h22 => ?_) (fun h22 => ?_) | refine v_icmp_ge C 34 dX4_part_22 (by decide) (fun h22 => ?_) (fun h22 => ?_)
          · exact absurd h22 (by omega)
          · refine v_aload C dX4_part_25 rfl ?_
            refine v_iload_n C dX4_part_27 rfl ?_
            refine v_callV1_1 C (m_X2_hasDirection T B) lk_X4_69 ⟨wt_197, wt_198⟩ 2 rfl dX4_part_28 ⟨Nat.le_of_ble_eq_true rfl, Nat.le_of_ble_eq_true rfl⟩ (Nat.le_of_ble_eq_true rfl) ⟨Nat.le_of_ble_eq_true rfl, Nat.le_of_ble_eq_true rfl⟩ (by assumption) (cTo_2 (by assumption)) ?_
            refine c_dir_k hs hk3 o3 hl ?_
            first | refine v_if_neN C 40 dX4_part_31 (by omega) (by decide) (fun h31 => ?_) (fun h31 => ?_) | refine v_if_ne C 40 dX4_part_31 (by decide) (fun h31 => ?_) (fun h31 => ?_)
            · refine v_aload C dX4_part_40 rfl ?_
              refine v_iload_n C dX4_part_42 rfl ?_
              refine v_iload_n C dX4_part_43 rfl ?_
              refine v_callV2_1 C (m_X2_partAt T B) lk_X4_131 ⟨wt_295, wt_296⟩ 2 rfl dX4_part_44 ⟨Nat.le_of_ble_eq_true rfl, Nat.le_of_ble_eq_true rfl⟩ (Nat.le_of_ble_eq_true rfl) ⟨Nat.le_of_ble_eq_true rfl, Nat.le_of_ble_eq_true rfl⟩ (by assumption) (cTo_2 (by assumption)) ?_
              refine c_X2_partAt hSc hk2 hm (by omega) ?_
              rw [hk8 m l hm hl]
              refine v_iret C Q dX4_part_47 (Nat.le_of_ble_eq_true rfl) (Nat.le_of_ble_eq_true rfl) ?_
              have w := Cq_same hR0 hp
              exact w
            · exact absurd h31 (by decide)
def s_X4_next : Sp := fun av z S I J R Post => ∃ (x : Nat), ∃ (st : St), ∃ (s : Int32), av = [.ref x, .int s] ∧ (Rc x st z S I R) ∧ (Ok st) ∧ (Cq x (o_next st s).2 S I J R (fun z' S' I' J' R' => Post (o_next st s).1 0 none z' S' I' J' R'))
theorem c_X4_next {x : Nat} {st : St} {s : Int32} {z : Nat} {S : MS} {I : MI} {J : MJ} {R : MR} {Post : PT} (hR : Rc x st z S I R) (hO : Ok st) (hp : Cq x (o_next st s).2 S I J R (fun z' S' I' J' R' => Post (o_next st s).1 0 none z' S' I' J' R')) : s_X4_next [.ref x, .int s] z S I J R Post := ⟨x, st, s, rfl, hR, hO, hp⟩
set_option maxRecDepth 100000 in
set_option maxHeartbeats 1000000 in
theorem m_X4_next (T : TC) (B : Nat) : Mt T B yX4_next cX4_next 4 (some .int) 1 (rmL 2 0 0) s_X4_next := by
  refine Mt_of rfl (by rintro _ _ _ _ _ _ _ ⟨_, _, _, rfl, -⟩; exact Nat.le_of_ble_eq_true rfl) ?_
  intro X av z S I J R Post h C Q hI
  obtain ⟨x, st, s, rfl, hR, hO, hp⟩ := h
  have hR0 := hR
  obtain ⟨sa, hX, hn, htl, hsc, hord, htr, hrf, hzz⟩ := hR
  have hn12 := hO.1
  have hx := hX.1
  have hT := hX.2.2.2.2.2.2.2.2.1
  rcases Oo_or s st.1 (by omega) with ho | ⟨k, hk, rfl⟩
  · have e : o_next st s = rfs st (-1) 1 := by unfold o_next; rw [onS_o ho]
    rw [e] at hp
    refine v_aload_n C dX4_next_0 rfl ?_
    refine v_iload_n C dX4_next_1 rfl ?_
    refine v_callV1_3 C (m_X4_find T B) lk_X4_65 ⟨wt_194, ws_3⟩ 4 rfl dX4_next_2 ⟨Nat.le_of_ble_eq_true rfl, Nat.le_of_ble_eq_true rfl⟩ (Nat.le_of_ble_eq_true rfl) ⟨Nat.le_of_ble_eq_true rfl, Nat.le_of_ble_eq_true rfl⟩ (by assumption) (cTo_4 (by assumption)) ?_
    refine c_find_o hX hn hn12 (fun k hk => (hsc k hk).1) ho ?_
    refine v_astore_nN C dX4_next_5 (by decide) ?_
    refine v_aload_nN C dX4_next_6 rfl ?_
    refine v_ifnonnullN C dX4_next_7 ?_
    refine v_aload_n C dX4_next_10 rfl ?_
    refine v_iconst (v := -1) C dX4_next_11 (by decide) ?_
    refine v_callV1_1 C (m_X4_refuse T B) lk_X4_54 ⟨wt_129, ws_1⟩ 4 rfl dX4_next_12 ⟨Nat.le_of_ble_eq_true rfl, Nat.le_of_ble_eq_true rfl⟩ (Nat.le_of_ble_eq_true rfl) ⟨Nat.le_of_ble_eq_true rfl, Nat.le_of_ble_eq_true rfl⟩ (by assumption) (cTo_4 (by assumption)) ?_
    refine c_X4_refuse (k := 1) hX (by decide) (by decide) ?_
    refine v_iret C Q dX4_next_15 (Nat.le_of_ble_eq_true rfl) (Nat.le_of_ble_eq_true rfl) ?_
    have w := Cq_rf (k := 1) hR0 (by decide) hp
    exact w
  · obtain ⟨hrk, hSR, hka, hkz⟩ := hsc k hk
    have hSR0 := hSR
    obtain ⟨hSc, hk0, hk1, hk2, hk3, hk4, hk5, hk6, hk7, hk8⟩ := hSR
    have hOk := hO.2.1 k hk
    obtain ⟨o1, o2, o3, o4, o5, o6, o7, o8, o9, o10, o11, o12⟩ := hOk
    have hs := hSc.1
    have hxs : x ≠ sa k := by omega
    refine v_aload_n C dX4_next_0 rfl ?_
    refine v_iload_n C dX4_next_1 rfl ?_
    refine v_callV1_3 C (m_X4_find T B) lk_X4_65 ⟨wt_194, ws_3⟩ 4 rfl dX4_next_2 ⟨Nat.le_of_ble_eq_true rfl, Nat.le_of_ble_eq_true rfl⟩ (Nat.le_of_ble_eq_true rfl) ⟨Nat.le_of_ble_eq_true rfl, Nat.le_of_ble_eq_true rfl⟩ (by assumption) (cTo_4 (by assumption)) ?_
    refine c_find_k hX hn hn12 (fun k hk => (hsc k hk).1) hk ?_
    refine v_astore_n C dX4_next_5 (by decide) ?_
    refine v_aload_n C dX4_next_6 rfl ?_
    refine v_ifnonnull C 16 dX4_next_7 (by decide) ?_
    refine v_aload_n C dX4_next_16 rfl ?_
    first | refine gv_2_4 C (by assumption) (by assumption) wt_158 dX4_next_17 ?_ | refine g_2_4 C (by assumption) wt_158 dX4_next_17 ?_
    refine v_ldc C dX4_next_20 wt_302 ?_
    refine v_eqi (x' := nI 1000000) (by decide +kernel) ?_
    first | refine v_icmp_ltN C 32 dX4_next_22 (by omega) (by omega) (by decide) (fun h22 => ?_) (fun h22 => ?_) | refine v_icmp_lt C 32 dX4_next_22 (by decide) (fun h22 => ?_) (fun h22 => ?_)
    · unfold o_next at hp
      rw [onS_k hk (by omega), if_neg (by omega)] at hp
      refine v_aload_n C dX4_next_32 rfl ?_
      refine v_callV0_1 C (m_X2_pointOfTurn T B) lk_X4_135 ⟨wt_304, wt_305⟩ 2 rfl dX4_next_33 ⟨Nat.le_of_ble_eq_true rfl, Nat.le_of_ble_eq_true rfl⟩ (Nat.le_of_ble_eq_true rfl) ⟨Nat.le_of_ble_eq_true rfl, Nat.le_of_ble_eq_true rfl⟩ (by assumption) (cTo_2 (by assumption)) ?_
      refine c_X2_pointOfTurn hSc hk2 hk0 o1 hk4 o8 ?_
      refine v_istore_n C dX4_next_36 (by decide) ?_
      refine v_aload_n C dX4_next_37 rfl ?_
      refine v_dup C dX4_next_38 rfl ?_
      first | refine gv_2_4 C (by assumption) (by assumption) wt_158 dX4_next_39 ?_ | refine g_2_4 C (by assumption) wt_158 dX4_next_39 ?_
      refine v_iconstN 1 C dX4_next_42 ?_
      first | refine v_iaddN C dX4_next_43 ?_ | refine v_iadd C dX4_next_43 ?_
      refine p_2_4 C (by assumption) wt_158 dX4_next_44 ?_
      refine v_aload_n C dX4_next_47 rfl ?_
      refine v_dup C dX4_next_48 rfl ?_
      first | refine gv_4_7 C (by assumption) (by assumption) wt_101 dX4_next_49 ?_ | refine g_4_7 C (by assumption) wt_101 dX4_next_49 ?_
      refine v_iconstN 1 C dX4_next_52 ?_
      refine v_iadd C dX4_next_53 ?_
      refine p_4_7 C (by assumption) wt_101 dX4_next_54 ?_
      refine v_iload_n C dX4_next_57 rfl ?_
      refine v_iret C Q dX4_next_58 (Nat.le_of_ble_eq_true rfl) (Nat.le_of_ble_eq_true rfl) ?_
      refine hp _ _ _ _ _ ⟨sa, hX, ?_, ?_, fun l hl => ?_, hord, fun j hj => ?_, fun i hi => ?_, hzz⟩ (fun p h1 h2 => ⟨rfl, fun i => ?_, fun i => rfl, fun _ => rfl⟩)
      · rw [mu_other _ _ (by omega), mu_ne _ _ hxs]; exact hn
      · rw [mu_at, mu_ne _ _ hxs, htl]; exact (mu_at st.2.2 4 0 _).symm
      · obtain ⟨a1, a2, a3, a4⟩ := hsc l hl
        refine ⟨a1, ?_, a3, a4⟩
        by_cases e : l = k
        · subst e
          show ScR (upF st.2.1 l (mu (st.2.1 l) 5 0 (st.2.1 l 5 0 + 1)) l) (sa l) S _ R
          rw [upF_at]
          exact a2.turn.up (fun _ _ _ => rfl) (fun b i g1 g2 => by rw [mu_ne _ _ (by omega)]) (fun _ => rfl)
        · show ScR (upF st.2.1 k (mu (st.2.1 k) 5 0 (st.2.1 k 5 0 + 1)) l) (sa l) S _ R
          rw [upF_ne _ _ e]
          refine a2.up (fun _ _ _ => rfl) (fun b i g1 g2 => ?_) (fun _ => rfl)
          rw [mu_ne _ _ (by omega), mu_ne _ _ ?_]
          rcases Nat.lt_or_gt_of_ne e with g | g
          · have := hord l k g hk; omega
          · have := hord k l g hl; omega
      · show _ = mu st.2.2 4 0 (st.2.2 4 0 + nI 1) 0 j ∧ _ = mu st.2.2 4 0 (st.2.2 4 0 + nI 1) 1 j ∧ _ = mu st.2.2 4 0 (st.2.2 4 0 + nI 1) 2 j
        rw [mu_ne _ _ (by omega), mu_ne _ _ (by omega), mu_ne _ _ (by omega), mu_ne _ _ (by omega), mu_ne _ _ (by omega), mu_ne _ _ (by omega), mu_ne _ _ (by omega), mu_ne _ _ (by omega), mu_ne _ _ (by omega)]; exact htr j hj
      · show _ = mu st.2.2 4 0 (st.2.2 4 0 + nI 1) 3 i
        rw [mu_ne _ _ (by omega), mu_ne _ _ (by omega), mu_ne _ _ (by omega)]; exact hrf i hi
      · rw [mu_ne _ _ (by omega), mu_ne _ _ (by omega)]
    · have e : o_next st (nI k) = rfs st (-6) 6 := by unfold o_next; rw [onS_k hk (by omega), if_pos (by omega)]
      rw [e] at hp
      refine v_aload_n C dX4_next_25 rfl ?_
      refine v_bipush (v := -6) C dX4_next_26 (by decide) ?_
      refine v_callV1_1 C (m_X4_refuse T B) lk_X4_54 ⟨wt_129, ws_1⟩ 4 rfl dX4_next_28 ⟨Nat.le_of_ble_eq_true rfl, Nat.le_of_ble_eq_true rfl⟩ (Nat.le_of_ble_eq_true rfl) ⟨Nat.le_of_ble_eq_true rfl, Nat.le_of_ble_eq_true rfl⟩ (by assumption) (cTo_4 (by assumption)) ?_
      refine c_X4_refuse (k := 6) hX (by decide) (by decide) ?_
      refine v_iret C Q dX4_next_31 (Nat.le_of_ble_eq_true rfl) (Nat.le_of_ble_eq_true rfl) ?_
      have w := Cq_rf (k := 6) hR0 (by decide) hp
      exact w
def s_X4_skip : Sp := fun av z S I J R Post => ∃ (x : Nat), ∃ (st : St), ∃ (s t : Int32), av = [.ref x, .int s, .int t] ∧ (Rc x st z S I R) ∧ (Ok st) ∧ (Cq x (o_skip st s t).2 S I J R (fun z' S' I' J' R' => Post (o_skip st s t).1 0 none z' S' I' J' R'))
theorem c_X4_skip {x : Nat} {st : St} {s t : Int32} {z : Nat} {S : MS} {I : MI} {J : MJ} {R : MR} {Post : PT} (hR : Rc x st z S I R) (hO : Ok st) (hp : Cq x (o_skip st s t).2 S I J R (fun z' S' I' J' R' => Post (o_skip st s t).1 0 none z' S' I' J' R')) : s_X4_skip [.ref x, .int s, .int t] z S I J R Post := ⟨x, st, s, t, rfl, hR, hO, hp⟩
set_option maxRecDepth 100000 in
set_option maxHeartbeats 1000000 in
theorem m_X4_skip (T : TC) (B : Nat) : Mt T B yX4_skip cX4_skip 5 (some .int) 1 (rmL 2 0 0) s_X4_skip := by
  refine Mt_of rfl (by rintro _ _ _ _ _ _ _ ⟨_, _, _, _, rfl, -⟩; exact Nat.le_of_ble_eq_true rfl) ?_
  intro X av z S I J R Post h C Q hI
  obtain ⟨x, st, s, t, rfl, hR, hO, hp⟩ := h
  have hR0 := hR
  obtain ⟨sa, hX, hn, htl, hsc, hord, htr, hrf, hzz⟩ := hR
  have hn12 := hO.1
  have hx := hX.1
  have hT := hX.2.2.2.2.2.2.2.2.1
  rcases Oo_or s st.1 (by omega) with ho | ⟨k, hk, rfl⟩
  · have e : o_skip st s t = rfs st (-1) 1 := by unfold o_skip; rw [onS_o ho]
    rw [e] at hp
    refine v_aload_n C dX4_skip_0 rfl ?_
    refine v_iload_n C dX4_skip_1 rfl ?_
    refine v_callV1_3 C (m_X4_find T B) lk_X4_65 ⟨wt_194, ws_3⟩ 4 rfl dX4_skip_2 ⟨Nat.le_of_ble_eq_true rfl, Nat.le_of_ble_eq_true rfl⟩ (Nat.le_of_ble_eq_true rfl) ⟨Nat.le_of_ble_eq_true rfl, Nat.le_of_ble_eq_true rfl⟩ (by assumption) (cTo_4 (by assumption)) ?_
    refine c_find_o hX hn hn12 (fun k hk => (hsc k hk).1) ho ?_
    refine v_astore_nN C dX4_skip_5 (by decide) ?_
    refine v_aload_nN C dX4_skip_6 rfl ?_
    refine v_ifnonnullN C dX4_skip_7 ?_
    refine v_aload_n C dX4_skip_10 rfl ?_
    refine v_iconst (v := -1) C dX4_skip_11 (by decide) ?_
    refine v_callV1_1 C (m_X4_refuse T B) lk_X4_54 ⟨wt_129, ws_1⟩ 4 rfl dX4_skip_12 ⟨Nat.le_of_ble_eq_true rfl, Nat.le_of_ble_eq_true rfl⟩ (Nat.le_of_ble_eq_true rfl) ⟨Nat.le_of_ble_eq_true rfl, Nat.le_of_ble_eq_true rfl⟩ (by assumption) (cTo_4 (by assumption)) ?_
    refine c_X4_refuse (k := 1) hX (by decide) (by decide) ?_
    refine v_iret C Q dX4_skip_15 (Nat.le_of_ble_eq_true rfl) (Nat.le_of_ble_eq_true rfl) ?_
    have w := Cq_rf (k := 1) hR0 (by decide) hp
    exact w
  · obtain ⟨hrk, hSR, hka, hkz⟩ := hsc k hk
    have hSR0 := hSR
    obtain ⟨hSc, hk0, hk1, hk2, hk3, hk4, hk5, hk6, hk7, hk8⟩ := hSR
    have hOk := hO.2.1 k hk
    obtain ⟨o1, o2, o3, o4, o5, o6, o7, o8, o9, o10, o11, o12⟩ := hOk
    have hs := hSc.1
    rcases Oo_or t 1000001 (by omega) with hq | ⟨m, hm, rfl⟩
    · refine v_aload_n C dX4_skip_0 rfl ?_
      refine v_iload_n C dX4_skip_1 rfl ?_
      refine v_callV1_3 C (m_X4_find T B) lk_X4_65 ⟨wt_194, ws_3⟩ 4 rfl dX4_skip_2 ⟨Nat.le_of_ble_eq_true rfl, Nat.le_of_ble_eq_true rfl⟩ (Nat.le_of_ble_eq_true rfl) ⟨Nat.le_of_ble_eq_true rfl, Nat.le_of_ble_eq_true rfl⟩ (by assumption) (cTo_4 (by assumption)) ?_
      refine c_find_k hX hn hn12 (fun k hk => (hsc k hk).1) hk ?_
      refine v_astore_n C dX4_skip_5 (by decide) ?_
      refine v_aload_n C dX4_skip_6 rfl ?_
      refine v_ifnonnull C 16 dX4_skip_7 (by decide) ?_
      refine v_iload_n C dX4_skip_16 rfl ?_
      refine v_if_ge C 27 dX4_skip_17 (by decide) (fun h17 => ?_) (fun h17 => ?_)
      · have e : o_skip st (nI k) t = rfs st (-6) 6 := by unfold o_skip; rw [onS_k hk (by omega), if_neg (Int32.not_lt.mpr h17), onS_o hq]
        rw [e] at hp
        refine v_iload_n C dX4_skip_27 rfl ?_
        refine v_ldc C dX4_skip_28 wt_302 ?_
        refine v_eqi (x' := nI 1000000) (by decide +kernel) ?_
        refine v_icmp_le C 40 dX4_skip_30 (by decide) (fun h30 => ?_) (fun h30 => ?_)
        · exfalso
          have g1 := Int32.le_iff_toInt_le.mp h30
          have g2 := hq.resolve_left (Int32.not_lt.mpr h17)
          have g3 := Int32.le_iff_toInt_le.mp g2
          rw [nI_toInt (by decide)] at g1 g3
          omega
        · refine v_aload_n C dX4_skip_33 rfl ?_
          refine v_bipush (v := -6) C dX4_skip_34 (by decide) ?_
          refine v_callV1_1 C (m_X4_refuse T B) lk_X4_54 ⟨wt_129, ws_1⟩ 4 rfl dX4_skip_36 ⟨Nat.le_of_ble_eq_true rfl, Nat.le_of_ble_eq_true rfl⟩ (Nat.le_of_ble_eq_true rfl) ⟨Nat.le_of_ble_eq_true rfl, Nat.le_of_ble_eq_true rfl⟩ (by assumption) (cTo_4 (by assumption)) ?_
          refine c_X4_refuse (k := 6) hX (by decide) (by decide) ?_
          refine v_iret C Q dX4_skip_39 (Nat.le_of_ble_eq_true rfl) (Nat.le_of_ble_eq_true rfl) ?_
          have w := Cq_rf (k := 6) hR0 (by decide) hp
          exact w
      · have e : o_skip st (nI k) t = rfs st (-4) 4 := by unfold o_skip; rw [onS_k hk (by omega), if_pos (Int32.not_le.mp h17)]
        rw [e] at hp
        refine v_aload_n C dX4_skip_20 rfl ?_
        refine v_bipush (v := -4) C dX4_skip_21 (by decide) ?_
        refine v_callV1_1 C (m_X4_refuse T B) lk_X4_54 ⟨wt_129, ws_1⟩ 4 rfl dX4_skip_23 ⟨Nat.le_of_ble_eq_true rfl, Nat.le_of_ble_eq_true rfl⟩ (Nat.le_of_ble_eq_true rfl) ⟨Nat.le_of_ble_eq_true rfl, Nat.le_of_ble_eq_true rfl⟩ (by assumption) (cTo_4 (by assumption)) ?_
        refine c_X4_refuse (k := 4) hX (by decide) (by decide) ?_
        refine v_iret C Q dX4_skip_26 (Nat.le_of_ble_eq_true rfl) (Nat.le_of_ble_eq_true rfl) ?_
        have w := Cq_rf (k := 4) hR0 (by decide) hp
        exact w
    · have e : o_skip st (nI k) (nI m) = (nI (st.2.1 k 5 0), setS st k (mu (st.2.1 k) 5 0 m)) := by unfold o_skip; rw [onS_k hk (by omega), if_neg (Int32.not_lt.mpr (show (0 : Int32) ≤ nI m from nI_le (Nat.zero_le m) (by omega))), onS_k hm (by omega)]
      rw [e] at hp
      refine v_aload_n C dX4_skip_0 rfl ?_
      refine v_iload_n C dX4_skip_1 rfl ?_
      refine v_callV1_3 C (m_X4_find T B) lk_X4_65 ⟨wt_194, ws_3⟩ 4 rfl dX4_skip_2 ⟨Nat.le_of_ble_eq_true rfl, Nat.le_of_ble_eq_true rfl⟩ (Nat.le_of_ble_eq_true rfl) ⟨Nat.le_of_ble_eq_true rfl, Nat.le_of_ble_eq_true rfl⟩ (by assumption) (cTo_4 (by assumption)) ?_
      refine c_find_k hX hn hn12 (fun k hk => (hsc k hk).1) hk ?_
      refine v_astore_n C dX4_skip_5 (by decide) ?_
      refine v_aload_n C dX4_skip_6 rfl ?_
      refine v_ifnonnull C 16 dX4_skip_7 (by decide) ?_
      refine v_iload_n C dX4_skip_16 rfl ?_
      first | refine v_if_geN C 27 dX4_skip_17 (by omega) (by decide) (fun h17 => ?_) (fun h17 => ?_) | refine v_if_ge C 27 dX4_skip_17 (by decide) (fun h17 => ?_) (fun h17 => ?_)
      · refine v_iload_n C dX4_skip_27 rfl ?_
        refine v_ldc C dX4_skip_28 wt_302 ?_
        refine v_eqi (x' := nI 1000000) (by decide +kernel) ?_
        first | refine v_icmp_leN C 40 dX4_skip_30 (by omega) (by omega) (by decide) (fun h30 => ?_) (fun h30 => ?_) | refine v_icmp_le C 40 dX4_skip_30 (by decide) (fun h30 => ?_) (fun h30 => ?_)
        · refine v_aload_n C dX4_skip_40 rfl ?_
          first | refine gv_2_4 C (by assumption) (by assumption) wt_158 dX4_skip_41 ?_ | refine g_2_4 C (by assumption) wt_158 dX4_skip_41 ?_
          refine v_istore C dX4_skip_44 (by decide) ?_
          refine v_aload_n C dX4_skip_46 rfl ?_
          refine v_iload_n C dX4_skip_47 rfl ?_
          refine p_2_4 C (by assumption) wt_158 dX4_skip_48 ?_
          refine v_iload C dX4_skip_51 rfl ?_
          refine v_iret C Q dX4_skip_53 (Nat.le_of_ble_eq_true rfl) (Nat.le_of_ble_eq_true rfl) ?_
          have w := Cq_set ⟨hX, hn, htl, hsc, hord, htr, hrf, hzz⟩ hk (FrS.rf.mu (Nat.le_refl _) (by omega)) hSR0.turn hp
          exact w
        · exact absurd h30 (by omega)
      · exact absurd h17 (fun q => q)
def s_X4_side : Sp := fun av z S I J R Post => ∃ (x : Nat), ∃ (st : St), ∃ (j l h : Int32), av = [.ref x, .int j, .int l, .int h] ∧ (Rc x st z S I R) ∧ (Ok st) ∧ (Cq x (o_side st j l h).2 S I J R (fun z' S' I' J' R' => Post (o_side st j l h).1 0 none z' S' I' J' R'))
theorem c_X4_side {x : Nat} {st : St} {j l h : Int32} {z : Nat} {S : MS} {I : MI} {J : MJ} {R : MR} {Post : PT} (hR : Rc x st z S I R) (hO : Ok st) (hp : Cq x (o_side st j l h).2 S I J R (fun z' S' I' J' R' => Post (o_side st j l h).1 0 none z' S' I' J' R')) : s_X4_side [.ref x, .int j, .int l, .int h] z S I J R Post := ⟨x, st, j, l, h, rfl, hR, hO, hp⟩
set_option maxRecDepth 100000 in
set_option maxHeartbeats 1000000 in
theorem m_X4_side (T : TC) (B : Nat) : Mt T B yX4_side cX4_side 4 (some .int) 1 (rmL 2 0 0) s_X4_side := by
  refine Mt_of rfl (by rintro _ _ _ _ _ _ _ ⟨_, _, _, _, _, rfl, -⟩; exact Nat.le_of_ble_eq_true rfl) ?_
  intro X av z S I J R Post h C Q hI
  obtain ⟨x, st, j, l, h, rfl, hR, hO, hp⟩ := h
  have hR0 := hR
  obtain ⟨sa, hX, hn, htl, hsc, hord, htr, hrf, hzz⟩ := hR
  have hn12 := hO.1
  have hx := hX.1
  have hT := hX.2.2.2.2.2.2.2.2.1
  have hT1 := hX.2.2.1
  obtain ⟨t0, t1, t2, t3, t4, t5, t6⟩ := hT
  rcases Oo_or j 6 (by omega) with ho | ⟨k, hk, rfl⟩
  · have e : o_side st j l h = rfs st (-1) 1 := by unfold o_side; rw [onS_o ho]
    rw [e] at hp
    refine v_iload_n C dX4_side_0 rfl ?_
    refine v_if_lt C 10 dX4_side_1 (by decide) (fun h1 => ?_) (fun h1 => ?_)
    · refine v_aload_n C dX4_side_10 rfl ?_
      refine v_iconst (v := -1) C dX4_side_11 (by decide) ?_
      refine v_callV1_1 C (m_X4_refuse T B) lk_X4_54 ⟨wt_129, ws_1⟩ 4 rfl dX4_side_12 ⟨Nat.le_of_ble_eq_true rfl, Nat.le_of_ble_eq_true rfl⟩ (Nat.le_of_ble_eq_true rfl) ⟨Nat.le_of_ble_eq_true rfl, Nat.le_of_ble_eq_true rfl⟩ (by assumption) (cTo_4 (by assumption)) ?_
      refine c_X4_refuse (k := 1) hX (by decide) (by decide) ?_
      refine v_iret C Q dX4_side_15 (Nat.le_of_ble_eq_true rfl) (Nat.le_of_ble_eq_true rfl) ?_
      have w := Cq_rf (k := 1) hR0 (by decide) hp
      exact w
    · refine v_iload_n C dX4_side_4 rfl ?_
      refine v_bipushN 6 (by decide) C dX4_side_5 ?_
      refine v_icmp_lt C 16 dX4_side_7 (by decide) (fun h7 => ?_) (fun h7 => ?_)
      · exact absurd ho (fun q => q.elim h1 (fun q2 => absurd h7 (Int32.not_lt.mpr q2)))
      · refine v_aload_n C dX4_side_10 rfl ?_
        refine v_iconst (v := -1) C dX4_side_11 (by decide) ?_
        refine v_callV1_1 C (m_X4_refuse T B) lk_X4_54 ⟨wt_129, ws_1⟩ 4 rfl dX4_side_12 ⟨Nat.le_of_ble_eq_true rfl, Nat.le_of_ble_eq_true rfl⟩ (Nat.le_of_ble_eq_true rfl) ⟨Nat.le_of_ble_eq_true rfl, Nat.le_of_ble_eq_true rfl⟩ (by assumption) (cTo_4 (by assumption)) ?_
        refine c_X4_refuse (k := 1) hX (by decide) (by decide) ?_
        refine v_iret C Q dX4_side_15 (Nat.le_of_ble_eq_true rfl) (Nat.le_of_ble_eq_true rfl) ?_
        have w := Cq_rf (k := 1) hR0 (by decide) hp
        exact w
  · have e : o_side st (nI k) l h = (nI 1, st.1, st.2.1, mu (mu st.2.2 0 k l) 1 k h) := by unfold o_side; rw [onS_k hk (by omega)]
    rw [e] at hp
    refine v_iload_n C dX4_side_0 rfl ?_
    first | refine v_if_ltN C 10 dX4_side_1 (by omega) (by decide) (fun h1 => ?_) (fun h1 => ?_) | refine v_if_lt C 10 dX4_side_1 (by decide) (fun h1 => ?_) (fun h1 => ?_)
    · exact absurd h1 (fun q => q)
    · refine v_iload_n C dX4_side_4 rfl ?_
      refine v_bipushN 6 (by decide) C dX4_side_5 ?_
      first | refine v_icmp_ltN C 16 dX4_side_7 (by omega) (by omega) (by decide) (fun h7 => ?_) (fun h7 => ?_) | refine v_icmp_lt C 16 dX4_side_7 (by decide) (fun h7 => ?_) (fun h7 => ?_)
      · refine v_aload_n C dX4_side_16 rfl ?_
        refine g_4_1 C (by assumption) (by assumption) wt_95 dX4_side_17 ?_
        refine g_3_0 C (by assumption) (by assumption) wt_28 dX4_side_20 ?_
        refine v_iload_n C dX4_side_23 rfl ?_
        refine v_iload_n C dX4_side_24 rfl ?_
        first | refine v_iastN C (by assumption) (by omega) (by omega) dX4_side_25 ?_ | refine v_iast C (by assumption) (by assumption) dX4_side_25 ?_
        refine v_aload_n C dX4_side_26 rfl ?_
        refine g_4_1 C (by assumption) (by assumption) wt_95 dX4_side_27 ?_
        refine g_3_1 C (by assumption) (by assumption) wt_30 dX4_side_30 ?_
        refine v_iload_n C dX4_side_33 rfl ?_
        refine v_iload_n C dX4_side_34 rfl ?_
        first | refine v_iastN C (by assumption) (by omega) (by omega) dX4_side_35 ?_ | refine v_iast C (by assumption) (by assumption) dX4_side_35 ?_
        refine v_iconstN 1 C dX4_side_36 ?_
        refine v_iret C Q dX4_side_37 (Nat.le_of_ble_eq_true rfl) (Nat.le_of_ble_eq_true rfl) ?_
        have w := Cq_fr ⟨hX, hn, htl, hsc, hord, htr, hrf, hzz⟩ ((FrS.rf.mu (b := x + 2 + 1) (k := k) (x := l) (by omega) (by omega)).mu (b := x + 2 + 2) (k := k) (x := h) (by omega) (by omega)) (fun _ _ _ => rfl) (by rw [mu_ne _ _ (by omega), mu_ne _ _ (by omega)]) (by rw [mu_ne _ _ (by omega), mu_ne _ _ (by omega), mu_ne _ _ (by omega), mu_ne _ _ (by omega)]; exact htl) (fun i hi => ?_) (fun i hi => ?_) hp
        · exact w
        · obtain ⟨b1, b2, b3⟩ := htr i hi
          by_cases e : i = k
          · subst e; simp [mu, b3]
          · simp [mu, b1, b2, b3, e]
        · rw [mu_ne _ _ (by omega), mu_ne _ _ (by omega), mu_ne _ _ (by omega), mu_ne _ _ (by omega)]; exact hrf i hi
      · exact absurd h7 (by omega)
def s_X4_mark : Sp := fun av z S I J R Post => ∃ (x : Nat), ∃ (st : St), ∃ (j v : Int32), av = [.ref x, .int j, .int v] ∧ (Rc x st z S I R) ∧ (Ok st) ∧ (Cq x (o_mark st j v).2 S I J R (fun z' S' I' J' R' => Post (o_mark st j v).1 0 none z' S' I' J' R'))
theorem c_X4_mark {x : Nat} {st : St} {j v : Int32} {z : Nat} {S : MS} {I : MI} {J : MJ} {R : MR} {Post : PT} (hR : Rc x st z S I R) (hO : Ok st) (hp : Cq x (o_mark st j v).2 S I J R (fun z' S' I' J' R' => Post (o_mark st j v).1 0 none z' S' I' J' R')) : s_X4_mark [.ref x, .int j, .int v] z S I J R Post := ⟨x, st, j, v, rfl, hR, hO, hp⟩
set_option maxRecDepth 100000 in
set_option maxHeartbeats 1000000 in
theorem m_X4_mark (T : TC) (B : Nat) : Mt T B yX4_mark cX4_mark 4 (some .int) 1 (rmL 2 0 0) s_X4_mark := by
  refine Mt_of rfl (by rintro _ _ _ _ _ _ _ ⟨_, _, _, _, rfl, -⟩; exact Nat.le_of_ble_eq_true rfl) ?_
  intro X av z S I J R Post h C Q hI
  obtain ⟨x, st, j, v, rfl, hR, hO, hp⟩ := h
  have hR0 := hR
  obtain ⟨sa, hX, hn, htl, hsc, hord, htr, hrf, hzz⟩ := hR
  have hn12 := hO.1
  have hx := hX.1
  have hT := hX.2.2.2.2.2.2.2.2.1
  have hT1 := hX.2.2.1
  obtain ⟨t0, t1, t2, t3, t4, t5, t6⟩ := hT
  rcases Oo_or j 6 (by omega) with ho | ⟨k, hk, rfl⟩
  · have e : o_mark st j v = rfs st (-1) 1 := by unfold o_mark; rw [onS_o ho]
    rw [e] at hp
    refine v_iload_n C dX4_mark_0 rfl ?_
    refine v_if_lt C 10 dX4_mark_1 (by decide) (fun h1 => ?_) (fun h1 => ?_)
    · refine v_aload_n C dX4_mark_10 rfl ?_
      refine v_iconst (v := -1) C dX4_mark_11 (by decide) ?_
      refine v_callV1_1 C (m_X4_refuse T B) lk_X4_54 ⟨wt_129, ws_1⟩ 4 rfl dX4_mark_12 ⟨Nat.le_of_ble_eq_true rfl, Nat.le_of_ble_eq_true rfl⟩ (Nat.le_of_ble_eq_true rfl) ⟨Nat.le_of_ble_eq_true rfl, Nat.le_of_ble_eq_true rfl⟩ (by assumption) (cTo_4 (by assumption)) ?_
      refine c_X4_refuse (k := 1) hX (by decide) (by decide) ?_
      refine v_iret C Q dX4_mark_15 (Nat.le_of_ble_eq_true rfl) (Nat.le_of_ble_eq_true rfl) ?_
      have w := Cq_rf (k := 1) hR0 (by decide) hp
      exact w
    · refine v_iload_n C dX4_mark_4 rfl ?_
      refine v_bipushN 6 (by decide) C dX4_mark_5 ?_
      refine v_icmp_lt C 16 dX4_mark_7 (by decide) (fun h7 => ?_) (fun h7 => ?_)
      · exact absurd ho (fun q => q.elim h1 (fun q2 => absurd h7 (Int32.not_lt.mpr q2)))
      · refine v_aload_n C dX4_mark_10 rfl ?_
        refine v_iconst (v := -1) C dX4_mark_11 (by decide) ?_
        refine v_callV1_1 C (m_X4_refuse T B) lk_X4_54 ⟨wt_129, ws_1⟩ 4 rfl dX4_mark_12 ⟨Nat.le_of_ble_eq_true rfl, Nat.le_of_ble_eq_true rfl⟩ (Nat.le_of_ble_eq_true rfl) ⟨Nat.le_of_ble_eq_true rfl, Nat.le_of_ble_eq_true rfl⟩ (by assumption) (cTo_4 (by assumption)) ?_
        refine c_X4_refuse (k := 1) hX (by decide) (by decide) ?_
        refine v_iret C Q dX4_mark_15 (Nat.le_of_ble_eq_true rfl) (Nat.le_of_ble_eq_true rfl) ?_
        have w := Cq_rf (k := 1) hR0 (by decide) hp
        exact w
  · have e : o_mark st (nI k) v = (st.2.2 2 k, st.1, st.2.1, mu st.2.2 2 k v) := by unfold o_mark; rw [onS_k hk (by omega)]
    rw [e] at hp
    have hv0 : I (x + 2 + 3) k = st.2.2 2 k := (htr k hk).2.2
    refine v_iload_n C dX4_mark_0 rfl ?_
    first | refine v_if_ltN C 10 dX4_mark_1 (by omega) (by decide) (fun h1 => ?_) (fun h1 => ?_) | refine v_if_lt C 10 dX4_mark_1 (by decide) (fun h1 => ?_) (fun h1 => ?_)
    · exact absurd h1 (fun q => q)
    · refine v_iload_n C dX4_mark_4 rfl ?_
      refine v_bipushN 6 (by decide) C dX4_mark_5 ?_
      first | refine v_icmp_ltN C 16 dX4_mark_7 (by omega) (by omega) (by decide) (fun h7 => ?_) (fun h7 => ?_) | refine v_icmp_lt C 16 dX4_mark_7 (by decide) (fun h7 => ?_) (fun h7 => ?_)
      · refine v_aload_n C dX4_mark_16 rfl ?_
        refine g_4_1 C (by assumption) (by assumption) wt_95 dX4_mark_17 ?_
        refine g_3_2 C (by assumption) (by assumption) wt_32 dX4_mark_20 ?_
        refine v_iload_n C dX4_mark_23 rfl ?_
        first | refine v_ialdN C (by assumption) (by omega) (by omega) dX4_mark_24 ?_ | refine v_iald C (by assumption) (by assumption) dX4_mark_24 ?_
        rw [hv0]
        refine v_istore_n C dX4_mark_25 (by decide) ?_
        refine v_aload_n C dX4_mark_26 rfl ?_
        refine g_4_1 C (by assumption) (by assumption) wt_95 dX4_mark_27 ?_
        refine g_3_2 C (by assumption) (by assumption) wt_32 dX4_mark_30 ?_
        refine v_iload_n C dX4_mark_33 rfl ?_
        refine v_iload_n C dX4_mark_34 rfl ?_
        first | refine v_iastN C (by assumption) (by omega) (by omega) dX4_mark_35 ?_ | refine v_iast C (by assumption) (by assumption) dX4_mark_35 ?_
        refine v_iload_n C dX4_mark_36 rfl ?_
        refine v_iret C Q dX4_mark_37 (Nat.le_of_ble_eq_true rfl) (Nat.le_of_ble_eq_true rfl) ?_
        have w := Cq_fr ⟨hX, hn, htl, hsc, hord, htr, hrf, hzz⟩ (FrS.rf.mu (b := x + 2 + 3) (k := k) (x := v) (by omega) (by omega)) (fun _ _ _ => rfl) (by rw [mu_ne _ _ (by omega)]) (by rw [mu_ne _ _ (by omega), mu_ne _ _ (by omega)]; exact htl) (fun i hi => ?_) (fun i hi => ?_) hp
        · exact w
        · obtain ⟨b1, b2, b3⟩ := htr i hi
          refine ⟨?_, ?_, ?_⟩
          · rw [mu_ne _ _ (by omega), mu_ne _ _ (by omega)]; exact b1
          · rw [mu_ne _ _ (by omega), mu_ne _ _ (by omega)]; exact b2
          · by_cases e : i = k
            · subst e; rw [mu_at]; exact (mu_at _ _ _ _).symm
            · rw [mu_other _ _ (by omega), mu_other _ _ (by omega)]; exact b3
        · rw [mu_ne _ _ (by omega), mu_ne _ _ (by omega)]; exact hrf i hi
      · exact absurd h7 (by omega)
