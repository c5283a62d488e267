theorem mcp_in {I : MI} {a sp b dp n k : Nat} (h1 : dp ≤ k) (h2 : k < dp + n) : mcp I a sp b dp n b k = I a (sp + (k - dp)) := by simp [mcp, h1, h2]
theorem mcp_out {I : MI} {a sp b dp n q : Nat} (k : Nat) (h : q ≠ b) : mcp I a sp b dp n q k = I q k := by simp [mcp, h]
def s_X2_takeRowsAndMasks : Sp := fun av z S I J R Post => ∃ (a b c w d : Nat), ∃ (D : SD), av = [.ref a, .ref b] ∧ (ScS S R a c) ∧ (ScS S R b c) ∧ (b + 4 < a) ∧ (I a 1 = nI w) ∧ (I a 2 = nI c) ∧ (w ≤ 8) ∧ (c = 2 ^ w) ∧ (I a 3 = nI d) ∧ (d ≤ 6) ∧ (∀ i, i < 48 → I (b + 1) i = nI (D 6 i) ∧ D 6 i < 256) ∧ (∀ j, j < 6 → I (b + 2) j = nI (D 7 j)) ∧ (∀ I' : MI, FrS I I' (a + 1) (a + 4) → (∀ i, I' (a + 3) i = I (a + 3) i) → (∀ i, i < 48 → I' (a + 1) i = nI (D 6 i)) → (∀ j, j < 6 → I' (a + 2) j = nI (D 7 j)) → (∀ n j, n < c → j < d → I' (a + 4) (j * c + n) = nI (pm (fun i => D 6 (j * 8 + i)) w n ^^^ D 7 j)) → Post 0 0 none z S I' J R)
theorem c_X2_takeRowsAndMasks {a b c w d : Nat} {D : SD} {z : Nat} {S : MS} {I : MI} {J : MJ} {R : MR} {Post : PT} (hSa : ScS S R a c) (hSb : ScS S R b c) (hab : b + 4 < a) (hpw : I a 1 = nI w) (hcc : I a 2 = nI c) (hw8 : w ≤ 8) (hcw : c = 2 ^ w) (hd : I a 3 = nI d) (hd6 : d ≤ 6) (h6 : ∀ i, i < 48 → I (b + 1) i = nI (D 6 i) ∧ D 6 i < 256) (h7 : ∀ j, j < 6 → I (b + 2) j = nI (D 7 j)) (hp : ∀ I' : MI, FrS I I' (a + 1) (a + 4) → (∀ i, I' (a + 3) i = I (a + 3) i) → (∀ i, i < 48 → I' (a + 1) i = nI (D 6 i)) → (∀ j, j < 6 → I' (a + 2) j = nI (D 7 j)) → (∀ n j, n < c → j < d → I' (a + 4) (j * c + n) = nI (pm (fun i => D 6 (j * 8 + i)) w n ^^^ D 7 j)) → Post 0 0 none z S I' J R) : s_X2_takeRowsAndMasks [.ref a, .ref b] z S I J R Post := ⟨a, b, c, w, d, D, rfl, hSa, hSb, hab, hpw, hcc, hw8, hcw, hd, hd6, h6, h7, hp⟩
set_option maxRecDepth 100000 in
set_option maxHeartbeats 1000000 in
theorem m_X2_takeRowsAndMasks (T : TC) (B : Nat) : Mt T B yX2_takeRowsAndMasks cX2_takeRowsAndMasks 3 none 0 (rmL 4 0 0) s_X2_takeRowsAndMasks := by
  refine Mt_of rfl (by rintro _ _ _ _ _ _ _ ⟨_, _, _, _, _, _, rfl, -⟩; exact Nat.le_of_ble_eq_true rfl) ?_
  intro X av z S I J R Post h C Q hI
  obtain ⟨a, b, c, w, d, D, rfl, hSa, hSb, hab, hpw, hcc, hw8, hcw, hd, hd6, h6, h7, hp⟩ := h
  have hSa0 := hSa
  obtain ⟨hs, hr5, hr6, hr7, hr8, hs1, hs2, hs3, hs4, hc1, hc2⟩ := hSa
  obtain ⟨gs, gr5, gr6, gr7, gr8, gs1, gs2, gs3, gs4, gc1, gc2⟩ := hSb
  have loop : ∀ j : Nat, j ≤ d → ∀ I' : MI, FrS I I' (a + 1) (a + 4) → (∀ i, I' (a + 3) i = I (a + 3) i) → (∀ i, i < 48 → I' (a + 1) i = nI (D 6 i)) → (∀ j, j < 6 → I' (a + 2) j = nI (D 7 j)) → (∀ n l, n < c → l < j → I' (a + 4) (l * c + n) = nI (pm (fun i => D 6 (l * 8 + i)) w n ^^^ D 7 l)) → V X 0 0 z S I' J R 38 [some (.ref a), none, some (.int (nI j))] [] := by
    refine lp_up d ?_
    intro j hj ih I' hF f3 f6 f7 f8
    have e1 : I' a 1 = nI w := (hF _ _ (by omega)).trans hpw
    have e2 : I' a 2 = nI c := (hF _ _ (by omega)).trans hcc
    have e3 : I' a 3 = nI d := (hF _ _ (by omega)).trans hd
    refine v_iload_n C dX2_takeRowsAndMasks_38 rfl ?_
    refine v_aload_n C dX2_takeRowsAndMasks_39 rfl ?_
    first | refine gv_2_3 C (by assumption) (by assumption) wt_152 dX2_takeRowsAndMasks_40 ?_ | refine g_2_3 C (by assumption) wt_152 dX2_takeRowsAndMasks_40 ?_
    first | refine v_icmp_geN C 57 dX2_takeRowsAndMasks_43 (by omega) (by omega) (by decide) (fun h43 => ?_) (fun h43 => ?_) | refine v_icmp_ge C 57 dX2_takeRowsAndMasks_43 (by decide) (fun h43 => ?_) (fun h43 => ?_)
    · refine v_ret C Q dX2_takeRowsAndMasks_57 (Nat.le_of_ble_eq_true rfl) (Nat.le_of_ble_eq_true rfl) ?_
      obtain rfl : j = d := by omega
      exact hp I' hF f3 f6 f7 f8
    · refine v_aload_n C dX2_takeRowsAndMasks_46 rfl ?_
      refine v_iload_n C dX2_takeRowsAndMasks_47 rfl ?_
      refine v_callV1_0 C (m_X2_fillFromRows T B) lk_X2_55 ⟨wt_209, wt_210⟩ 2 rfl dX2_takeRowsAndMasks_48 ⟨Nat.le_of_ble_eq_true rfl, Nat.le_of_ble_eq_true rfl⟩ (Nat.le_of_ble_eq_true rfl) ⟨Nat.le_of_ble_eq_true rfl, Nat.le_of_ble_eq_true rfl⟩ (by assumption) (cTo_2 (by assumption)) ?_
      refine c_X2_fillFromRows (mk := D 7 j) (ro := fun i => D 6 (j * 8 + i)) hSa0 e1 e2 hw8 hcw (by omega) (f7 j (by omega)) (fun i hi => ⟨f6 _ (by omega), (h6 _ (by omega)).2⟩) (fun I2 hF2 hI2 => ?_)
      first | refine v_iincN 1 C dX2_takeRowsAndMasks_51 rfl (by decide) ?_ | refine v_iinc C dX2_takeRowsAndMasks_51 rfl rfl (by decide) ?_
      refine v_goto C 38 dX2_takeRowsAndMasks_54 (by decide) ?_
      refine v_less (ih h43 I2 (hF.tr (hF2.s (by omega) (by omega))) (fun i => (hF2 _ _ (by omega)).trans (f3 i)) (fun i hi => (hF2 _ _ (by omega)).trans (f6 i hi)) (fun i hi => (hF2 _ _ (by omega)).trans (f7 i hi)) (fun n l q1 q2 => ?_)) (by repeat (first | exact trivial | refine And.intro rfl ?_))
      by_cases e : l = j
      · subst e; exact hI2 n q1
      · rw [hF2 _ _ (fun q => e (jc_inj q1 (n' := l * c + n - j * c) (by omega) (by omega)).1)]; exact f8 n l q1 (by omega)
  refine v_aload_n C dX2_takeRowsAndMasks_0 rfl ?_
  refine g_2_5 C (by assumption) (by assumption) wt_159 dX2_takeRowsAndMasks_1 ?_
  refine v_iconstN 0 C dX2_takeRowsAndMasks_4 ?_
  refine v_aload_n C dX2_takeRowsAndMasks_5 rfl ?_
  refine g_2_5 C (by assumption) (by assumption) wt_159 dX2_takeRowsAndMasks_6 ?_
  refine v_iconstN 0 C dX2_takeRowsAndMasks_9 ?_
  refine v_aload_n C dX2_takeRowsAndMasks_10 rfl ?_
  refine g_2_5 C (by assumption) (by assumption) wt_159 dX2_takeRowsAndMasks_11 ?_
  refine v_alen C (by assumption) dX2_takeRowsAndMasks_14 ?_
  refine v_copyi C wt_257 wt_259 wt_258 gs1 hs1 (by omega) (by omega) (by omega) (by omega) (Nat.le_of_ble_eq_true rfl) (by decide) dX2_takeRowsAndMasks_15 ?_
  refine v_aload_n C dX2_takeRowsAndMasks_18 rfl ?_
  refine g_2_6 C (by assumption) (by assumption) wt_160 dX2_takeRowsAndMasks_19 ?_
  refine v_iconstN 0 C dX2_takeRowsAndMasks_22 ?_
  refine v_aload_n C dX2_takeRowsAndMasks_23 rfl ?_
  refine g_2_6 C (by assumption) (by assumption) wt_160 dX2_takeRowsAndMasks_24 ?_
  refine v_iconstN 0 C dX2_takeRowsAndMasks_27 ?_
  refine v_aload_n C dX2_takeRowsAndMasks_28 rfl ?_
  refine g_2_6 C (by assumption) (by assumption) wt_160 dX2_takeRowsAndMasks_29 ?_
  refine v_alen C (by assumption) dX2_takeRowsAndMasks_32 ?_
  refine v_copyi C wt_257 wt_259 wt_258 gs2 hs2 (by omega) (by omega) (by omega) (by omega) (Nat.le_of_ble_eq_true rfl) (by decide) dX2_takeRowsAndMasks_33 ?_
  refine v_iconstN 0 C dX2_takeRowsAndMasks_36 ?_
  refine v_istore_n C dX2_takeRowsAndMasks_37 (by decide) ?_
  refine v_less (loop 0 (Nat.zero_le _) _ (fun q k hq => ?_) (fun i => ?_) (fun i hi => ?_) (fun i hi => ?_) (fun n l q1 q2 => absurd q2 (by omega))) (by repeat (first | exact trivial | refine And.intro rfl ?_))
  · rw [mcp_out _ (by omega), mcp_out _ (by omega)]
  · rw [mcp_out _ (by omega), mcp_out _ (by omega)]
  · rw [mcp_out _ (by omega), mcp_in (Nat.zero_le _) (by omega), Nat.zero_add, Nat.sub_zero]
    exact (h6 i hi).1
  · rw [mcp_in (Nat.zero_le _) (by omega), mcp_out _ (by omega), Nat.zero_add, Nat.sub_zero]
    exact h7 i hi
def s_X4_turned : Sp := fun av z S I J R Post => ∃ (x : Nat), ∃ (st : St), ∃ (s : Int32), av = [.ref x, .int s] ∧ (Rc x st z S I R) ∧ (Ok st) ∧ (Cq x (o_turned st s).2 S I J R (fun z' S' I' J' R' => Post (o_turned st s).1 0 none z' S' I' J' R'))
theorem c_X4_turned {x : Nat} {st : St} {s : Int32} {z : Nat} {S : MS} {I : MI} {J : MJ} {R : MR} {Post : PT} (hR : Rc x st z S I R) (hO : Ok st) (hp : Cq x (o_turned st s).2 S I J R (fun z' S' I' J' R' => Post (o_turned st s).1 0 none z' S' I' J' R')) : s_X4_turned [.ref x, .int s] z S I J R Post := ⟨x, st, s, rfl, hR, hO, hp⟩
set_option maxRecDepth 100000 in
set_option maxHeartbeats 1000000 in
theorem m_X4_turned (T : TC) (B : Nat) : Mt T B yX4_turned cX4_turned 4 (some .int) 1 (rmL 5 5 1605) s_X4_turned := by
  refine Mt_of rfl (by rintro _ _ _ _ _ _ _ ⟨_, _, _, rfl, -⟩; exact Nat.le_of_ble_eq_true rfl) ?_
  intro X av z S I J R Post h C Q hI
  obtain ⟨x, st, s, rfl, hR, hO, hp⟩ := h
  have hR0 := hR
  obtain ⟨sa, hX, hn, htl, hsc, hord, htr, hrf, hzz⟩ := hR
  have hn12 := hO.1
  have hx := hX.1
  have hT := hX.2.2.2.2.2.2.2.2.1
  rcases Oo_or s st.1 (by omega) with ho | ⟨k, hk, rfl⟩
  · have e : o_turned st s = rfs st (-1) 1 := by unfold o_turned; rw [onS_o ho]
    rw [e] at hp
    refine v_aload_n C dX4_turned_0 rfl ?_
    refine v_iload_n C dX4_turned_1 rfl ?_
    refine v_callV1_3 C (m_X4_find T B) lk_X4_65 ⟨wt_194, ws_3⟩ 4 rfl dX4_turned_2 ⟨Nat.le_of_ble_eq_true rfl, Nat.le_of_ble_eq_true rfl⟩ (Nat.le_of_ble_eq_true rfl) ⟨Nat.le_of_ble_eq_true rfl, Nat.le_of_ble_eq_true rfl⟩ (by assumption) (cTo_4 (by assumption)) ?_
    refine c_find_o hX hn hn12 (fun k hk => (hsc k hk).1) ho ?_
    refine v_astore_nN C dX4_turned_5 (by decide) ?_
    refine v_aload_nN C dX4_turned_6 rfl ?_
    refine v_ifnonnullN C dX4_turned_7 ?_
    refine v_aload_n C dX4_turned_10 rfl ?_
    refine v_iconst (v := -1) C dX4_turned_11 (by decide) ?_
    refine v_callV1_1 C (m_X4_refuse T B) lk_X4_54 ⟨wt_129, ws_1⟩ 4 rfl dX4_turned_12 ⟨Nat.le_of_ble_eq_true rfl, Nat.le_of_ble_eq_true rfl⟩ (Nat.le_of_ble_eq_true rfl) ⟨Nat.le_of_ble_eq_true rfl, Nat.le_of_ble_eq_true rfl⟩ (by assumption) (cTo_4 (by assumption)) ?_
    refine c_X4_refuse (k := 1) hX (by decide) (by decide) ?_
    refine v_iret C Q dX4_turned_15 (Nat.le_of_ble_eq_true rfl) (Nat.le_of_ble_eq_true rfl) ?_
    have w := Cq_rf (k := 1) hR0 (by decide) hp
    exact w
  · obtain ⟨hrk, hSR, hka, hkz⟩ := hsc k hk
    have hSR0 := hSR
    obtain ⟨hSc, hk0, hk1, hk2, hk3, hk4, hk5, hk6, hk7, hk8⟩ := hSR
    have hOk := hO.2.1 k hk
    obtain ⟨o1, o2, o3, o4, o5, o6, o7, o8, o9, o10, o11, o12⟩ := hOk
    have hs := hSc.1
    by_cases hkd : st.2.1 k 1 0 < 3
    · have hpw : I (sa k) 1 = nI (st.2.1 k 3 0) := by rw [hk1]; unfold pwI; rw [if_neg (by omega)]
      by_cases hm : st.1 < 12
      · have e : o_turned st (nI k) = (nI st.1, addS st (trnD (st.2.1 k))) := by unfold o_turned; rw [onS_k hk (by omega), if_pos hkd, if_pos hm]
        rw [e] at hp
        refine v_aload_n C dX4_turned_0 rfl ?_
        refine v_iload_n C dX4_turned_1 rfl ?_
        refine v_callV1_3 C (m_X4_find T B) lk_X4_65 ⟨wt_194, ws_3⟩ 4 rfl dX4_turned_2 ⟨Nat.le_of_ble_eq_true rfl, Nat.le_of_ble_eq_true rfl⟩ (Nat.le_of_ble_eq_true rfl) ⟨Nat.le_of_ble_eq_true rfl, Nat.le_of_ble_eq_true rfl⟩ (by assumption) (cTo_4 (by assumption)) ?_
        refine c_find_k hX hn hn12 (fun k hk => (hsc k hk).1) hk ?_
        refine v_astore_n C dX4_turned_5 (by decide) ?_
        refine v_aload_n C dX4_turned_6 rfl ?_
        refine v_ifnonnull C 16 dX4_turned_7 (by decide) ?_
        refine v_aload_n C dX4_turned_16 rfl ?_
        refine v_callV0_1 C (m_X2_hasRows T B) lk_X4_107 ⟨wt_250, wt_251⟩ 2 rfl dX4_turned_17 ⟨Nat.le_of_ble_eq_true rfl, Nat.le_of_ble_eq_true rfl⟩ (Nat.le_of_ble_eq_true rfl) ⟨Nat.le_of_ble_eq_true rfl, Nat.le_of_ble_eq_true rfl⟩ (by assumption) (cTo_2 (by assumption)) ?_
        refine c_X2_hasRows hs hk0 o1 ⟨fun _ => ?_, fun q => absurd q (by omega)⟩
        first | refine v_if_neN C 30 dX4_turned_20 (by omega) (by decide) (fun h20 => ?_) (fun h20 => ?_) | refine v_if_ne C 30 dX4_turned_20 (by decide) (fun h20 => ?_) (fun h20 => ?_)
        · refine v_aload_n C dX4_turned_30 rfl ?_
          first | refine gv_4_6 C (by assumption) (by assumption) wt_100 dX4_turned_31 ?_ | refine g_4_6 C (by assumption) wt_100 dX4_turned_31 ?_
          refine v_bipushN 12 (by decide) C dX4_turned_34 ?_
          first | refine v_icmp_ltN C 46 dX4_turned_36 (by omega) (by omega) (by decide) (fun h36 => ?_) (fun h36 => ?_) | refine v_icmp_lt C 46 dX4_turned_36 (by decide) (fun h36 => ?_) (fun h36 => ?_)
          · refine n_2 C wt_19 (by decide) (by decide) dX4_turned_46 ?_
            refine v_dup C dX4_turned_49 rfl ?_
            refine v_iconstN 2 C dX4_turned_50 ?_
            refine v_aload_n C dX4_turned_51 rfl ?_
            first | refine gv_2_3 C ((su_ne _ (by omega)).trans hs) ((congrFun (mz_ne _ _ (by omega)) _).trans hk3) wt_156 dX4_turned_52 ?_ | refine g_2_3 C ((su_ne _ (by omega)).trans hs) wt_156 dX4_turned_52 ?_
            refine v_aload_n C dX4_turned_55 rfl ?_
            first | refine gv_2_1 C ((su_ne _ (by omega)).trans hs) ((congrFun (mz_ne _ _ (by omega)) _).trans hpw) wt_145 dX4_turned_56 ?_ | refine g_2_1 C ((su_ne _ (by omega)).trans hs) wt_145 dX4_turned_56 ?_
            refine v_aload_n C dX4_turned_59 rfl ?_
            first | refine gv_2_2 C ((su_ne _ (by omega)).trans hs) ((congrFun (mz_ne _ _ (by omega)) _).trans hk2) wt_150 dX4_turned_60 ?_ | refine g_2_2 C ((su_ne _ (by omega)).trans hs) wt_150 dX4_turned_60 ?_
            refine v_callI4 C (m_X2_init T B) lk_X4_58 rfl wt_133 dX4_turned_63 ⟨Nat.le_of_ble_eq_true rfl, Nat.le_of_ble_eq_true rfl⟩ (Nat.le_of_ble_eq_true rfl) ⟨Nat.le_of_ble_eq_true rfl, Nat.le_of_ble_eq_true rfl⟩ ?_
            refine c_X2_init rfl (su_at _ _ _ _) o5 o6 (fun S1 I1 R1 n1 n2 n3 n4 n5 n6 n7 n8 n9 n10 => ?_)
            have bS : ∀ b, b < z → S1 b = S b := fun b hb => (n2 b (by omega)).trans (su_ne _ (by omega))
            have bI : ∀ b k, b < z → I1 b k = I b k := fun b k hb => (n9 b k (by omega)).trans (congrFun (mz_ne _ _ (by omega)) k)
            have bR : ∀ b k, b < z → R1 b k = R b k := fun b k hb => (n10 b k (by omega)).trans (congrFun (mz_ne _ _ (by omega)) k)
            have bJ : ∀ b k, b < z → mz J z 0 b k = J b k := fun b k hb => congrFun (mz_ne _ _ (by omega)) k
            have bX : XS S1 R1 x := hX.up (fun b h1 h2 => bS b (by omega)) (fun b k h1 h2 _ => bR b k (by omega))
            have bn : I1 x 6 = nI st.1 := (bI x 6 (by omega)).trans hn
            have bx : S1 x = (5, 0) := bX.1
            refine v_astore_n C dX4_turned_66 (by decide) ?_
            refine v_aload_n C dX4_turned_67 rfl ?_
            refine v_aload_n C dX4_turned_68 rfl ?_
            refine v_callV1_0 C (m_X2_takeRowsAndMasks T B) lk_X4_111 ⟨wt_254, wt_255⟩ 2 rfl dX4_turned_69 ⟨Nat.le_of_ble_eq_true rfl, Nat.le_of_ble_eq_true rfl⟩ (Nat.le_of_ble_eq_true rfl) ⟨Nat.le_of_ble_eq_true rfl, Nat.le_of_ble_eq_true rfl⟩ n1.1 (cTo_2 n1.1) ?_
            refine c_X2_takeRowsAndMasks (D := st.2.1 k) n1 (hSc.up (fun b h1 h2 => bS b (by omega)) (fun i => bR _ i (by omega))) (by omega) n4 n5 o4 (o7 (by omega)) n6 o3 (fun i hi => ⟨(bI _ _ (by omega)).trans (hk5 i hi), by have := o9 i; omega⟩) (fun i hi => (bI _ _ (by omega)).trans (hk6 i hi)) (fun I2 hF2 t3 t6 t7 t8 => ?_)
            have bI2 : ∀ b k, b < z → I2 b k = I b k := fun b k hb => (hF2 b k (by omega)).trans (bI b k hb)
            refine v_aload_n C dX4_turned_72 rfl ?_
            refine v_aload_n C dX4_turned_73 rfl ?_
            refine v_callV1_1 C (m_X4_keep T B) lk_X4_61 ⟨wt_186, ws_2⟩ 4 rfl dX4_turned_74 ⟨Nat.le_of_ble_eq_true rfl, Nat.le_of_ble_eq_true rfl⟩ (Nat.le_of_ble_eq_true rfl) ⟨Nat.le_of_ble_eq_true rfl, Nat.le_of_ble_eq_true rfl⟩ bx (cTo_4 bx) ?_
            refine c_X4_keep bX ((bI2 x 6 (by omega)).trans hn) hm n1.1 ?_
            refine v_iret C Q dX4_turned_77 (Nat.le_of_ble_eq_true rfl) (Nat.le_of_ble_eq_true rfl) ?_
            have hq : ∀ i, I2 z i = I1 z i := fun i => hF2 z i (by omega)
            have w := Cq_add (z' := z + 5) ⟨hX, hn, htl, hsc, hord, htr, hrf, hzz⟩ (by omega) bS bI2 bR bJ (D := trnD (st.2.1 k)) ⟨n1, (hq _).trans n3, (hq _).trans n4, (hq _).trans n5, (hq _).trans n6, (hq _).trans n7, fun i hi => t6 i hi, fun i hi => t7 i hi, fun i hi => (t3 i).trans (n8 _ _ (by omega) (by omega)), fun n j q1 q2 => t8 n j q1 q2⟩ hp
            exact w
          · exact absurd hm (by omega)
        · exact absurd h20 (by decide)
      · have e : o_turned st (nI k) = rfs st (-6) 6 := by unfold o_turned; rw [onS_k hk (by omega), if_pos hkd, if_neg hm]
        rw [e] at hp
        refine v_aload_n C dX4_turned_0 rfl ?_
        refine v_iload_n C dX4_turned_1 rfl ?_
        refine v_callV1_3 C (m_X4_find T B) lk_X4_65 ⟨wt_194, ws_3⟩ 4 rfl dX4_turned_2 ⟨Nat.le_of_ble_eq_true rfl, Nat.le_of_ble_eq_true rfl⟩ (Nat.le_of_ble_eq_true rfl) ⟨Nat.le_of_ble_eq_true rfl, Nat.le_of_ble_eq_true rfl⟩ (by assumption) (cTo_4 (by assumption)) ?_
        refine c_find_k hX hn hn12 (fun k hk => (hsc k hk).1) hk ?_
        refine v_astore_n C dX4_turned_5 (by decide) ?_
        refine v_aload_n C dX4_turned_6 rfl ?_
        refine v_ifnonnull C 16 dX4_turned_7 (by decide) ?_
        refine v_aload_n C dX4_turned_16 rfl ?_
        refine v_callV0_1 C (m_X2_hasRows T B) lk_X4_107 ⟨wt_250, wt_251⟩ 2 rfl dX4_turned_17 ⟨Nat.le_of_ble_eq_true rfl, Nat.le_of_ble_eq_true rfl⟩ (Nat.le_of_ble_eq_true rfl) ⟨Nat.le_of_ble_eq_true rfl, Nat.le_of_ble_eq_true rfl⟩ (by assumption) (cTo_2 (by assumption)) ?_
        refine c_X2_hasRows hs hk0 o1 ⟨fun _ => ?_, fun q => absurd q (by omega)⟩
        first | refine v_if_neN C 30 dX4_turned_20 (by omega) (by decide) (fun h20 => ?_) (fun h20 => ?_) | refine v_if_ne C 30 dX4_turned_20 (by decide) (fun h20 => ?_) (fun h20 => ?_)
        · refine v_aload_n C dX4_turned_30 rfl ?_
          first | refine gv_4_6 C (by assumption) (by assumption) wt_100 dX4_turned_31 ?_ | refine g_4_6 C (by assumption) wt_100 dX4_turned_31 ?_
          refine v_bipushN 12 (by decide) C dX4_turned_34 ?_
          first | refine v_icmp_ltN C 46 dX4_turned_36 (by omega) (by omega) (by decide) (fun h36 => ?_) (fun h36 => ?_) | refine v_icmp_lt C 46 dX4_turned_36 (by decide) (fun h36 => ?_) (fun h36 => ?_)
          · exact absurd h36 (by omega)
          · refine v_aload_n C dX4_turned_39 rfl ?_
            refine v_bipush (v := -6) C dX4_turned_40 (by decide) ?_
            refine v_callV1_1 C (m_X4_refuse T B) lk_X4_54 ⟨wt_129, ws_1⟩ 4 rfl dX4_turned_42 ⟨Nat.le_of_ble_eq_true rfl, Nat.le_of_ble_eq_true rfl⟩ (Nat.le_of_ble_eq_true rfl) ⟨Nat.le_of_ble_eq_true rfl, Nat.le_of_ble_eq_true rfl⟩ (by assumption) (cTo_4 (by assumption)) ?_
            refine c_X4_refuse (k := 6) hX (by decide) (by decide) ?_
            refine v_iret C Q dX4_turned_45 (Nat.le_of_ble_eq_true rfl) (Nat.le_of_ble_eq_true rfl) ?_
            have w := Cq_rf (k := 6) hR0 (by decide) hp
            exact w
        · exact absurd h20 (by decide)
    · have e : o_turned st (nI k) = rfs st (-2) 2 := by unfold o_turned; rw [onS_k hk (by omega), if_neg hkd]
      rw [e] at hp
      refine v_aload_n C dX4_turned_0 rfl ?_
      refine v_iload_n C dX4_turned_1 rfl ?_
      refine v_callV1_3 C (m_X4_find T B) lk_X4_65 ⟨wt_194, ws_3⟩ 4 rfl dX4_turned_2 ⟨Nat.le_of_ble_eq_true rfl, Nat.le_of_ble_eq_true rfl⟩ (Nat.le_of_ble_eq_true rfl) ⟨Nat.le_of_ble_eq_true rfl, Nat.le_of_ble_eq_true rfl⟩ (by assumption) (cTo_4 (by assumption)) ?_
      refine c_find_k hX hn hn12 (fun k hk => (hsc k hk).1) hk ?_
      refine v_astore_n C dX4_turned_5 (by decide) ?_
      refine v_aload_n C dX4_turned_6 rfl ?_
      refine v_ifnonnull C 16 dX4_turned_7 (by decide) ?_
      refine v_aload_n C dX4_turned_16 rfl ?_
      refine v_callV0_1 C (m_X2_hasRows T B) lk_X4_107 ⟨wt_250, wt_251⟩ 2 rfl dX4_turned_17 ⟨Nat.le_of_ble_eq_true rfl, Nat.le_of_ble_eq_true rfl⟩ (Nat.le_of_ble_eq_true rfl) ⟨Nat.le_of_ble_eq_true rfl, Nat.le_of_ble_eq_true rfl⟩ (by assumption) (cTo_2 (by assumption)) ?_
      refine c_X2_hasRows hs hk0 o1 ⟨fun q => absurd q (by omega), fun _ => ?_⟩
      first | refine v_if_neN C 30 dX4_turned_20 (by omega) (by decide) (fun h20 => ?_) (fun h20 => ?_) | refine v_if_ne C 30 dX4_turned_20 (by decide) (fun h20 => ?_) (fun h20 => ?_)
      · exact absurd h20 (by decide)
      · refine v_aload_n C dX4_turned_23 rfl ?_
        refine v_bipush (v := -2) C dX4_turned_24 (by decide) ?_
        refine v_callV1_1 C (m_X4_refuse T B) lk_X4_54 ⟨wt_129, ws_1⟩ 4 rfl dX4_turned_26 ⟨Nat.le_of_ble_eq_true rfl, Nat.le_of_ble_eq_true rfl⟩ (Nat.le_of_ble_eq_true rfl) ⟨Nat.le_of_ble_eq_true rfl, Nat.le_of_ble_eq_true rfl⟩ (by assumption) (cTo_4 (by assumption)) ?_
        refine c_X4_refuse (k := 2) hX (by decide) (by decide) ?_
        refine v_iret C Q dX4_turned_29 (Nat.le_of_ble_eq_true rfl) (Nat.le_of_ble_eq_true rfl) ?_
        have w := Cq_rf (k := 2) hR0 (by decide) hp
        exact w
