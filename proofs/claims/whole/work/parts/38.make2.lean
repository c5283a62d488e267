theorem FrS.z {I I' : MI} {z lo hi : Nat} (h : FrS I I' lo hi) (hz : z ≤ lo) : ∀ b k, b < z → I' b k = I b k := fun b k hb => h b k (by omega)
def s_X4_grid : Sp := fun av z S I J R Post => ∃ (x : Nat), ∃ (st : St), ∃ (c d : Int32), av = [.ref x, .int c, .int d] ∧ (Rc x st z S I R) ∧ (Ok st) ∧ (Cq x (o_grid st c d).2 S I J R (fun z' S' I' J' R' => Post (o_grid st c d).1 0 none z' S' I' J' R'))
theorem c_X4_grid {x : Nat} {st : St} {c d : Int32} {z : Nat} {S : MS} {I : MI} {J : MJ} {R : MR} {Post : PT} (hR : Rc x st z S I R) (hO : Ok st) (hp : Cq x (o_grid st c d).2 S I J R (fun z' S' I' J' R' => Post (o_grid st c d).1 0 none z' S' I' J' R')) : s_X4_grid [.ref x, .int c, .int d] z S I J R Post := ⟨x, st, c, d, rfl, hR, hO, hp⟩
set_option maxRecDepth 100000 in
set_option maxHeartbeats 1000000 in
theorem m_X4_grid (T : TC) (B : Nat) : Mt T B yX4_grid cX4_grid 3 (some .int) 1 (rmL 3 5 1605) s_X4_grid := by
  refine Mt_of rfl (by rintro _ _ _ _ _ _ _ ⟨_, _, _, _, rfl, -⟩; exact Nat.le_of_ble_eq_true rfl) ?_
  intro X av z S I J R Post h C Q hI
  obtain ⟨x, st, c, d, rfl, hR, hO, hp⟩ := h
  have hR0 := hR
  obtain ⟨sa, hX, hn, htl, hsc, hord, htr, hrf, hzz⟩ := hR
  have hn12 := hO.1
  have hx := hX.1
  have hT := hX.2.2.2.2.2.2.2.2.1
  by_cases e1 : c < nI 1 ∨ d < nI 1
  · have e : o_grid st c d = rfs st (-4) 4 := by unfold o_grid; rw [if_pos e1]
    rw [e] at hp
    refine v_iload_n C dX4_grid_0 rfl ?_
    refine v_iconstN 1 C dX4_grid_1 ?_
    refine v_icmp_lt C 10 dX4_grid_2 (by decide) (fun h2 => ?_) (fun h2 => ?_)
    · refine v_aload_n C dX4_grid_10 rfl ?_
      refine v_bipush (v := -4) C dX4_grid_11 (by decide) ?_
      refine v_callV1_1 C (m_X4_refuse T B) lk_X4_54 ⟨wt_129, ws_1⟩ 4 rfl dX4_grid_13 ⟨Nat.le_of_ble_eq_true rfl, Nat.le_of_ble_eq_true rfl⟩ (Nat.le_of_ble_eq_true rfl) ⟨Nat.le_of_ble_eq_true rfl, Nat.le_of_ble_eq_true rfl⟩ (by assumption) (cTo_4 (by assumption)) ?_
      refine c_X4_refuse (k := 4) hX (by decide) (by decide) ?_
      refine v_iret C Q dX4_grid_16 (Nat.le_of_ble_eq_true rfl) (Nat.le_of_ble_eq_true rfl) ?_
      have w := Cq_rf (k := 4) hR0 (by decide) hp
      exact w
    · refine v_iload_n C dX4_grid_5 rfl ?_
      refine v_iconstN 1 C dX4_grid_6 ?_
      refine v_icmp_ge C 17 dX4_grid_7 (by decide) (fun h7 => ?_) (fun h7 => ?_)
      · exact absurd e1 (fun q => q.elim h2 (fun q2 => absurd q2 (Int32.not_lt.mpr h7)))
      · refine v_aload_n C dX4_grid_10 rfl ?_
        refine v_bipush (v := -4) C dX4_grid_11 (by decide) ?_
        refine v_callV1_1 C (m_X4_refuse T B) lk_X4_54 ⟨wt_129, ws_1⟩ 4 rfl dX4_grid_13 ⟨Nat.le_of_ble_eq_true rfl, Nat.le_of_ble_eq_true rfl⟩ (Nat.le_of_ble_eq_true rfl) ⟨Nat.le_of_ble_eq_true rfl, Nat.le_of_ble_eq_true rfl⟩ (by assumption) (cTo_4 (by assumption)) ?_
        refine c_X4_refuse (k := 4) hX (by decide) (by decide) ?_
        refine v_iret C Q dX4_grid_16 (Nat.le_of_ble_eq_true rfl) (Nat.le_of_ble_eq_true rfl) ?_
        have w := Cq_rf (k := 4) hR0 (by decide) hp
        exact w
  · have c1 : ¬ c < nI 1 := fun q => e1 (Or.inl q)
    have d1 : ¬ d < nI 1 := fun q => e1 (Or.inr q)
    by_cases e2 : nI 256 < c ∨ nI 6 < d ∨ 12 ≤ st.1
    · have e : o_grid st c d = rfs st (-6) 6 := by unfold o_grid; rw [if_neg e1, if_pos e2]
      rw [e] at hp
      refine v_iload_n C dX4_grid_0 rfl ?_
      refine v_iconstN 1 C dX4_grid_1 ?_
      refine v_icmp_lt C 10 dX4_grid_2 (by decide) (fun h2 => ?_) (fun h2 => ?_)
      · exact absurd h2 c1
      · refine v_iload_n C dX4_grid_5 rfl ?_
        refine v_iconstN 1 C dX4_grid_6 ?_
        refine v_icmp_ge C 17 dX4_grid_7 (by decide) (fun h7 => ?_) (fun h7 => ?_)
        · refine v_iload_n C dX4_grid_17 rfl ?_
          refine v_sipushN 256 (by decide +kernel) C dX4_grid_18 ?_
          refine v_icmp_gt C 39 dX4_grid_21 (by decide) (fun h21 => ?_) (fun h21 => ?_)
          · refine v_aload_n C dX4_grid_39 rfl ?_
            refine v_bipush (v := -6) C dX4_grid_40 (by decide) ?_
            refine v_callV1_1 C (m_X4_refuse T B) lk_X4_54 ⟨wt_129, ws_1⟩ 4 rfl dX4_grid_42 ⟨Nat.le_of_ble_eq_true rfl, Nat.le_of_ble_eq_true rfl⟩ (Nat.le_of_ble_eq_true rfl) ⟨Nat.le_of_ble_eq_true rfl, Nat.le_of_ble_eq_true rfl⟩ (by assumption) (cTo_4 (by assumption)) ?_
            refine c_X4_refuse (k := 6) hX (by decide) (by decide) ?_
            refine v_iret C Q dX4_grid_45 (Nat.le_of_ble_eq_true rfl) (Nat.le_of_ble_eq_true rfl) ?_
            have w := Cq_rf (k := 6) hR0 (by decide) hp
            exact w
          · refine v_iload_n C dX4_grid_24 rfl ?_
            refine v_bipushN 6 (by decide) C dX4_grid_25 ?_
            refine v_icmp_gt C 39 dX4_grid_27 (by decide) (fun h27 => ?_) (fun h27 => ?_)
            · refine v_aload_n C dX4_grid_39 rfl ?_
              refine v_bipush (v := -6) C dX4_grid_40 (by decide) ?_
              refine v_callV1_1 C (m_X4_refuse T B) lk_X4_54 ⟨wt_129, ws_1⟩ 4 rfl dX4_grid_42 ⟨Nat.le_of_ble_eq_true rfl, Nat.le_of_ble_eq_true rfl⟩ (Nat.le_of_ble_eq_true rfl) ⟨Nat.le_of_ble_eq_true rfl, Nat.le_of_ble_eq_true rfl⟩ (by assumption) (cTo_4 (by assumption)) ?_
              refine c_X4_refuse (k := 6) hX (by decide) (by decide) ?_
              refine v_iret C Q dX4_grid_45 (Nat.le_of_ble_eq_true rfl) (Nat.le_of_ble_eq_true rfl) ?_
              have w := Cq_rf (k := 6) hR0 (by decide) hp
              exact w
            · refine v_aload_n C dX4_grid_30 rfl ?_
              first | refine gv_4_6 C (by assumption) (by assumption) wt_100 dX4_grid_31 ?_ | refine g_4_6 C (by assumption) wt_100 dX4_grid_31 ?_
              refine v_bipushN 12 (by decide) C dX4_grid_34 ?_
              first | refine v_icmp_ltN C 46 dX4_grid_36 (by omega) (by omega) (by decide) (fun h36 => ?_) (fun h36 => ?_) | refine v_icmp_lt C 46 dX4_grid_36 (by decide) (fun h36 => ?_) (fun h36 => ?_)
              · exact absurd e2 (fun q => q.elim h21 (fun q => q.elim h27 (fun q => absurd h36 (by omega))))
              · refine v_aload_n C dX4_grid_39 rfl ?_
                refine v_bipush (v := -6) C dX4_grid_40 (by decide) ?_
                refine v_callV1_1 C (m_X4_refuse T B) lk_X4_54 ⟨wt_129, ws_1⟩ 4 rfl dX4_grid_42 ⟨Nat.le_of_ble_eq_true rfl, Nat.le_of_ble_eq_true rfl⟩ (Nat.le_of_ble_eq_true rfl) ⟨Nat.le_of_ble_eq_true rfl, Nat.le_of_ble_eq_true rfl⟩ (by assumption) (cTo_4 (by assumption)) ?_
                refine c_X4_refuse (k := 6) hX (by decide) (by decide) ?_
                refine v_iret C Q dX4_grid_45 (Nat.le_of_ble_eq_true rfl) (Nat.le_of_ble_eq_true rfl) ?_
                have w := Cq_rf (k := 6) hR0 (by decide) hp
                exact w
        · exact absurd (Int32.not_le.mp h7) d1
    · have c2 : ¬ nI 256 < c := fun q => e2 (Or.inl q)
      have d2 : ¬ nI 6 < d := fun q => e2 (Or.inr (Or.inl q))
      have nlt : st.1 < 12 := Nat.lt_of_not_le (fun q => e2 (Or.inr (Or.inr q)))
      have cz : ∀ v : Int32, ¬ v < nI 1 → ¬ v < 0 := fun v q q2 => by
        have a1 := Int32.le_iff_toInt_le.mp (Int32.not_lt.mp q)
        have a2 := Int32.lt_iff_toInt_lt.mp q2
        rw [nI_toInt (by decide)] at a1
        have : (0 : Int32).toInt = 0 := rfl
        omega
      have e : o_grid st c d = (nI st.1, addS st (newD 3 (vN d) 0 (vN c))) := by unfold o_grid; rw [if_neg e1, if_neg e2]
      rw [e] at hp
      obtain ⟨a, ha, rfl⟩ := nI_of2 (M := nI 256) (n := 256) (nI_toInt (by decide)) (cz c c1) (Int32.not_lt.mp c2)
      obtain ⟨b, hb, rfl⟩ := nI_of2 (M := nI 6) (n := 6) (nI_toInt (by decide)) (cz d d1) (Int32.not_lt.mp d2)
      have ha1 : 1 ≤ a := Nat.le_of_not_lt (fun q => c1 (nI_lt q (by decide)))
      rw [vN_nI (by omega), vN_nI (by omega)] at hp
      refine v_iload_n C dX4_grid_0 rfl ?_
      refine v_iconstN 1 C dX4_grid_1 ?_
      refine v_icmp_lt C 10 dX4_grid_2 (by decide) (fun h2 => ?_) (fun h2 => ?_)
      · exact absurd h2 c1
      · refine v_iload_n C dX4_grid_5 rfl ?_
        refine v_iconstN 1 C dX4_grid_6 ?_
        refine v_icmp_ge C 17 dX4_grid_7 (by decide) (fun h7 => ?_) (fun h7 => ?_)
        · refine v_iload_n C dX4_grid_17 rfl ?_
          refine v_sipushN 256 (by decide +kernel) C dX4_grid_18 ?_
          refine v_icmp_gt C 39 dX4_grid_21 (by decide) (fun h21 => ?_) (fun h21 => ?_)
          · exact absurd h21 c2
          · refine v_iload_n C dX4_grid_24 rfl ?_
            refine v_bipushN 6 (by decide) C dX4_grid_25 ?_
            refine v_icmp_gt C 39 dX4_grid_27 (by decide) (fun h27 => ?_) (fun h27 => ?_)
            · exact absurd h27 d2
            · refine v_aload_n C dX4_grid_30 rfl ?_
              first | refine gv_4_6 C (by assumption) (by assumption) wt_100 dX4_grid_31 ?_ | refine g_4_6 C (by assumption) wt_100 dX4_grid_31 ?_
              refine v_bipushN 12 (by decide) C dX4_grid_34 ?_
              first | refine v_icmp_ltN C 46 dX4_grid_36 (by omega) (by omega) (by decide) (fun h36 => ?_) (fun h36 => ?_) | refine v_icmp_lt C 46 dX4_grid_36 (by decide) (fun h36 => ?_) (fun h36 => ?_)
              · refine v_aload_n C dX4_grid_46 rfl ?_
                refine n_2 C wt_19 (by decide) (by decide) dX4_grid_47 ?_
                refine v_dup C dX4_grid_50 rfl ?_
                refine v_iconstN 3 C dX4_grid_51 ?_
                refine v_iload_n C dX4_grid_52 rfl ?_
                refine v_iconst (v := -1) C dX4_grid_53 (by decide) ?_
                refine v_iload_n C dX4_grid_54 rfl ?_
                refine v_callI4 C (m_X2_init T B) lk_X4_58 rfl wt_133 dX4_grid_55 ⟨Nat.le_of_ble_eq_true rfl, Nat.le_of_ble_eq_true rfl⟩ (Nat.le_of_ble_eq_true rfl) ⟨Nat.le_of_ble_eq_true rfl, Nat.le_of_ble_eq_true rfl⟩ ?_
                refine c_X2_init rfl (su_at _ _ _ _) ha1 ha (fun S1 I1 R1 n1 n2 n3 n4 n5 n6 n7 n8 n9 n10 => ?_)
                have bS : ∀ b, b < z → S1 b = S b := fun b hb => (n2 b (by omega)).trans (su_ne _ (by omega))
                have bI : ∀ b k, b < z → I1 b k = I b k := fun b k hb => (n9 b k (by omega)).trans (congrFun (mz_ne _ _ (by omega)) k)
                have bR : ∀ b k, b < z → R1 b k = R b k := fun b k hb => (n10 b k (by omega)).trans (congrFun (mz_ne _ _ (by omega)) k)
                have bJ : ∀ b k, b < z → mz J z 0 b k = J b k := fun b k hb => congrFun (mz_ne _ _ (by omega)) k
                have bX : XS S1 R1 x := hX.up (fun b h1 h2 => bS b (by omega)) (fun b k h1 h2 _ => bR b k (by omega))
                have bn : I1 x 6 = nI st.1 := (bI x 6 (by omega)).trans hn
                have bx : S1 x = (5, 0) := bX.1
                refine v_callV1_1 C (m_X4_keep T B) lk_X4_61 ⟨wt_186, ws_2⟩ 4 rfl dX4_grid_58 ⟨Nat.le_of_ble_eq_true rfl, Nat.le_of_ble_eq_true rfl⟩ (Nat.le_of_ble_eq_true rfl) ⟨Nat.le_of_ble_eq_true rfl, Nat.le_of_ble_eq_true rfl⟩ bx (cTo_4 bx) ?_
                refine c_X4_keep bX bn nlt n1.1 ?_
                refine v_iret C Q dX4_grid_61 (Nat.le_of_ble_eq_true rfl) (Nat.le_of_ble_eq_true rfl) ?_
                have w := Cq_add (z' := z + 5) ⟨hX, hn, htl, hsc, hord, htr, hrf, hzz⟩ (by omega) bS bI bR bJ (ScR_new (k := 3) (d := b) (p := 0) n1 n3 n4 rfl n5 n6 n7 n8) hp
                exact w
              · exact absurd nlt (by omega)
        · exact absurd (Int32.not_le.mp h7) d1
def s_X4_lots : Sp := fun av z S I J R Post => ∃ (x : Nat), ∃ (st : St), ∃ (d p : Int32), ∃ (v : Int64), av = [.ref x, .int d, .int p, .long v] ∧ (Rc x st z S I R) ∧ (Ok st) ∧ (Cq x (o_lots st d p v).2 S I J R (fun z' S' I' J' R' => Post (o_lots st d p v).1 0 none z' S' I' J' R'))
theorem c_X4_lots {x : Nat} {st : St} {d p : Int32} {v : Int64} {z : Nat} {S : MS} {I : MI} {J : MJ} {R : MR} {Post : PT} (hR : Rc x st z S I R) (hO : Ok st) (hp : Cq x (o_lots st d p v).2 S I J R (fun z' S' I' J' R' => Post (o_lots st d p v).1 0 none z' S' I' J' R')) : s_X4_lots [.ref x, .int d, .int p, .long v] z S I J R Post := ⟨x, st, d, p, v, rfl, hR, hO, hp⟩
set_option maxRecDepth 100000 in
set_option maxHeartbeats 1000000 in
theorem m_X4_lots (T : TC) (B : Nat) : Mt T B yX4_lots cX4_lots 7 (some .int) 1 (rmL 3 5 1605) s_X4_lots := by
  refine Mt_of rfl (by rintro _ _ _ _ _ _ _ ⟨_, _, _, _, _, rfl, -⟩; exact Nat.le_of_ble_eq_true rfl) ?_
  intro X av z S I J R Post h C Q hI
  obtain ⟨x, st, d, p, v, rfl, hR, hO, hp⟩ := h
  have hR0 := hR
  obtain ⟨sa, hX, hn, htl, hsc, hord, htr, hrf, hzz⟩ := hR
  have hn12 := hO.1
  have hx := hX.1
  have hT := hX.2.2.2.2.2.2.2.2.1
  unfold o_lots at hp
  rcases szF_or d p st.1 with hz | hz | ⟨hz, a, b, rfl, rfl, g1, g2, g3, g4⟩
  · rw [mkO_4 hz] at hp
    refine v_aload_n C dX4_lots_0 rfl ?_
    refine v_iload_n C dX4_lots_1 rfl ?_
    refine v_iload_n C dX4_lots_2 rfl ?_
    refine v_callV2_1 C (m_X4_sizeFault T B) lk_X4_50 ⟨wt_125, ws_0⟩ 4 rfl dX4_lots_3 ⟨Nat.le_of_ble_eq_true rfl, Nat.le_of_ble_eq_true rfl⟩ (Nat.le_of_ble_eq_true rfl) ⟨Nat.le_of_ble_eq_true rfl, Nat.le_of_ble_eq_true rfl⟩ (by assumption) (cTo_4 (by assumption)) ?_
    refine c_X4_sizeFault hx hn hn12 ?_
    rw [hz]
    refine v_istore C dX4_lots_6 (by decide) ?_
    refine v_iload C dX4_lots_8 rfl ?_
    refine v_if_eq C 20 dX4_lots_10 (by decide) (fun h10 => ?_) (fun h10 => ?_)
    · exact absurd h10 (by decide)
    · refine v_aload_n C dX4_lots_13 rfl ?_
      refine v_iload C dX4_lots_14 rfl ?_
      refine v_callV1_1 C (m_X4_refuse T B) lk_X4_54 ⟨wt_129, ws_1⟩ 4 rfl dX4_lots_16 ⟨Nat.le_of_ble_eq_true rfl, Nat.le_of_ble_eq_true rfl⟩ (Nat.le_of_ble_eq_true rfl) ⟨Nat.le_of_ble_eq_true rfl, Nat.le_of_ble_eq_true rfl⟩ (by assumption) (cTo_4 (by assumption)) ?_
      refine c_X4_refuse (k := 4) hX (by decide) (by decide) ?_
      refine v_iret C Q dX4_lots_19 (Nat.le_of_ble_eq_true rfl) (Nat.le_of_ble_eq_true rfl) ?_
      have w := Cq_rf (k := 4) hR0 (by decide) hp
      exact w
  · rw [mkO_6 hz] at hp
    refine v_aload_n C dX4_lots_0 rfl ?_
    refine v_iload_n C dX4_lots_1 rfl ?_
    refine v_iload_n C dX4_lots_2 rfl ?_
    refine v_callV2_1 C (m_X4_sizeFault T B) lk_X4_50 ⟨wt_125, ws_0⟩ 4 rfl dX4_lots_3 ⟨Nat.le_of_ble_eq_true rfl, Nat.le_of_ble_eq_true rfl⟩ (Nat.le_of_ble_eq_true rfl) ⟨Nat.le_of_ble_eq_true rfl, Nat.le_of_ble_eq_true rfl⟩ (by assumption) (cTo_4 (by assumption)) ?_
    refine c_X4_sizeFault hx hn hn12 ?_
    rw [hz]
    refine v_istore C dX4_lots_6 (by decide) ?_
    refine v_iload C dX4_lots_8 rfl ?_
    refine v_if_eq C 20 dX4_lots_10 (by decide) (fun h10 => ?_) (fun h10 => ?_)
    · exact absurd h10 (by decide)
    · refine v_aload_n C dX4_lots_13 rfl ?_
      refine v_iload C dX4_lots_14 rfl ?_
      refine v_callV1_1 C (m_X4_refuse T B) lk_X4_54 ⟨wt_129, ws_1⟩ 4 rfl dX4_lots_16 ⟨Nat.le_of_ble_eq_true rfl, Nat.le_of_ble_eq_true rfl⟩ (Nat.le_of_ble_eq_true rfl) ⟨Nat.le_of_ble_eq_true rfl, Nat.le_of_ble_eq_true rfl⟩ (by assumption) (cTo_4 (by assumption)) ?_
      refine c_X4_refuse (k := 6) hX (by decide) (by decide) ?_
      refine v_iret C Q dX4_lots_19 (Nat.le_of_ble_eq_true rfl) (Nat.le_of_ble_eq_true rfl) ?_
      have w := Cq_rf (k := 6) hR0 (by decide) hp
      exact w
  · rw [mkO_0 hz, vN_nI (by omega), vN_nI (by omega)] at hp
    obtain ⟨w1, w2⟩ := two8 g3
    have hvv := lN_uL v
    have huv := uL_lt v
    generalize uL v = F at *
    subst hvv
    refine v_aload_n C dX4_lots_0 rfl ?_
    refine v_iload_n C dX4_lots_1 rfl ?_
    refine v_iload_n C dX4_lots_2 rfl ?_
    refine v_callV2_1 C (m_X4_sizeFault T B) lk_X4_50 ⟨wt_125, ws_0⟩ 4 rfl dX4_lots_3 ⟨Nat.le_of_ble_eq_true rfl, Nat.le_of_ble_eq_true rfl⟩ (Nat.le_of_ble_eq_true rfl) ⟨Nat.le_of_ble_eq_true rfl, Nat.le_of_ble_eq_true rfl⟩ (by assumption) (cTo_4 (by assumption)) ?_
    refine c_X4_sizeFault hx hn hn12 ?_
    rw [hz]
    refine v_istore C dX4_lots_6 (by decide) ?_
    refine v_iload C dX4_lots_8 rfl ?_
    first | refine v_if_eqN C 20 dX4_lots_10 (by omega) (by decide) (fun h10 => ?_) (fun h10 => ?_) | refine v_if_eq C 20 dX4_lots_10 (by decide) (fun h10 => ?_) (fun h10 => ?_)
    · refine n_2 C wt_19 (by decide) (by decide) dX4_lots_20 ?_
      refine v_dup C dX4_lots_23 rfl ?_
      refine v_iconstN 4 C dX4_lots_24 ?_
      refine v_iload_n C dX4_lots_25 rfl ?_
      refine v_iload_n C dX4_lots_26 rfl ?_
      refine v_iconstN 1 C dX4_lots_27 ?_
      refine v_iload_n C dX4_lots_28 rfl ?_
      first | refine v_ishlN C dX4_lots_29 (by omega) (by rw [Nat.one_mul]; omega) ?_ | refine v_ishl C dX4_lots_29 ?_
      rw [Nat.one_mul]
      refine v_callI4 C (m_X2_init T B) lk_X4_58 rfl wt_133 dX4_lots_30 ⟨Nat.le_of_ble_eq_true rfl, Nat.le_of_ble_eq_true rfl⟩ (Nat.le_of_ble_eq_true rfl) ⟨Nat.le_of_ble_eq_true rfl, Nat.le_of_ble_eq_true rfl⟩ ?_
      refine c_X2_init rfl (su_at _ _ _ _) w1 w2 (fun S1 I1 R1 n1 n2 n3 n4 n5 n6 n7 n8 n9 n10 => ?_)
      have bS : ∀ b, b < z → S1 b = S b := fun b hb => (n2 b (by omega)).trans (su_ne _ (by omega))
      have bI : ∀ b k, b < z → I1 b k = I b k := fun b k hb => (n9 b k (by omega)).trans (congrFun (mz_ne _ _ (by omega)) k)
      have bR : ∀ b k, b < z → R1 b k = R b k := fun b k hb => (n10 b k (by omega)).trans (congrFun (mz_ne _ _ (by omega)) k)
      have bJ : ∀ b k, b < z → mz J z 0 b k = J b k := fun b k hb => congrFun (mz_ne _ _ (by omega)) k
      have bX : XS S1 R1 x := hX.up (fun b h1 h2 => bS b (by omega)) (fun b k h1 h2 _ => bR b k (by omega))
      have bn : I1 x 6 = nI st.1 := (bI x 6 (by omega)).trans hn
      have bx : S1 x = (5, 0) := bX.1
      refine v_astore C dX4_lots_33 (by decide) ?_
      refine v_aload C dX4_lots_35 rfl ?_
      refine v_lload_n C dX4_lots_37 rfl ?_
      refine v_callV1_0 C (m_X2_fillFromSeed T B) lk_X4_124 ⟨wt_281, wt_282⟩ 2 rfl dX4_lots_38 ⟨Nat.le_of_ble_eq_true rfl, Nat.le_of_ble_eq_true rfl⟩ (Nat.le_of_ble_eq_true rfl) ⟨Nat.le_of_ble_eq_true rfl, Nat.le_of_ble_eq_true rfl⟩ n1.1 (cTo_2 n1.1) ?_
      refine c_X2_fillFromSeed n1 n4 n5 g3 n6 g2 huv (fun I2 hF2 hI2 => ?_)
      have bI2 : ∀ b k, b < z → I2 b k = I b k := fun b k hb => (hF2 b k (by omega)).trans (bI b k hb)
      have bn2 : I2 x 6 = nI st.1 := (bI2 x 6 (by omega)).trans hn
      have hq : ∀ b k, b < z + 4 → I2 b k = I1 b k := fun b k hb => hF2 b k (by omega)
      refine v_aload_n C dX4_lots_41 rfl ?_
      refine v_aload C dX4_lots_42 rfl ?_
      refine v_callV1_1 C (m_X4_keep T B) lk_X4_61 ⟨wt_186, ws_2⟩ 4 rfl dX4_lots_44 ⟨Nat.le_of_ble_eq_true rfl, Nat.le_of_ble_eq_true rfl⟩ (Nat.le_of_ble_eq_true rfl) ⟨Nat.le_of_ble_eq_true rfl, Nat.le_of_ble_eq_true rfl⟩ bx (cTo_4 bx) ?_
      refine c_X4_keep bX bn2 g4 n1.1 ?_
      refine v_iret C Q dX4_lots_47 (Nat.le_of_ble_eq_true rfl) (Nat.le_of_ble_eq_true rfl) ?_
      have w := Cq_add (z' := z + 5) ⟨hX, hn, htl, hsc, hord, htr, hrf, hzz⟩ (by omega) bS bI2 bR bJ (D := lotD F a b) ⟨n1, (hq _ _ (by omega)).trans n3, (hq _ _ (by omega)).trans n4, (hq _ _ (by omega)).trans n5, (hq _ _ (by omega)).trans n6, (hq _ _ (by omega)).trans n7, fun i _ => (hq _ _ (by omega)).trans (n8 _ _ (by omega) (by omega)), fun i _ => (hq _ _ (by omega)).trans (n8 _ _ (by omega) (by omega)), fun i _ => (hq _ _ (by omega)).trans (n8 _ _ (by omega) (by omega)), fun n j q1 q2 => ?_⟩ hp
      · exact w
      · have q1' : n < 2 ^ b := q1
        have q2' : j < a := q2
        have e : prt (lotD F a b) n j = lotV F b a n j := by
          show lotD F a b 9 (6 * n + j) = _
          unfold lotD
          rw [if_pos rfl, show (6 * n + j) % 6 = j by omega, show (6 * n + j) / 6 = n by omega, if_pos ⟨q2', q1'⟩]
        rw [e]
        exact hI2 n j q1' q2'
    · exact absurd rfl h10
def s_X4_ladder : Sp := fun av z S I J R Post => ∃ (x : Nat), ∃ (st : St), ∃ (p : Int32), av = [.ref x, .int p] ∧ (Rc x st z S I R) ∧ (Ok st) ∧ (Cq x (o_ladder st p).2 S I J R (fun z' S' I' J' R' => Post (o_ladder st p).1 0 none z' S' I' J' R'))
theorem c_X4_ladder {x : Nat} {st : St} {p : Int32} {z : Nat} {S : MS} {I : MI} {J : MJ} {R : MR} {Post : PT} (hR : Rc x st z S I R) (hO : Ok st) (hp : Cq x (o_ladder st p).2 S I J R (fun z' S' I' J' R' => Post (o_ladder st p).1 0 none z' S' I' J' R')) : s_X4_ladder [.ref x, .int p] z S I J R Post := ⟨x, st, p, rfl, hR, hO, hp⟩
set_option maxRecDepth 100000 in
set_option maxHeartbeats 1000000 in
theorem m_X4_ladder (T : TC) (B : Nat) : Mt T B yX4_ladder cX4_ladder 5 (some .int) 1 (rmL 4 5 1605) s_X4_ladder := by
  refine Mt_of rfl (by rintro _ _ _ _ _ _ _ ⟨_, _, _, rfl, -⟩; exact Nat.le_of_ble_eq_true rfl) ?_
  intro X av z S I J R Post h C Q hI
  obtain ⟨x, st, p, rfl, hR, hO, hp⟩ := h
  have hR0 := hR
  obtain ⟨sa, hX, hn, htl, hsc, hord, htr, hrf, hzz⟩ := hR
  have hn12 := hO.1
  have hx := hX.1
  have hT := hX.2.2.2.2.2.2.2.2.1
  unfold o_ladder at hp
  rcases szF_or (nI 1) p st.1 with hz | hz | ⟨hz, a, b, ea, rfl, g1, g2, g3, g4⟩
  · rw [mkO_4 hz] at hp
    refine v_aload_n C dX4_ladder_0 rfl ?_
    refine v_iconstN 1 C dX4_ladder_1 ?_
    refine v_iload_n C dX4_ladder_2 rfl ?_
    refine v_callV2_1 C (m_X4_sizeFault T B) lk_X4_50 ⟨wt_125, ws_0⟩ 4 rfl dX4_ladder_3 ⟨Nat.le_of_ble_eq_true rfl, Nat.le_of_ble_eq_true rfl⟩ (Nat.le_of_ble_eq_true rfl) ⟨Nat.le_of_ble_eq_true rfl, Nat.le_of_ble_eq_true rfl⟩ (by assumption) (cTo_4 (by assumption)) ?_
    refine c_X4_sizeFault hx hn hn12 ?_
    rw [hz]
    refine v_istore_n C dX4_ladder_6 (by decide) ?_
    refine v_iload_n C dX4_ladder_7 rfl ?_
    refine v_if_eq C 17 dX4_ladder_8 (by decide) (fun h8 => ?_) (fun h8 => ?_)
    · exact absurd h8 (by decide)
    · refine v_aload_n C dX4_ladder_11 rfl ?_
      refine v_iload_n C dX4_ladder_12 rfl ?_
      refine v_callV1_1 C (m_X4_refuse T B) lk_X4_54 ⟨wt_129, ws_1⟩ 4 rfl dX4_ladder_13 ⟨Nat.le_of_ble_eq_true rfl, Nat.le_of_ble_eq_true rfl⟩ (Nat.le_of_ble_eq_true rfl) ⟨Nat.le_of_ble_eq_true rfl, Nat.le_of_ble_eq_true rfl⟩ (by assumption) (cTo_4 (by assumption)) ?_
      refine c_X4_refuse (k := 4) hX (by decide) (by decide) ?_
      refine v_iret C Q dX4_ladder_16 (Nat.le_of_ble_eq_true rfl) (Nat.le_of_ble_eq_true rfl) ?_
      have w := Cq_rf (k := 4) hR0 (by decide) hp
      exact w
  · rw [mkO_6 hz] at hp
    refine v_aload_n C dX4_ladder_0 rfl ?_
    refine v_iconstN 1 C dX4_ladder_1 ?_
    refine v_iload_n C dX4_ladder_2 rfl ?_
    refine v_callV2_1 C (m_X4_sizeFault T B) lk_X4_50 ⟨wt_125, ws_0⟩ 4 rfl dX4_ladder_3 ⟨Nat.le_of_ble_eq_true rfl, Nat.le_of_ble_eq_true rfl⟩ (Nat.le_of_ble_eq_true rfl) ⟨Nat.le_of_ble_eq_true rfl, Nat.le_of_ble_eq_true rfl⟩ (by assumption) (cTo_4 (by assumption)) ?_
    refine c_X4_sizeFault hx hn hn12 ?_
    rw [hz]
    refine v_istore_n C dX4_ladder_6 (by decide) ?_
    refine v_iload_n C dX4_ladder_7 rfl ?_
    refine v_if_eq C 17 dX4_ladder_8 (by decide) (fun h8 => ?_) (fun h8 => ?_)
    · exact absurd h8 (by decide)
    · refine v_aload_n C dX4_ladder_11 rfl ?_
      refine v_iload_n C dX4_ladder_12 rfl ?_
      refine v_callV1_1 C (m_X4_refuse T B) lk_X4_54 ⟨wt_129, ws_1⟩ 4 rfl dX4_ladder_13 ⟨Nat.le_of_ble_eq_true rfl, Nat.le_of_ble_eq_true rfl⟩ (Nat.le_of_ble_eq_true rfl) ⟨Nat.le_of_ble_eq_true rfl, Nat.le_of_ble_eq_true rfl⟩ (by assumption) (cTo_4 (by assumption)) ?_
      refine c_X4_refuse (k := 6) hX (by decide) (by decide) ?_
      refine v_iret C Q dX4_ladder_16 (Nat.le_of_ble_eq_true rfl) (Nat.le_of_ble_eq_true rfl) ?_
      have w := Cq_rf (k := 6) hR0 (by decide) hp
      exact w
  · rw [mkO_0 hz, vN_nI (by omega)] at hp
    obtain ⟨w1, w2⟩ := two8 g3
    have p2 : ∀ i, i < b → 2 ^ i < 256 := fun i hi => Nat.lt_of_lt_of_le (Nat.pow_lt_pow_right (by decide) hi) w2
    have rest : ∀ (S1 : MS) (I1 : MI) (R1 : MR) (J1 : MJ), ScS S1 R1 z (2 ^ b) → (∀ b, b < z → S1 b = S b) → (∀ b k, b < z → I1 b k = I b k) → (∀ b k, b < z → R1 b k = R b k) → (∀ b k, b < z → J1 b k = J b k) → I1 z 0 = nI 1 → I1 z 1 = nI b → I1 z 2 = nI (2 ^ b) → I1 z 3 = nI 1 → I1 z 4 = nI 0 → (∀ b i, z + 1 < b → b ≤ z + 4 → I1 b i = 0) → (∀ i, i < 48 → I1 (z + 1) i = nI (if i < b then 2 ^ i else 0)) → V X (0 + 1 + 4) (0 + 9 + 1596) (z + 5) S1 I1 J1 R1 57 [some (.ref x), none, none, some (.ref z), none] [] := by
      intro S1 I1 R1 J1 n1 bS bI bR bJ n3 n4 n5 n6 n7 n8 n9
      have bX : XS S1 R1 x := hX.up (fun b h1 h2 => bS b (by omega)) (fun b k h1 h2 _ => bR b k (by omega))
      have bx := bX.1
      have ns := n1.1
      refine v_aload_n C dX4_ladder_57 rfl ?_
      refine v_iconstN 0 C dX4_ladder_58 ?_
      refine v_callV1_0 C (m_X2_fillFromRows T B) lk_X4_89 ⟨wt_209, wt_210⟩ 2 rfl dX4_ladder_59 ⟨Nat.le_of_ble_eq_true rfl, Nat.le_of_ble_eq_true rfl⟩ (Nat.le_of_ble_eq_true rfl) ⟨Nat.le_of_ble_eq_true rfl, Nat.le_of_ble_eq_true rfl⟩ (by assumption) (cTo_2 (by assumption)) ?_
      refine c_X2_fillFromRows (mk := 0) (ro := fun i => if i < b then 2 ^ i else 0) n1 n4 n5 g3 rfl (by decide) (n8 _ _ (by omega) (by omega)) (fun i hi => ⟨?_, ?_⟩) (fun I2 hF2 hI2 => ?_)
      · rw [Nat.zero_mul, Nat.zero_add]; exact n9 i (by omega)
      · rw [if_pos hi]; exact p2 i hi
      refine v_aload_n C dX4_ladder_62 rfl ?_
      refine v_aload_n C dX4_ladder_63 rfl ?_
      refine v_callV1_1 C (m_X4_keep T B) lk_X4_61 ⟨wt_186, ws_2⟩ 4 rfl dX4_ladder_64 ⟨Nat.le_of_ble_eq_true rfl, Nat.le_of_ble_eq_true rfl⟩ (Nat.le_of_ble_eq_true rfl) ⟨Nat.le_of_ble_eq_true rfl, Nat.le_of_ble_eq_true rfl⟩ (by assumption) (cTo_4 (by assumption)) ?_
      refine c_X4_keep bX ((hF2 x 6 (by omega)).trans ((bI x 6 (by omega)).trans hn)) g4 n1.1 ?_
      refine v_iret C Q dX4_ladder_67 (Nat.le_of_ble_eq_true rfl) (Nat.le_of_ble_eq_true rfl) ?_
      have hq : ∀ b k, b < z + 4 → I2 b k = I1 b k := fun b k hb => hF2 b k (by omega)
      have w := Cq_add (z' := z + 5) ⟨hX, hn, htl, hsc, hord, htr, hrf, hzz⟩ (by omega) bS (fun b k hb => (hq b k (by omega)).trans (bI b k hb)) bR bJ (D := ladD b) ⟨n1, (hq _ _ (by omega)).trans n3, (hq _ _ (by omega)).trans n4, (hq _ _ (by omega)).trans n5, (hq _ _ (by omega)).trans n6, (hq _ _ (by omega)).trans n7, fun i hi => (hq _ _ (by omega)).trans (n9 i hi), fun i _ => (hq _ _ (by omega)).trans (n8 _ _ (by omega) (by omega)), fun i _ => (hq _ _ (by omega)).trans (n8 _ _ (by omega) (by omega)), fun n j q1 q2 => ?_⟩ hp
      · exact w
      · have q1' : n < 2 ^ b := q1
        have q2' : j < 1 := q2
        obtain rfl : j = 0 := by omega
        have e : prt (ladD b) n 0 = pm (fun i => if i < b then 2 ^ i else 0) b n ^^^ 0 := by
          show pm (fun i => ladD b 6 (0 * 8 + i)) b n ^^^ 0 = _
          congr 1
          exact pm_congr n b (fun i hi => by rw [Nat.zero_mul, Nat.zero_add]; rfl)
        have hh := hI2 n q1'
        show I2 (z + 4) (0 * 2 ^ b + n) = nI (prt (ladD b) n 0)
        rw [e]
        exact hh
    have loop : ∀ i : Nat, i ≤ b → ∀ (S1 : MS) (I1 : MI) (R1 : MR) (J1 : MJ), ScS S1 R1 z (2 ^ b) → (∀ b, b < z → S1 b = S b) → (∀ b k, b < z → I1 b k = I b k) → (∀ b k, b < z → R1 b k = R b k) → (∀ b k, b < z → J1 b k = J b k) → I1 z 0 = nI 1 → I1 z 1 = nI b → I1 z 2 = nI (2 ^ b) → I1 z 3 = nI 1 → I1 z 4 = nI 0 → (∀ b i, z + 1 < b → b ≤ z + 4 → I1 b i = 0) → (∀ t, t < 48 → I1 (z + 1) t = nI (if t < i then 2 ^ t else 0)) → V X (0 + 1 + 4) (0 + 9 + 1596) (z + 5) S1 I1 J1 R1 34 [some (.ref x), some (.int (nI b)), none, some (.ref z), some (.int (nI i))] [] := by
      refine lp_up b ?_
      intro i hi ih S1 I1 R1 J1 n1 bS bI bR bJ n3 n4 n5 n6 n7 n8 n9
      have ns := n1.1
      refine v_iload C dX4_ladder_34 rfl ?_
      refine v_iload_n C dX4_ladder_36 rfl ?_
      first | refine v_icmp_geN C 57 dX4_ladder_37 (by omega) (by omega) (by decide) (fun h37 => ?_) (fun h37 => ?_) | refine v_icmp_ge C 57 dX4_ladder_37 (by decide) (fun h37 => ?_) (fun h37 => ?_)
      · obtain rfl : i = b := by omega
        exact v_less (rest S1 I1 R1 J1 n1 bS bI bR bJ n3 n4 n5 n6 n7 n8 n9) (by repeat (first | exact trivial | refine And.intro rfl ?_))
      · refine v_aload_n C dX4_ladder_40 rfl ?_
        refine v_iconstN 0 C dX4_ladder_41 ?_
        refine v_iload C dX4_ladder_42 rfl ?_
        refine v_iconstN 1 C dX4_ladder_44 ?_
        refine v_iload C dX4_ladder_45 rfl ?_
        first | refine v_ishlN C dX4_ladder_47 (by omega) (by rw [Nat.one_mul]; have := p2 i h37; omega) ?_ | refine v_ishl C dX4_ladder_47 ?_
        rw [Nat.one_mul]
        refine v_callV3_0 C (m_X2_setRow T B) lk_X4_85 ⟨wt_205, wt_206⟩ 2 rfl dX4_ladder_48 ⟨Nat.le_of_ble_eq_true rfl, Nat.le_of_ble_eq_true rfl⟩ (Nat.le_of_ble_eq_true rfl) ⟨Nat.le_of_ble_eq_true rfl, Nat.le_of_ble_eq_true rfl⟩ (by assumption) (cTo_2 (by assumption)) ?_
        refine c_X2_setRow n1 (by decide) (by omega) ?_
        first | refine v_iincN 1 C dX4_ladder_51 rfl (by decide) ?_ | refine v_iinc C dX4_ladder_51 rfl rfl (by decide) ?_
        refine v_goto C 34 dX4_ladder_54 (by decide) ?_
        have o : ∀ q k, q ≠ z + 1 → mu I1 (z + 1) (0 * 8 + i) (nI (2 ^ i)) q k = I1 q k := fun q k hq => congrFun (mu_ne _ _ hq) k
        refine v_less (ih h37 S1 _ R1 J1 n1 bS (fun b k hb => (o _ _ (by omega)).trans (bI b k hb)) bR bJ ((o _ _ (by omega)).trans n3) ((o _ _ (by omega)).trans n4) ((o _ _ (by omega)).trans n5) ((o _ _ (by omega)).trans n6) ((o _ _ (by omega)).trans n7) (fun b t e1 e2 => (o _ _ (by omega)).trans (n8 b t e1 e2)) (fun t ht => ?_)) (by repeat (first | exact trivial | refine And.intro rfl ?_))
        by_cases e : t = i
        · subst e; rw [show 0 * 8 + t = t by omega, mu_at, if_pos (by omega)]
        · rw [mu_other _ _ (by omega), n9 t ht]
          by_cases e2 : t < i
          · rw [if_pos e2, if_pos (by omega)]
          · rw [if_neg e2, if_neg (by omega)]
    refine v_aload_n C dX4_ladder_0 rfl ?_
    refine v_iconstN 1 C dX4_ladder_1 ?_
    refine v_iload_n C dX4_ladder_2 rfl ?_
    refine v_callV2_1 C (m_X4_sizeFault T B) lk_X4_50 ⟨wt_125, ws_0⟩ 4 rfl dX4_ladder_3 ⟨Nat.le_of_ble_eq_true rfl, Nat.le_of_ble_eq_true rfl⟩ (Nat.le_of_ble_eq_true rfl) ⟨Nat.le_of_ble_eq_true rfl, Nat.le_of_ble_eq_true rfl⟩ (by assumption) (cTo_4 (by assumption)) ?_
    refine c_X4_sizeFault hx hn hn12 ?_
    rw [hz]
    refine v_istore_n C dX4_ladder_6 (by decide) ?_
    refine v_iload_n C dX4_ladder_7 rfl ?_
    first | refine v_if_eqN C 17 dX4_ladder_8 (by omega) (by decide) (fun h8 => ?_) (fun h8 => ?_) | refine v_if_eq C 17 dX4_ladder_8 (by decide) (fun h8 => ?_) (fun h8 => ?_)
    · refine n_2 C wt_19 (by decide) (by decide) dX4_ladder_17 ?_
      refine v_dup C dX4_ladder_20 rfl ?_
      refine v_iconstN 1 C dX4_ladder_21 ?_
      refine v_iconstN 1 C dX4_ladder_22 ?_
      refine v_iload_n C dX4_ladder_23 rfl ?_
      refine v_iconstN 1 C dX4_ladder_24 ?_
      refine v_iload_n C dX4_ladder_25 rfl ?_
      first | refine v_ishlN C dX4_ladder_26 (by omega) (by rw [Nat.one_mul]; omega) ?_ | refine v_ishl C dX4_ladder_26 ?_
      rw [Nat.one_mul]
      refine v_callI4 C (m_X2_init T B) lk_X4_58 rfl wt_133 dX4_ladder_27 ⟨Nat.le_of_ble_eq_true rfl, Nat.le_of_ble_eq_true rfl⟩ (Nat.le_of_ble_eq_true rfl) ⟨Nat.le_of_ble_eq_true rfl, Nat.le_of_ble_eq_true rfl⟩ ?_
      refine c_X2_init rfl (su_at _ _ _ _) w1 w2 (fun S1 I1 R1 n1 n2 n3 n4 n5 n6 n7 n8 n9 n10 => ?_)
      have bS : ∀ b, b < z → S1 b = S b := fun b hb => (n2 b (by omega)).trans (su_ne _ (by omega))
      have bI : ∀ b k, b < z → I1 b k = I b k := fun b k hb => (n9 b k (by omega)).trans (congrFun (mz_ne _ _ (by omega)) k)
      have bR : ∀ b k, b < z → R1 b k = R b k := fun b k hb => (n10 b k (by omega)).trans (congrFun (mz_ne _ _ (by omega)) k)
      have bJ : ∀ b k, b < z → mz J z 0 b k = J b k := fun b k hb => congrFun (mz_ne _ _ (by omega)) k
      have bX : XS S1 R1 x := hX.up (fun b h1 h2 => bS b (by omega)) (fun b k h1 h2 _ => bR b k (by omega))
      have bn : I1 x 6 = nI st.1 := (bI x 6 (by omega)).trans hn
      have bx : S1 x = (5, 0) := bX.1
      refine v_astore_n C dX4_ladder_30 (by decide) ?_
      refine v_iconstN 0 C dX4_ladder_31 ?_
      refine v_istore C dX4_ladder_32 (by decide) ?_
      exact v_less (loop 0 (Nat.zero_le _) S1 I1 R1 _ n1 bS bI bR bJ n3 n4 n5 n6 n7 (fun b i e1 e2 => n8 b i (by omega) e2) (fun t _ => by rw [if_neg (by omega)]; exact n8 _ _ (by omega) (by omega))) (by repeat (first | exact trivial | refine And.intro rfl ?_))
    · exact absurd rfl h8
