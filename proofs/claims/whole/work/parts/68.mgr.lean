theorem gA : ∀ d, d < 7 → kN 63 d 6 = d ∧ ∀ i, i < d → frN 63 d 6 i = i := by decide +kernel
def gBt (d j l : Nat) : Bool := decide (j = l) || (decide (kN (2 ^ j ||| 2 ^ l) d 6 = 2) && (decide (frN (2 ^ j ||| 2 ^ l) d 6 0 = min j l) && (decide (frN (2 ^ j ||| 2 ^ l) d 6 1 = max j l) && (decide ((2 ^ j ||| 2 ^ l) < 64) && (decide (2 ^ j < 64) && decide (2 ^ l < 64))))))
theorem gBd : ∀ d, d < 7 → ∀ j, j < d → ∀ l, l < d → gBt d j l = true := by decide +kernel
theorem gB (d : Nat) (hd : d < 7) (j : Nat) (hj : j < d) (l : Nat) (hl : l < d) (hne : j ≠ l) : kN (2 ^ j ||| 2 ^ l) d 6 = 2 ∧ frN (2 ^ j ||| 2 ^ l) d 6 0 = min j l ∧ frN (2 ^ j ||| 2 ^ l) d 6 1 = max j l ∧ (2 ^ j ||| 2 ^ l) < 64 ∧ 2 ^ j < 64 ∧ 2 ^ l < 64 := by
  have h := gBd d hd j hj l hl
  unfold gBt at h
  rw [decide_eq_false hne, Bool.false_or, Bool.and_eq_true, Bool.and_eq_true, Bool.and_eq_true, Bool.and_eq_true, Bool.and_eq_true] at h
  obtain ⟨h1, h2, h3, h4, h5, h6⟩ := h
  exact ⟨of_decide_eq_true h1, of_decide_eq_true h2, of_decide_eq_true h3, of_decide_eq_true h4, of_decide_eq_true h5, of_decide_eq_true h6⟩
theorem Sj_cho {ro : Nat → Nat → Nat} {p ch : Nat} {cho cho' a : Nat → Nat} (h : ∀ q, q < ch → cho q = cho' q) (hS : Sj ro p cho ch a) : Sj ro p cho' ch a := fun t => by
  obtain ⟨u, u1, u2⟩ := hS t
  exact ⟨u, u1, fun q hq l hl => by rw [← h q hq]; exact u2 q hq l hl⟩
theorem Sj_sw {ro : Nat → Nat → Nat} {p : Nat} {cho fr a : Nat → Nat} (h0 : cho 0 = fr 1) (h1 : cho 1 = fr 0) (hS : Sj ro p cho 2 a) : Sj ro p fr 2 (fun q => a (1 - q)) := fun t => by
  obtain ⟨u, u1, u2⟩ := hS (fun q l => t (1 - q) l)
  refine ⟨u, u1, fun q hq l hl => ?_⟩
  rcases (show q = 0 ∨ q = 1 by omega) with e | e
  · subst e
    rw [← h1]; exact u2 1 (by omega) l hl
  · subst e
    rw [← h0]; exact u2 0 (by omega) l hl
theorem sum_sw (a : Nat → Nat) : sumN (fun q => a (1 - q)) 2 = sumN a 2 := by
  show 0 + a 1 + a 0 = 0 + a 0 + a 1
  omega
theorem rowW_lt {D : SD} (hO : OkD D) (hk : D 1 0 < 3) (j i : Nat) : rowW D j i < 2 ^ D 3 0 := by
  rw [← hO.2.2.2.2.2.2.1 (by omega)]
  exact hO.2.2.2.2.2.2.2.2.1 _
theorem gd_all {D : SD} (hO : OkD D) (hk : D 1 0 < 3) : (∀ t', t' < gr (rowW D) (D 3 0) (fun q => q) (D 2 0) → ∃ e, sumN e (D 2 0) = D 3 0 - t' ∧ ¬ Ev D (frN 63 (D 2 0) 6) (D 2 0) e) ∧ (∀ e, sumN e (D 2 0) = D 3 0 - gr (rowW D) (D 3 0) (fun q => q) (D 2 0) → Ev D (frN 63 (D 2 0) 6) (D 2 0) e) := by
  obtain ⟨o1, o2, o3, o4, -⟩ := id hO
  have hfr := (gA (D 2 0) (by omega)).2
  have inj : ∀ a b, a < D 2 0 → b < D 2 0 → frN 63 (D 2 0) 6 a = frN 63 (D 2 0) 6 b → a = b := fun a b ha hb e => by rw [hfr a ha, hfr b hb] at e; exact e
  have hf : ∀ i, i < D 2 0 → frN 63 (D 2 0) 6 i < D 2 0 := fun i hi => by rw [hfr i hi]; exact hi
  refine ⟨fun t' ht => ?_, fun e he => ?_⟩
  · obtain ⟨e, he, hn⟩ := gr_lo o4 (rowW_lt hO hk) o2 ht
    exact ⟨e, he, fun hE => hn (Sj_cho (fun q hq => hfr q hq) ((Ev_iff hO hk inj hf (by omega)).mp hE))⟩
  · exact (Ev_iff hO hk inj hf (by omega)).mpr (Sj_cho (fun q hq => (hfr q hq).symm) (gr_hi o4 (rowW_lt hO hk) he))
theorem gd_two {D : SD} {fr : Nat → Nat} {j l : Nat} (hO : OkD D) (hk : D 1 0 < 3) (hj : j < D 2 0) (hl : l < D 2 0) (hne : j ≠ l) (f0 : fr 0 = min j l) (f1 : fr 1 = max j l) : (∀ a b, a < 2 → b < 2 → fr a = fr b → a = b) ∧ (∀ i, i < 2 → fr i < D 2 0) ∧ (∀ t', t' < gr (rowW D) (D 3 0) (fun q => if q = 0 then j else l) 2 → ∃ e, sumN e 2 = D 3 0 - t' ∧ ¬ Ev D fr 2 e) ∧ (∀ e, sumN e 2 = D 3 0 - gr (rowW D) (D 3 0) (fun q => if q = 0 then j else l) 2 → Ev D fr 2 e) := by
  obtain ⟨o1, o2, o3, o4, -⟩ := id hO
  have inj : ∀ a b, a < 2 → b < 2 → fr a = fr b → a = b := fun a b ha hb e => by
    rcases (show a = 0 ∨ a = 1 by omega) with e1 | e1 <;> rcases (show b = 0 ∨ b = 1 by omega) with e2 | e2 <;> rw [e1, e2] at e ⊢ <;> rw [f0, f1] at e <;> omega
  have hf : ∀ i, i < 2 → fr i < D 2 0 := fun i hi => by
    rcases (show i = 0 ∨ i = 1 by omega) with e | e
    · rw [e, f0]; omega
    · rw [e, f1]; omega
  refine ⟨inj, hf, ?_⟩
  by_cases c : j < l
  · have hfr : ∀ q, q < 2 → (fun q => if q = 0 then j else l) q = fr q := fun q hq => by
      rcases (show q = 0 ∨ q = 1 by omega) with e | e
      · subst e; rw [f0]; show j = _; omega
      · subst e; rw [f1]; show l = _; omega
    refine ⟨fun t' ht => ?_, fun e he => ?_⟩
    · obtain ⟨e, he, hn⟩ := gr_lo o4 (rowW_lt hO hk) (by omega) ht
      exact ⟨e, he, fun hE => hn (Sj_cho (fun q hq => (hfr q hq).symm) ((Ev_iff hO hk inj hf (by omega)).mp hE))⟩
    · exact (Ev_iff hO hk inj hf (by omega)).mpr (Sj_cho hfr (gr_hi o4 (rowW_lt hO hk) he))
  · have g0 : (fun q => if q = 0 then j else l) 0 = fr 1 := by rw [f1]; show j = _; omega
    have g1 : (fun q => if q = 0 then j else l) 1 = fr 0 := by rw [f0]; show l = _; omega
    refine ⟨fun t' ht => ?_, fun e he => ?_⟩
    · obtain ⟨e, he, hn⟩ := gr_lo o4 (rowW_lt hO hk) (by omega) ht
      refine ⟨fun q => e (1 - q), by rw [sum_sw]; exact he, fun hE => hn ?_⟩
      have h1 := Sj_sw (fr := fun q => if q = 0 then j else l) g1.symm g0.symm ((Ev_iff hO hk inj hf (by rw [sum_sw]; omega)).mp hE)
      exact Sj_mono (fun q hq => by
        rcases (show q = 0 ∨ q = 1 by omega) with e | e <;> subst e <;> exact Nat.le_refl _) h1
    · refine (Ev_iff hO hk inj hf (by omega)).mpr ?_
      have h1 := Sj_sw (fr := fr) g0 g1 (gr_hi (e := fun q => e (1 - q)) o4 (rowW_lt hO hk) (by rw [sum_sw]; exact he))
      exact Sj_mono (fun q hq => by
        rcases (show q = 0 ∨ q = 1 by omega) with e | e <;> subst e <;> exact Nat.le_refl _) h1
def s_X5_grade : Sp := fun av z S I J R Post => ∃ (M : Nat), ∃ (st : St), ∃ (s : Int32), av = [.ref M, .int s] ∧ (MoS S R M) ∧ (Rm M st I) ∧ (Ok st) ∧ (Mq M (o_grade st s).2 I J (fun I' J' => Post (o_grade st s).1 0 none z S I' J' R))
theorem c_X5_grade {M : Nat} {st : St} {s : Int32} {z : Nat} {S : MS} {I : MI} {J : MJ} {R : MR} {Post : PT} (hM : MoS S R M) (hR : Rm M st I) (hO : Ok st) (hp : Mq M (o_grade st s).2 I J (fun I' J' => Post (o_grade st s).1 0 none z S I' J' R)) : s_X5_grade [.ref M, .int s] z S I J R Post := ⟨M, st, s, rfl, hM, hR, hO, hp⟩
set_option maxRecDepth 100000 in
set_option maxHeartbeats 1000000 in
theorem m_X5_grade (T : TC) (B : Nat) : Mt T B yX5_grade cX5_grade 2 (some .int) 1 (rmL 6 0 0) s_X5_grade := by
  refine Mt_of rfl (by rintro _ _ _ _ _ _ _ ⟨_, _, _, rfl, -⟩; exact Nat.le_of_ble_eq_true rfl) ?_
  intro X av z S I J R Post h C Q hI
  obtain ⟨M, st, s, rfl, hM, hR, hO, hp⟩ := h
  have hn12 := hO.1
  obtain ⟨hn, htl, hms, htr, hrf⟩ := id hR
  obtain ⟨hS0, hr1, hr2, hr3, hr4, hr5, hr6, hr7, hr8, hr9, hr10, hr11, hr12, hr14, hr15, hr16, hr17, hr18, hr19, hr20, hs1, hs2, hs3, hs4, hs5, hs6, hs7, hs8, hs9, hs10, hs11, hs12, hs13, hs14, hs15, hs16, hs17, hs18, hs19⟩ := id hM
  unfold o_grade at hp
  rcases Oo_or s st.1 (by omega) with ho | ⟨k, hk, rfl⟩
  · rw [onS_o ho] at hp
    refine v_aload_n C dX5_grade_0 rfl ?_
    refine v_iload_n C dX5_grade_1 rfl ?_
    refine v_callV1_1 C (m_X5_isScatter T B) lk_X5_80 ⟨wt_624, ws_22⟩ 5 rfl dX5_grade_2 ⟨Nat.le_of_ble_eq_true rfl, Nat.le_of_ble_eq_true rfl⟩ (Nat.le_of_ble_eq_true rfl) ⟨Nat.le_of_ble_eq_true rfl, Nat.le_of_ble_eq_true rfl⟩ (by assumption) (cTo_5 (by assumption)) ?_
    refine c_isS_o hM hn hn12 ho ?_
    first | refine v_if_neN C 14 dX5_grade_5 (by omega) (by decide) (fun h5 => ?_) (fun h5 => ?_) | refine v_if_ne C 14 dX5_grade_5 (by decide) (fun h5 => ?_) (fun h5 => ?_)
    · exact absurd h5 (by decide)
    · refine v_aload_n C dX5_grade_8 rfl ?_
      refine v_iconst (v := -1) C dX5_grade_9 (by decide) ?_
      refine v_callV1_1 C (m_X5_refuse T B) lk_X5_88 ⟨wt_608, ws_19⟩ 5 rfl dX5_grade_10 ⟨Nat.le_of_ble_eq_true rfl, Nat.le_of_ble_eq_true rfl⟩ (Nat.le_of_ble_eq_true rfl) ⟨Nat.le_of_ble_eq_true rfl, Nat.le_of_ble_eq_true rfl⟩ (by assumption) (cTo_5 (by assumption)) ?_
      refine c_X5_refuse (k := 1) hM (by decide) (by decide) ?_
      refine v_iret C Q dX5_grade_13 (Nat.le_of_ble_eq_true rfl) (Nat.le_of_ble_eq_true rfl) ?_
      have w := Mq_rf (k := 1) hR (by decide) hp
      exact w
  · have hMs := hms k (by omega)
    have hMs0 := hMs
    obtain ⟨hk1, hk2, hk3, hk4, hk5, hk6, hk7, hk8, hk9⟩ := hMs
    have hOk := hO.2.1 k hk
    obtain ⟨o1, o2, o3, o4, o5, o6, o7, o8, o9, o10, o11, o12⟩ := id hOk
    rw [onS_k hk (by omega)] at hp
    by_cases hkd : st.2.1 k 1 0 < 3
    · rw [if_pos hkd] at hp
      have hfr := (gA (st.2.1 k 2 0) (by omega)).2
      obtain ⟨q1, q2⟩ := gd_all hOk hkd
      refine v_aload_n C dX5_grade_0 rfl ?_
      refine v_iload_n C dX5_grade_1 rfl ?_
      refine v_callV1_1 C (m_X5_isScatter T B) lk_X5_80 ⟨wt_624, ws_22⟩ 5 rfl dX5_grade_2 ⟨Nat.le_of_ble_eq_true rfl, Nat.le_of_ble_eq_true rfl⟩ (Nat.le_of_ble_eq_true rfl) ⟨Nat.le_of_ble_eq_true rfl, Nat.le_of_ble_eq_true rfl⟩ (by assumption) (cTo_5 (by assumption)) ?_
      refine c_isS_k hM hn hn12 hk ?_
      first | refine v_if_neN C 14 dX5_grade_5 (by omega) (by decide) (fun h5 => ?_) (fun h5 => ?_) | refine v_if_ne C 14 dX5_grade_5 (by decide) (fun h5 => ?_) (fun h5 => ?_)
      · refine v_aload_n C dX5_grade_14 rfl ?_
        refine g_5_1 C (by assumption) (by assumption) wt_534 dX5_grade_15 ?_
        refine v_iload_n C dX5_grade_18 rfl ?_
        first | refine v_ialdN C (by assumption) (by omega) (by omega) dX5_grade_19 ?_ | refine v_iald C (by assumption) (by assumption) dX5_grade_19 ?_
        rw [hk1]
        refine v_iconstN 3 C dX5_grade_20 ?_
        first | refine v_icmp_eqN C 34 dX5_grade_21 (by omega) (by omega) (by decide) (fun h21 => ?_) (fun h21 => ?_) | refine v_icmp_eq C 34 dX5_grade_21 (by decide) (fun h21 => ?_) (fun h21 => ?_)
        · exact absurd h21 (by omega)
        · refine v_aload_n C dX5_grade_24 rfl ?_
          refine g_5_1 C (by assumption) (by assumption) wt_534 dX5_grade_25 ?_
          refine v_iload_n C dX5_grade_28 rfl ?_
          first | refine v_ialdN C (by assumption) (by omega) (by omega) dX5_grade_29 ?_ | refine v_iald C (by assumption) (by assumption) dX5_grade_29 ?_
          rw [hk1]
          refine v_iconstN 4 C dX5_grade_30 ?_
          first | refine v_icmp_neN C 43 dX5_grade_31 (by omega) (by omega) (by decide) (fun h31 => ?_) (fun h31 => ?_) | refine v_icmp_ne C 43 dX5_grade_31 (by decide) (fun h31 => ?_) (fun h31 => ?_)
          · refine v_aload_n C dX5_grade_43 rfl ?_
            refine v_iload_n C dX5_grade_44 rfl ?_
            refine v_bipushN 63 (by decide) C dX5_grade_45 ?_
            refine v_callV2_1 C (m_X5_gradeOf T B) lk_X5_129 ⟨wt_723, ws_26⟩ 5 rfl dX5_grade_47 ⟨Nat.le_of_ble_eq_true rfl, Nat.le_of_ble_eq_true rfl⟩ (Nat.le_of_ble_eq_true rfl) ⟨Nat.le_of_ble_eq_true rfl, Nat.le_of_ble_eq_true rfl⟩ (by assumption) (cTo_5 (by assumption)) ?_
            refine c_X5_gradeOf (K := st.2.1 k 2 0) (fr := frN 63 (st.2.1 k 2 0) 6) (t := gr (rowW (st.2.1 k)) (st.2.1 k 3 0) (fun q => q) (st.2.1 k 2 0)) hM hMs0 (by omega) hOk hkd (by decide) (gA _ (by omega)).1 rfl o2 (fun i hi => by rw [hfr i hi]; exact hi) (fun a b ha hb e => by rw [hfr a ha, hfr b hb] at e; exact e) gr_le q1 q2 (fun I2 hF2 => ?_)
            refine v_iret C Q dX5_grade_50 (Nat.le_of_ble_eq_true rfl) (Nat.le_of_ble_eq_true rfl) ?_
            have w := Mq_scr hR (hF2.wide (by omega) (by omega)) (fun _ _ _ => rfl) hp
            exact w
          · exact absurd h31 (by omega)
      · exact absurd h5 (by decide)
    · rw [if_neg hkd] at hp
      refine v_aload_n C dX5_grade_0 rfl ?_
      refine v_iload_n C dX5_grade_1 rfl ?_
      refine v_callV1_1 C (m_X5_isScatter T B) lk_X5_80 ⟨wt_624, ws_22⟩ 5 rfl dX5_grade_2 ⟨Nat.le_of_ble_eq_true rfl, Nat.le_of_ble_eq_true rfl⟩ (Nat.le_of_ble_eq_true rfl) ⟨Nat.le_of_ble_eq_true rfl, Nat.le_of_ble_eq_true rfl⟩ (by assumption) (cTo_5 (by assumption)) ?_
      refine c_isS_k hM hn hn12 hk ?_
      first | refine v_if_neN C 14 dX5_grade_5 (by omega) (by decide) (fun h5 => ?_) (fun h5 => ?_) | refine v_if_ne C 14 dX5_grade_5 (by decide) (fun h5 => ?_) (fun h5 => ?_)
      · refine v_aload_n C dX5_grade_14 rfl ?_
        refine g_5_1 C (by assumption) (by assumption) wt_534 dX5_grade_15 ?_
        refine v_iload_n C dX5_grade_18 rfl ?_
        first | refine v_ialdN C (by assumption) (by omega) (by omega) dX5_grade_19 ?_ | refine v_iald C (by assumption) (by assumption) dX5_grade_19 ?_
        rw [hk1]
        refine v_iconstN 3 C dX5_grade_20 ?_
        first | refine v_icmp_eqN C 34 dX5_grade_21 (by omega) (by omega) (by decide) (fun h21 => ?_) (fun h21 => ?_) | refine v_icmp_eq C 34 dX5_grade_21 (by decide) (fun h21 => ?_) (fun h21 => ?_)
        · refine v_aload_n C dX5_grade_34 rfl ?_
          refine v_bipush (v := -2) C dX5_grade_35 (by decide) ?_
          refine v_callV1_1 C (m_X5_refuse T B) lk_X5_88 ⟨wt_608, ws_19⟩ 5 rfl dX5_grade_37 ⟨Nat.le_of_ble_eq_true rfl, Nat.le_of_ble_eq_true rfl⟩ (Nat.le_of_ble_eq_true rfl) ⟨Nat.le_of_ble_eq_true rfl, Nat.le_of_ble_eq_true rfl⟩ (by assumption) (cTo_5 (by assumption)) ?_
          refine c_X5_refuse (k := 2) hM (by decide) (by decide) ?_
          refine v_goto C 50 dX5_grade_40 (by decide) ?_
          refine v_iret C Q dX5_grade_50 (Nat.le_of_ble_eq_true rfl) (Nat.le_of_ble_eq_true rfl) ?_
          have w := Mq_rf (k := 2) hR (by decide) hp
          exact w
        · refine v_aload_n C dX5_grade_24 rfl ?_
          refine g_5_1 C (by assumption) (by assumption) wt_534 dX5_grade_25 ?_
          refine v_iload_n C dX5_grade_28 rfl ?_
          first | refine v_ialdN C (by assumption) (by omega) (by omega) dX5_grade_29 ?_ | refine v_iald C (by assumption) (by assumption) dX5_grade_29 ?_
          rw [hk1]
          refine v_iconstN 4 C dX5_grade_30 ?_
          first | refine v_icmp_neN C 43 dX5_grade_31 (by omega) (by omega) (by decide) (fun h31 => ?_) (fun h31 => ?_) | refine v_icmp_ne C 43 dX5_grade_31 (by decide) (fun h31 => ?_) (fun h31 => ?_)
          · exact absurd h31 (by omega)
          · refine v_aload_n C dX5_grade_34 rfl ?_
            refine v_bipush (v := -2) C dX5_grade_35 (by decide) ?_
            refine v_callV1_1 C (m_X5_refuse T B) lk_X5_88 ⟨wt_608, ws_19⟩ 5 rfl dX5_grade_37 ⟨Nat.le_of_ble_eq_true rfl, Nat.le_of_ble_eq_true rfl⟩ (Nat.le_of_ble_eq_true rfl) ⟨Nat.le_of_ble_eq_true rfl, Nat.le_of_ble_eq_true rfl⟩ (by assumption) (cTo_5 (by assumption)) ?_
            refine c_X5_refuse (k := 2) hM (by decide) (by decide) ?_
            refine v_goto C 50 dX5_grade_40 (by decide) ?_
            refine v_iret C Q dX5_grade_50 (Nat.le_of_ble_eq_true rfl) (Nat.le_of_ble_eq_true rfl) ?_
            have w := Mq_rf (k := 2) hR (by decide) hp
            exact w
      · exact absurd h5 (by decide)
def s_X5_pair : Sp := fun av z S I J R Post => ∃ (M : Nat), ∃ (st : St), ∃ (s j l : Int32), av = [.ref M, .int s, .int j, .int l] ∧ (MoS S R M) ∧ (Rm M st I) ∧ (Ok st) ∧ (Mq M (o_pair st s j l).2 I J (fun I' J' => Post (o_pair st s j l).1 0 none z S I' J' R))
theorem c_X5_pair {M : Nat} {st : St} {s j l : Int32} {z : Nat} {S : MS} {I : MI} {J : MJ} {R : MR} {Post : PT} (hM : MoS S R M) (hR : Rm M st I) (hO : Ok st) (hp : Mq M (o_pair st s j l).2 I J (fun I' J' => Post (o_pair st s j l).1 0 none z S I' J' R)) : s_X5_pair [.ref M, .int s, .int j, .int l] z S I J R Post := ⟨M, st, s, j, l, rfl, hM, hR, hO, hp⟩
set_option maxRecDepth 100000 in
set_option maxHeartbeats 2000000 in
theorem m_X5_pair (T : TC) (B : Nat) : Mt T B yX5_pair cX5_pair 4 (some .int) 1 (rmL 6 0 0) s_X5_pair := by
  refine Mt_of rfl (by rintro _ _ _ _ _ _ _ ⟨_, _, _, _, _, rfl, -⟩; exact Nat.le_of_ble_eq_true rfl) ?_
  intro X av z S I J R Post h C Q hI
  obtain ⟨M, st, s, j, l, rfl, hM, hR, hO, hp⟩ := h
  have hn12 := hO.1
  obtain ⟨hn, htl, hms, htr, hrf⟩ := id hR
  obtain ⟨hS0, hr1, hr2, hr3, hr4, hr5, hr6, hr7, hr8, hr9, hr10, hr11, hr12, hr14, hr15, hr16, hr17, hr18, hr19, hr20, hs1, hs2, hs3, hs4, hs5, hs6, hs7, hs8, hs9, hs10, hs11, hs12, hs13, hs14, hs15, hs16, hs17, hs18, hs19⟩ := id hM
  have hdm := Rm_dm hR hO
  unfold o_pair at hp
  rcases Oo_or s st.1 (by omega) with ho | ⟨k, hk, rfl⟩
  · rw [onS_o ho] at hp
    refine v_aload_n C dX5_pair_0 rfl ?_
    refine v_iload_n C dX5_pair_1 rfl ?_
    refine v_iload_n C dX5_pair_2 rfl ?_
    refine v_callV2_1 C (m_X5_hasDirection T B) lk_X5_96 ⟨wt_620, ws_21⟩ 5 rfl dX5_pair_3 ⟨Nat.le_of_ble_eq_true rfl, Nat.le_of_ble_eq_true rfl⟩ (Nat.le_of_ble_eq_true rfl) ⟨Nat.le_of_ble_eq_true rfl, Nat.le_of_ble_eq_true rfl⟩ (by assumption) (cTo_5 (by assumption)) ?_
    refine c_hd_o hM hn hn12 hdm ho ?_
    first | refine v_if_eqN C 23 dX5_pair_6 (by omega) (by decide) (fun h6 => ?_) (fun h6 => ?_) | refine v_if_eq C 23 dX5_pair_6 (by decide) (fun h6 => ?_) (fun h6 => ?_)
    · refine v_aload_n C dX5_pair_23 rfl ?_
      refine v_iconst (v := -1) C dX5_pair_24 (by decide) ?_
      refine v_callV1_1 C (m_X5_refuse T B) lk_X5_88 ⟨wt_608, ws_19⟩ 5 rfl dX5_pair_25 ⟨Nat.le_of_ble_eq_true rfl, Nat.le_of_ble_eq_true rfl⟩ (Nat.le_of_ble_eq_true rfl) ⟨Nat.le_of_ble_eq_true rfl, Nat.le_of_ble_eq_true rfl⟩ (by assumption) (cTo_5 (by assumption)) ?_
      refine c_X5_refuse (k := 1) hM (by decide) (by decide) ?_
      refine v_iret C Q dX5_pair_28 (Nat.le_of_ble_eq_true rfl) (Nat.le_of_ble_eq_true rfl) ?_
      have w := Mq_rf (k := 1) hR (by decide) hp
      exact w
    · exact absurd rfl h6
  · have hMs := hms k (by omega)
    have hMs0 := hMs
    obtain ⟨hk1, hk2, hk3, hk4, hk5, hk6, hk7, hk8, hk9⟩ := hMs
    have hOk := hO.2.1 k hk
    obtain ⟨o1, o2, o3, o4, o5, o6, o7, o8, o9, o10, o11, o12⟩ := id hOk
    rw [onS_k hk (by omega)] at hp
    rcases Oo_or j (st.2.1 k 2 0) (by omega) with hq | ⟨a, ha, rfl⟩
    · rw [onS_o hq] at hp
      refine v_aload_n C dX5_pair_0 rfl ?_
      refine v_iload_n C dX5_pair_1 rfl ?_
      refine v_iload_n C dX5_pair_2 rfl ?_
      refine v_callV2_1 C (m_X5_hasDirection T B) lk_X5_96 ⟨wt_620, ws_21⟩ 5 rfl dX5_pair_3 ⟨Nat.le_of_ble_eq_true rfl, Nat.le_of_ble_eq_true rfl⟩ (Nat.le_of_ble_eq_true rfl) ⟨Nat.le_of_ble_eq_true rfl, Nat.le_of_ble_eq_true rfl⟩ (by assumption) (cTo_5 (by assumption)) ?_
      refine c_hd_j hM hn hn12 hdm hk hq ?_
      first | refine v_if_eqN C 23 dX5_pair_6 (by omega) (by decide) (fun h6 => ?_) (fun h6 => ?_) | refine v_if_eq C 23 dX5_pair_6 (by decide) (fun h6 => ?_) (fun h6 => ?_)
      · refine v_aload_n C dX5_pair_23 rfl ?_
        refine v_iconst (v := -1) C dX5_pair_24 (by decide) ?_
        refine v_callV1_1 C (m_X5_refuse T B) lk_X5_88 ⟨wt_608, ws_19⟩ 5 rfl dX5_pair_25 ⟨Nat.le_of_ble_eq_true rfl, Nat.le_of_ble_eq_true rfl⟩ (Nat.le_of_ble_eq_true rfl) ⟨Nat.le_of_ble_eq_true rfl, Nat.le_of_ble_eq_true rfl⟩ (by assumption) (cTo_5 (by assumption)) ?_
        refine c_X5_refuse (k := 1) hM (by decide) (by decide) ?_
        refine v_iret C Q dX5_pair_28 (Nat.le_of_ble_eq_true rfl) (Nat.le_of_ble_eq_true rfl) ?_
        have w := Mq_rf (k := 1) hR (by decide) hp
        exact w
      · exact absurd rfl h6
    · rw [onS_k ha (by omega)] at hp
      rcases Oo_or l (st.2.1 k 2 0) (by omega) with hq | ⟨b, hb, rfl⟩
      · rw [onS_o hq] at hp
        refine v_aload_n C dX5_pair_0 rfl ?_
        refine v_iload_n C dX5_pair_1 rfl ?_
        refine v_iload_n C dX5_pair_2 rfl ?_
        refine v_callV2_1 C (m_X5_hasDirection T B) lk_X5_96 ⟨wt_620, ws_21⟩ 5 rfl dX5_pair_3 ⟨Nat.le_of_ble_eq_true rfl, Nat.le_of_ble_eq_true rfl⟩ (Nat.le_of_ble_eq_true rfl) ⟨Nat.le_of_ble_eq_true rfl, Nat.le_of_ble_eq_true rfl⟩ (by assumption) (cTo_5 (by assumption)) ?_
        refine c_hd_k hM hn hn12 hdm hk ha ?_
        first | refine v_if_eqN C 23 dX5_pair_6 (by omega) (by decide) (fun h6 => ?_) (fun h6 => ?_) | refine v_if_eq C 23 dX5_pair_6 (by decide) (fun h6 => ?_) (fun h6 => ?_)
        · exact absurd h6 (by decide)
        · refine v_aload_n C dX5_pair_9 rfl ?_
          refine v_iload_n C dX5_pair_10 rfl ?_
          refine v_iload_n C dX5_pair_11 rfl ?_
          refine v_callV2_1 C (m_X5_hasDirection T B) lk_X5_96 ⟨wt_620, ws_21⟩ 5 rfl dX5_pair_12 ⟨Nat.le_of_ble_eq_true rfl, Nat.le_of_ble_eq_true rfl⟩ (Nat.le_of_ble_eq_true rfl) ⟨Nat.le_of_ble_eq_true rfl, Nat.le_of_ble_eq_true rfl⟩ (by assumption) (cTo_5 (by assumption)) ?_
          refine c_hd_j hM hn hn12 hdm hk hq ?_
          first | refine v_if_eqN C 23 dX5_pair_15 (by omega) (by decide) (fun h15 => ?_) (fun h15 => ?_) | refine v_if_eq C 23 dX5_pair_15 (by decide) (fun h15 => ?_) (fun h15 => ?_)
          · refine v_aload_n C dX5_pair_23 rfl ?_
            refine v_iconst (v := -1) C dX5_pair_24 (by decide) ?_
            refine v_callV1_1 C (m_X5_refuse T B) lk_X5_88 ⟨wt_608, ws_19⟩ 5 rfl dX5_pair_25 ⟨Nat.le_of_ble_eq_true rfl, Nat.le_of_ble_eq_true rfl⟩ (Nat.le_of_ble_eq_true rfl) ⟨Nat.le_of_ble_eq_true rfl, Nat.le_of_ble_eq_true rfl⟩ (by assumption) (cTo_5 (by assumption)) ?_
            refine c_X5_refuse (k := 1) hM (by decide) (by decide) ?_
            refine v_iret C Q dX5_pair_28 (Nat.le_of_ble_eq_true rfl) (Nat.le_of_ble_eq_true rfl) ?_
            have w := Mq_rf (k := 1) hR (by decide) hp
            exact w
          · exact absurd rfl h15
      · rw [onS_k hb (by omega)] at hp
        by_cases hab : a = b
        · rw [if_pos hab] at hp
          refine v_aload_n C dX5_pair_0 rfl ?_
          refine v_iload_n C dX5_pair_1 rfl ?_
          refine v_iload_n C dX5_pair_2 rfl ?_
          refine v_callV2_1 C (m_X5_hasDirection T B) lk_X5_96 ⟨wt_620, ws_21⟩ 5 rfl dX5_pair_3 ⟨Nat.le_of_ble_eq_true rfl, Nat.le_of_ble_eq_true rfl⟩ (Nat.le_of_ble_eq_true rfl) ⟨Nat.le_of_ble_eq_true rfl, Nat.le_of_ble_eq_true rfl⟩ (by assumption) (cTo_5 (by assumption)) ?_
          refine c_hd_k hM hn hn12 hdm hk ha ?_
          first | refine v_if_eqN C 23 dX5_pair_6 (by omega) (by decide) (fun h6 => ?_) (fun h6 => ?_) | refine v_if_eq C 23 dX5_pair_6 (by decide) (fun h6 => ?_) (fun h6 => ?_)
          · exact absurd h6 (by decide)
          · refine v_aload_n C dX5_pair_9 rfl ?_
            refine v_iload_n C dX5_pair_10 rfl ?_
            refine v_iload_n C dX5_pair_11 rfl ?_
            refine v_callV2_1 C (m_X5_hasDirection T B) lk_X5_96 ⟨wt_620, ws_21⟩ 5 rfl dX5_pair_12 ⟨Nat.le_of_ble_eq_true rfl, Nat.le_of_ble_eq_true rfl⟩ (Nat.le_of_ble_eq_true rfl) ⟨Nat.le_of_ble_eq_true rfl, Nat.le_of_ble_eq_true rfl⟩ (by assumption) (cTo_5 (by assumption)) ?_
            refine c_hd_k hM hn hn12 hdm hk hb ?_
            first | refine v_if_eqN C 23 dX5_pair_15 (by omega) (by decide) (fun h15 => ?_) (fun h15 => ?_) | refine v_if_eq C 23 dX5_pair_15 (by decide) (fun h15 => ?_) (fun h15 => ?_)
            · exact absurd h15 (by decide)
            · refine v_iload_n C dX5_pair_18 rfl ?_
              refine v_iload_n C dX5_pair_19 rfl ?_
              first | refine v_icmp_neN C 29 dX5_pair_20 (by omega) (by omega) (by decide) (fun h20 => ?_) (fun h20 => ?_) | refine v_icmp_ne C 29 dX5_pair_20 (by decide) (fun h20 => ?_) (fun h20 => ?_)
              · exact absurd hab h20
              · refine v_aload_n C dX5_pair_23 rfl ?_
                refine v_iconst (v := -1) C dX5_pair_24 (by decide) ?_
                refine v_callV1_1 C (m_X5_refuse T B) lk_X5_88 ⟨wt_608, ws_19⟩ 5 rfl dX5_pair_25 ⟨Nat.le_of_ble_eq_true rfl, Nat.le_of_ble_eq_true rfl⟩ (Nat.le_of_ble_eq_true rfl) ⟨Nat.le_of_ble_eq_true rfl, Nat.le_of_ble_eq_true rfl⟩ (by assumption) (cTo_5 (by assumption)) ?_
                refine c_X5_refuse (k := 1) hM (by decide) (by decide) ?_
                refine v_iret C Q dX5_pair_28 (Nat.le_of_ble_eq_true rfl) (Nat.le_of_ble_eq_true rfl) ?_
                have w := Mq_rf (k := 1) hR (by decide) hp
                exact w
        · rw [if_neg hab] at hp
          by_cases hkd : st.2.1 k 1 0 < 3
          · rw [if_pos hkd] at hp
            obtain ⟨b1, b2', b3, b4, b5, b6⟩ := gB (st.2.1 k 2 0) (by omega) a ha b hb hab
            obtain ⟨q1, q2, q3, q4⟩ := gd_two hOk hkd ha hb hab b2' b3
            refine v_aload_n C dX5_pair_0 rfl ?_
            refine v_iload_n C dX5_pair_1 rfl ?_
            refine v_iload_n C dX5_pair_2 rfl ?_
            refine v_callV2_1 C (m_X5_hasDirection T B) lk_X5_96 ⟨wt_620, ws_21⟩ 5 rfl dX5_pair_3 ⟨Nat.le_of_ble_eq_true rfl, Nat.le_of_ble_eq_true rfl⟩ (Nat.le_of_ble_eq_true rfl) ⟨Nat.le_of_ble_eq_true rfl, Nat.le_of_ble_eq_true rfl⟩ (by assumption) (cTo_5 (by assumption)) ?_
            refine c_hd_k hM hn hn12 hdm hk ha ?_
            first | refine v_if_eqN C 23 dX5_pair_6 (by omega) (by decide) (fun h6 => ?_) (fun h6 => ?_) | refine v_if_eq C 23 dX5_pair_6 (by decide) (fun h6 => ?_) (fun h6 => ?_)
            · exact absurd h6 (by decide)
            · refine v_aload_n C dX5_pair_9 rfl ?_
              refine v_iload_n C dX5_pair_10 rfl ?_
              refine v_iload_n C dX5_pair_11 rfl ?_
              refine v_callV2_1 C (m_X5_hasDirection T B) lk_X5_96 ⟨wt_620, ws_21⟩ 5 rfl dX5_pair_12 ⟨Nat.le_of_ble_eq_true rfl, Nat.le_of_ble_eq_true rfl⟩ (Nat.le_of_ble_eq_true rfl) ⟨Nat.le_of_ble_eq_true rfl, Nat.le_of_ble_eq_true rfl⟩ (by assumption) (cTo_5 (by assumption)) ?_
              refine c_hd_k hM hn hn12 hdm hk hb ?_
              first | refine v_if_eqN C 23 dX5_pair_15 (by omega) (by decide) (fun h15 => ?_) (fun h15 => ?_) | refine v_if_eq C 23 dX5_pair_15 (by decide) (fun h15 => ?_) (fun h15 => ?_)
              · exact absurd h15 (by decide)
              · refine v_iload_n C dX5_pair_18 rfl ?_
                refine v_iload_n C dX5_pair_19 rfl ?_
                first | refine v_icmp_neN C 29 dX5_pair_20 (by omega) (by omega) (by decide) (fun h20 => ?_) (fun h20 => ?_) | refine v_icmp_ne C 29 dX5_pair_20 (by decide) (fun h20 => ?_) (fun h20 => ?_)
                · refine v_aload_n C dX5_pair_29 rfl ?_
                  refine g_5_1 C (by assumption) (by assumption) wt_534 dX5_pair_30 ?_
                  refine v_iload_n C dX5_pair_33 rfl ?_
                  first | refine v_ialdN C (by assumption) (by omega) (by omega) dX5_pair_34 ?_ | refine v_iald C (by assumption) (by assumption) dX5_pair_34 ?_
                  rw [hk1]
                  refine v_iconstN 3 C dX5_pair_35 ?_
                  first | refine v_icmp_eqN C 49 dX5_pair_36 (by omega) (by omega) (by decide) (fun h36 => ?_) (fun h36 => ?_) | refine v_icmp_eq C 49 dX5_pair_36 (by decide) (fun h36 => ?_) (fun h36 => ?_)
                  · exact absurd h36 (by omega)
                  · refine v_aload_n C dX5_pair_39 rfl ?_
                    refine g_5_1 C (by assumption) (by assumption) wt_534 dX5_pair_40 ?_
                    refine v_iload_n C dX5_pair_43 rfl ?_
                    first | refine v_ialdN C (by assumption) (by omega) (by omega) dX5_pair_44 ?_ | refine v_iald C (by assumption) (by assumption) dX5_pair_44 ?_
                    rw [hk1]
                    refine v_iconstN 4 C dX5_pair_45 ?_
                    first | refine v_icmp_neN C 58 dX5_pair_46 (by omega) (by omega) (by decide) (fun h46 => ?_) (fun h46 => ?_) | refine v_icmp_ne C 58 dX5_pair_46 (by decide) (fun h46 => ?_) (fun h46 => ?_)
                    · refine v_aload_n C dX5_pair_58 rfl ?_
                      refine v_iload_n C dX5_pair_59 rfl ?_
                      refine v_iconstN 1 C dX5_pair_60 ?_
                      refine v_iload_n C dX5_pair_61 rfl ?_
                      first | refine v_ishlN C dX5_pair_62 (by omega) (by rw [Nat.one_mul]; omega) ?_ | refine v_ishl C dX5_pair_62 ?_
                      refine v_iconstN 1 C dX5_pair_63 ?_
                      refine v_iload_n C dX5_pair_64 rfl ?_
                      first | refine v_ishlN C dX5_pair_65 (by omega) (by rw [Nat.one_mul]; omega) ?_ | refine v_ishl C dX5_pair_65 ?_
                      first | refine v_iorN C dX5_pair_66 ?_ | refine v_ior C dX5_pair_66 ?_
                      rw [Nat.one_mul, Nat.one_mul]
                      refine v_callV2_1 C (m_X5_gradeOf T B) lk_X5_129 ⟨wt_723, ws_26⟩ 5 rfl dX5_pair_67 ⟨Nat.le_of_ble_eq_true rfl, Nat.le_of_ble_eq_true rfl⟩ (Nat.le_of_ble_eq_true rfl) ⟨Nat.le_of_ble_eq_true rfl, Nat.le_of_ble_eq_true rfl⟩ (by assumption) (cTo_5 (by assumption)) ?_
                      refine c_X5_gradeOf (K := 2) (fr := frN (2 ^ a ||| 2 ^ b) (st.2.1 k 2 0) 6) (t := gr (rowW (st.2.1 k)) (st.2.1 k 3 0) (fun q => if q = 0 then a else b) 2) hM hMs0 (by omega) hOk hkd b4 b1 rfl (by decide) q2 q1 gr_le q3 q4 (fun I2 hF2 => ?_)
                      refine v_iret C Q dX5_pair_70 (Nat.le_of_ble_eq_true rfl) (Nat.le_of_ble_eq_true rfl) ?_
                      have w := Mq_scr hR (hF2.wide (by omega) (by omega)) (fun _ _ _ => rfl) hp
                      exact w
                    · exact absurd h46 (by omega)
                · exact absurd h20 hab
          · rw [if_neg hkd] at hp
            refine v_aload_n C dX5_pair_0 rfl ?_
            refine v_iload_n C dX5_pair_1 rfl ?_
            refine v_iload_n C dX5_pair_2 rfl ?_
            refine v_callV2_1 C (m_X5_hasDirection T B) lk_X5_96 ⟨wt_620, ws_21⟩ 5 rfl dX5_pair_3 ⟨Nat.le_of_ble_eq_true rfl, Nat.le_of_ble_eq_true rfl⟩ (Nat.le_of_ble_eq_true rfl) ⟨Nat.le_of_ble_eq_true rfl, Nat.le_of_ble_eq_true rfl⟩ (by assumption) (cTo_5 (by assumption)) ?_
            refine c_hd_k hM hn hn12 hdm hk ha ?_
            first | refine v_if_eqN C 23 dX5_pair_6 (by omega) (by decide) (fun h6 => ?_) (fun h6 => ?_) | refine v_if_eq C 23 dX5_pair_6 (by decide) (fun h6 => ?_) (fun h6 => ?_)
            · exact absurd h6 (by decide)
            · refine v_aload_n C dX5_pair_9 rfl ?_
              refine v_iload_n C dX5_pair_10 rfl ?_
              refine v_iload_n C dX5_pair_11 rfl ?_
              refine v_callV2_1 C (m_X5_hasDirection T B) lk_X5_96 ⟨wt_620, ws_21⟩ 5 rfl dX5_pair_12 ⟨Nat.le_of_ble_eq_true rfl, Nat.le_of_ble_eq_true rfl⟩ (Nat.le_of_ble_eq_true rfl) ⟨Nat.le_of_ble_eq_true rfl, Nat.le_of_ble_eq_true rfl⟩ (by assumption) (cTo_5 (by assumption)) ?_
              refine c_hd_k hM hn hn12 hdm hk hb ?_
              first | refine v_if_eqN C 23 dX5_pair_15 (by omega) (by decide) (fun h15 => ?_) (fun h15 => ?_) | refine v_if_eq C 23 dX5_pair_15 (by decide) (fun h15 => ?_) (fun h15 => ?_)
              · exact absurd h15 (by decide)
              · refine v_iload_n C dX5_pair_18 rfl ?_
                refine v_iload_n C dX5_pair_19 rfl ?_
                first | refine v_icmp_neN C 29 dX5_pair_20 (by omega) (by omega) (by decide) (fun h20 => ?_) (fun h20 => ?_) | refine v_icmp_ne C 29 dX5_pair_20 (by decide) (fun h20 => ?_) (fun h20 => ?_)
                · refine v_aload_n C dX5_pair_29 rfl ?_
                  refine g_5_1 C (by assumption) (by assumption) wt_534 dX5_pair_30 ?_
                  refine v_iload_n C dX5_pair_33 rfl ?_
                  first | refine v_ialdN C (by assumption) (by omega) (by omega) dX5_pair_34 ?_ | refine v_iald C (by assumption) (by assumption) dX5_pair_34 ?_
                  rw [hk1]
                  refine v_iconstN 3 C dX5_pair_35 ?_
                  first | refine v_icmp_eqN C 49 dX5_pair_36 (by omega) (by omega) (by decide) (fun h36 => ?_) (fun h36 => ?_) | refine v_icmp_eq C 49 dX5_pair_36 (by decide) (fun h36 => ?_) (fun h36 => ?_)
                  · refine v_aload_n C dX5_pair_49 rfl ?_
                    refine v_bipush (v := -2) C dX5_pair_50 (by decide) ?_
                    refine v_callV1_1 C (m_X5_refuse T B) lk_X5_88 ⟨wt_608, ws_19⟩ 5 rfl dX5_pair_52 ⟨Nat.le_of_ble_eq_true rfl, Nat.le_of_ble_eq_true rfl⟩ (Nat.le_of_ble_eq_true rfl) ⟨Nat.le_of_ble_eq_true rfl, Nat.le_of_ble_eq_true rfl⟩ (by assumption) (cTo_5 (by assumption)) ?_
                    refine c_X5_refuse (k := 2) hM (by decide) (by decide) ?_
                    refine v_goto C 70 dX5_pair_55 (by decide) ?_
                    refine v_iret C Q dX5_pair_70 (Nat.le_of_ble_eq_true rfl) (Nat.le_of_ble_eq_true rfl) ?_
                    have w := Mq_rf (k := 2) hR (by decide) hp
                    exact w
                  · refine v_aload_n C dX5_pair_39 rfl ?_
                    refine g_5_1 C (by assumption) (by assumption) wt_534 dX5_pair_40 ?_
                    refine v_iload_n C dX5_pair_43 rfl ?_
                    first | refine v_ialdN C (by assumption) (by omega) (by omega) dX5_pair_44 ?_ | refine v_iald C (by assumption) (by assumption) dX5_pair_44 ?_
                    rw [hk1]
                    refine v_iconstN 4 C dX5_pair_45 ?_
                    first | refine v_icmp_neN C 58 dX5_pair_46 (by omega) (by omega) (by decide) (fun h46 => ?_) (fun h46 => ?_) | refine v_icmp_ne C 58 dX5_pair_46 (by decide) (fun h46 => ?_) (fun h46 => ?_)
                    · exact absurd h46 (by omega)
                    · refine v_aload_n C dX5_pair_49 rfl ?_
                      refine v_bipush (v := -2) C dX5_pair_50 (by decide) ?_
                      refine v_callV1_1 C (m_X5_refuse T B) lk_X5_88 ⟨wt_608, ws_19⟩ 5 rfl dX5_pair_52 ⟨Nat.le_of_ble_eq_true rfl, Nat.le_of_ble_eq_true rfl⟩ (Nat.le_of_ble_eq_true rfl) ⟨Nat.le_of_ble_eq_true rfl, Nat.le_of_ble_eq_true rfl⟩ (by assumption) (cTo_5 (by assumption)) ?_
                      refine c_X5_refuse (k := 2) hM (by decide) (by decide) ?_
                      refine v_goto C 70 dX5_pair_55 (by decide) ?_
                      refine v_iret C Q dX5_pair_70 (Nat.le_of_ble_eq_true rfl) (Nat.le_of_ble_eq_true rfl) ?_
                      have w := Mq_rf (k := 2) hR (by decide) hp
                      exact w
                · exact absurd h20 hab
