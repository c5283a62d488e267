def allD (f : Nat → Bool) (d : Nat) : Nat → Bool
  | 0 => true
  | k + 1 => allD f d k && f (d - (k + 1))
theorem allD_iff {f : Nat → Bool} {d : Nat} : ∀ k, allD f d k = true ↔ ∀ i, i < k → f (d - (i + 1)) = true
  | 0 => ⟨fun _ i hi => absurd hi (by omega), fun _ => rfl⟩
  | k + 1 => by
    simp only [allD, Bool.and_eq_true, allD_iff k]
    constructor
    · rintro ⟨h1, h2⟩ i hi
      by_cases e : i = k
      · subst e; exact h2
      · exact h1 i (by omega)
    · intro h
      exact ⟨fun i hi => h i (by omega), h k (by omega)⟩
theorem allD_B {f : Nat → Bool} (d : Nat) : allD f d d = allB f d := by
  refine Bool.eq_iff_iff.mpr ?_
  rw [allD_iff, allB_iff]
  constructor
  · intro h j hj
    have := h (d - 1 - j) (by omega)
    rw [show d - (d - 1 - j + 1) = j by omega] at this
    exact this
  · intro h i hi
    exact h _ (by omega)
def flW (P : Nat → Nat → Nat) (n j v : Nat) : Bool := !(decide (qc (fun n => P n j) v n = 0))
theorem flW_s (P : Nat → Nat → Nat) (n j v : Nat) : flW P (n + 1) j v = (flW P n j v || decide (P n j = v)) := by
  unfold flW
  rw [qc_s]
  by_cases e : P n j = v
  · rw [decide_eq_true (show P n j = v from e)]
    have : b2 true = 1 := rfl
    rw [this, decide_eq_false (by omega), Bool.or_true]; rfl
  · rw [decide_eq_false (show ¬ P n j = v from e)]
    have : b2 false = 0 := rfl
    rw [this, Nat.add_zero, Bool.or_false]
def s_X5_worst : Sp := fun av z S I J R Post => ∃ (M : Nat), ∃ (st : St), ∃ (s w : Int32), av = [.ref M, .int s, .int w] ∧ (MoS S R M) ∧ (Rm M st I) ∧ (Ok st) ∧ (Mq M (o_worst st s w).2 I J (fun I' J' => Post 0 (o_worst st s w).1 none z S I' J' R))
theorem c_X5_worst {M : Nat} {st : St} {s w : Int32} {z : Nat} {S : MS} {I : MI} {J : MJ} {R : MR} {Post : PT} (hM : MoS S R M) (hR : Rm M st I) (hO : Ok st) (hp : Mq M (o_worst st s w).2 I J (fun I' J' => Post 0 (o_worst st s w).1 none z S I' J' R)) : s_X5_worst [.ref M, .int s, .int w] z S I J R Post := ⟨M, st, s, w, rfl, hM, hR, hO, hp⟩
set_option maxRecDepth 100000 in
set_option maxHeartbeats 8000000 in
theorem m_X5_worst (T : TC) (B : Nat) : Mt T B yX5_worst cX5_worst 17 (some .long) 2 (rmL 5 0 0) s_X5_worst := by
  refine Mt_of rfl (by rintro _ _ _ _ _ _ _ ⟨_, _, _, _, rfl, -⟩; exact Nat.le_of_ble_eq_true rfl) ?_
  intro X av z S I J R Post h C Q hI
  obtain ⟨M, st, s, w, rfl, hM, hR, hO, hp⟩ := h
  have hn12 := hO.1
  obtain ⟨hn, htl, hms, htr, hrf⟩ := id hR
  obtain ⟨hS0, hr1, hr2, hr3, hr4, hr5, hr6, hr7, hr8, hr9, hr10, hr11, hr12, hr14, hr15, hr16, hr17, hr18, hr19, hr20, hs1, hs2, hs3, hs4, hs5, hs6, hs7, hs8, hs9, hs10, hs11, hs12, hs13, hs14, hs15, hs16, hs17, hs18, hs19⟩ := id hM
  unfold o_worst at hp
  rcases Oo_or s st.1 (by omega) with ho | ⟨k, hk, rfl⟩
  · rw [onS_o ho] at hp
    refine v_aload_n C dX5_worst_0 rfl ?_
    refine v_iload_n C dX5_worst_1 rfl ?_
    refine v_callV1_1 C (m_X5_isScatter T B) lk_X5_80 ⟨wt_624, ws_22⟩ 5 rfl dX5_worst_2 ⟨Nat.le_of_ble_eq_true rfl, Nat.le_of_ble_eq_true rfl⟩ (Nat.le_of_ble_eq_true rfl) ⟨Nat.le_of_ble_eq_true rfl, Nat.le_of_ble_eq_true rfl⟩ (by assumption) (cTo_5 (by assumption)) ?_
    refine c_isS_o hM hn hn12 ho ?_
    first | refine v_if_neN C 14 dX5_worst_5 (by omega) (by decide) (fun h5 => ?_) (fun h5 => ?_) | refine v_if_ne C 14 dX5_worst_5 (by decide) (fun h5 => ?_) (fun h5 => ?_)
    · exact absurd h5 (by decide)
    · refine v_aload_n C dX5_worst_8 rfl ?_
      refine v_iconst (v := -1) C dX5_worst_9 (by decide) ?_
      refine v_callV1_2 C (m_X5_refuseLong T B) lk_X5_143 ⟨wt_739, ws_28⟩ 5 rfl dX5_worst_10 ⟨Nat.le_of_ble_eq_true rfl, Nat.le_of_ble_eq_true rfl⟩ (Nat.le_of_ble_eq_true rfl) ⟨Nat.le_of_ble_eq_true rfl, Nat.le_of_ble_eq_true rfl⟩ (by assumption) (cTo_5 (by assumption)) ?_
      refine c_X5_refuseLong (k := 1) hM (by decide) (by decide) ?_
      refine v_lret C Q dX5_worst_13 (Nat.le_of_ble_eq_true rfl) (Nat.le_of_ble_eq_true rfl) ?_
      have w := Mq_rf (k := 1) hR (by decide) hp
      exact w
  · have hMs := hms k (by omega)
    have hMs0 := hMs
    obtain ⟨hk1, hk2, hk3, hk4, hk5, hk6, hk7, hk8, hk9⟩ := hMs
    have hOk := hO.2.1 k hk
    obtain ⟨o1, o2, o3, o4, o5, o6, o7, o8, o9, o10, o11, o12⟩ := id hOk
    rw [onS_k hk (by omega)] at hp
    rcases Oo_or w (3 + st.2.1 k 2 0) (by omega) with hq | ⟨v, hv, rfl⟩
    · rw [onS_o hq] at hp
      refine v_aload_n C dX5_worst_0 rfl ?_
      refine v_iload_n C dX5_worst_1 rfl ?_
      refine v_callV1_1 C (m_X5_isScatter T B) lk_X5_80 ⟨wt_624, ws_22⟩ 5 rfl dX5_worst_2 ⟨Nat.le_of_ble_eq_true rfl, Nat.le_of_ble_eq_true rfl⟩ (Nat.le_of_ble_eq_true rfl) ⟨Nat.le_of_ble_eq_true rfl, Nat.le_of_ble_eq_true rfl⟩ (by assumption) (cTo_5 (by assumption)) ?_
      refine c_isS_k hM hn hn12 hk ?_
      first | refine v_if_neN C 14 dX5_worst_5 (by omega) (by decide) (fun h5 => ?_) (fun h5 => ?_) | refine v_if_ne C 14 dX5_worst_5 (by decide) (fun h5 => ?_) (fun h5 => ?_)
      · refine v_iload_n C dX5_worst_14 rfl ?_
        refine v_i2l C dX5_worst_15 ?_
        refine v_lconst (v := lN 0) C dX5_worst_16 rfl ?_
        refine v_iconstN 2 C dX5_worst_17 ?_
        refine v_aload_n C dX5_worst_18 rfl ?_
        refine g_5_2 C (by assumption) (by assumption) wt_535 dX5_worst_19 ?_
        refine v_iload_n C dX5_worst_22 rfl ?_
        first | refine v_ialdN C (by assumption) (by omega) (by omega) dX5_worst_23 ?_ | refine v_iald C (by assumption) (by assumption) dX5_worst_23 ?_
        rw [hk2]
        first | refine v_iaddN C dX5_worst_24 ?_ | refine v_iadd C dX5_worst_24 ?_
        first | refine v_i2lN C dX5_worst_25 (by omega) ?_ | refine v_i2l C dX5_worst_25 ?_
        refine v_callS3_1 C (m_X5_in T B) lk_X5_76 wt_627 dX5_worst_26 ⟨Nat.le_of_ble_eq_true rfl, Nat.le_of_ble_eq_true rfl⟩ (Nat.le_of_ble_eq_true rfl) ⟨Nat.le_of_ble_eq_true rfl, Nat.le_of_ble_eq_true rfl⟩ ?_
        refine c_inN_o (n := 2 + st.2.1 k 2 0) (by omega) (by rw [show 2 + st.2.1 k 2 0 + 1 = 3 + st.2.1 k 2 0 by omega]; exact hq) ?_
        first | refine v_if_neN C 39 dX5_worst_29 (by omega) (by decide) (fun h29 => ?_) (fun h29 => ?_) | refine v_if_ne C 39 dX5_worst_29 (by decide) (fun h29 => ?_) (fun h29 => ?_)
        · exact absurd h29 (by decide)
        · refine v_aload_n C dX5_worst_32 rfl ?_
          refine v_bipush (v := -2) C dX5_worst_33 (by decide) ?_
          refine v_callV1_2 C (m_X5_refuseLong T B) lk_X5_143 ⟨wt_739, ws_28⟩ 5 rfl dX5_worst_35 ⟨Nat.le_of_ble_eq_true rfl, Nat.le_of_ble_eq_true rfl⟩ (Nat.le_of_ble_eq_true rfl) ⟨Nat.le_of_ble_eq_true rfl, Nat.le_of_ble_eq_true rfl⟩ (by assumption) (cTo_5 (by assumption)) ?_
          refine c_X5_refuseLong (k := 2) hM (by decide) (by decide) ?_
          refine v_lret C Q dX5_worst_38 (Nat.le_of_ble_eq_true rfl) (Nat.le_of_ble_eq_true rfl) ?_
          have w := Mq_rf (k := 2) hR (by decide) hp
          exact w
      · exact absurd h5 (by decide)
    · rw [onS_k hv (by omega)] at hp
      by_cases hmm : (st.2.1 k 2 0 ≤ 3 ∧ st.2.1 k 4 0 ≤ 64) ∧ (st.2.1 k 2 0 = 3 → st.2.1 k 4 0 ≤ 16)
      · rw [if_pos hmm] at hp
        obtain ⟨r1, r2⟩ := w_room hmm.1 hmm.2
        have hsm := wsW_sm hOk
        obtain ⟨z1, z2, z3, z4, z5⟩ := rsM_is hOk
        have hPl := fun n j => prt_lt hOk n j
        have hd3 := hmm.1.1
        have hc64 := hmm.1.2
        have hc48 := c48 o6 o3
        have hcp := c_pos o5 (st.2.1 k 2 0)
        have hwr : ∀ q, worW (st.2.1 k) q = if q < 2 then frc (wsW (st.2.1 k)).1 (st.2.1 k 4 0 ^ st.2.1 k 2 0) (decide (q = 1)) else if q = 2 then lN (b2 (wsW (st.2.1 k)).2.1) else lN ((wsW (st.2.1 k)).2.2 (q - 3)) := fun _ => rfl
        have hrs : rsM (st.2.1 k) = mse (moM (st.2.1 k) true) (moM (st.2.1 k) false) (voM (st.2.1 k)) (vcM (st.2.1 k)) ((st.2.1 k 4 0 + 1) ^ st.2.1 k 2 0) 0 (false, lN 0, 0, false) := rfl
        have hvo : ∀ x, voM (st.2.1 k) x = lN (prodN (hX (st.2.1 k 4 0 + 1) (st.2.1 k 2 0) x) (st.2.1 k 2 0)) - lN (inW (st.2.1 k) (fun j => nI (hX (st.2.1 k 4 0 + 1) (st.2.1 k 2 0) x j)) false (st.2.1 k 4 0) * st.2.1 k 4 0 ^ (st.2.1 k 2 0 - 1)) := fun _ => rfl
        have hvc : ∀ x, vcM (st.2.1 k) x = -(lN (prodN (hX (st.2.1 k 4 0 + 1) (st.2.1 k 2 0) x) (st.2.1 k 2 0)) - lN (inW (st.2.1 k) (fun j => nI (hX (st.2.1 k 4 0 + 1) (st.2.1 k 2 0) x j)) true (st.2.1 k 4 0) * st.2.1 k 4 0 ^ (st.2.1 k 2 0 - 1))) := fun _ => rfl
        have hmo : ∀ op x, moM (st.2.1 k) op x = allD (fun j => (op && decide (hX (st.2.1 k 4 0 + 1) (st.2.1 k 2 0) x j = st.2.1 k 4 0)) || flW (prt (st.2.1 k)) (st.2.1 k 4 0) j (hX (st.2.1 k 4 0 + 1) (st.2.1 k 2 0) x j)) (st.2.1 k 2 0) (st.2.1 k 2 0) := fun op x => (allD_B _).symm
        have hkx := MsR.up (I' := I) hMs0 (fun _ _ _ _ => rfl)
        generalize hDe : st.2.1 k = D at *
        generalize hrse : rsM D = rs at *
        generalize hmoe : moM D = mo at *
        generalize hvoe : voM D = vo at *
        generalize hvce : vcM D = vc at *
        generalize hd0 : D 2 0 = d at *
        generalize hc0 : D 4 0 = c at *
        generalize hN0 : (c + 1) ^ d = N at *
        generalize hP0 : prt D = P at *
        have scq : ∀ {I' : MI} {Q : MI → MJ → Prop}, FrS I I' (M + 18) (M + 19) → Mq M st I J Q → Q I' J := fun hF q => Mq_scr hR (hF.wide (by omega) (by omega)) (fun _ _ _ => rfl) q
        -- the answer
        have ans : ∀ I' : MI, FrS I I' (M + 18) (M + 19) → V X 0 0 z S I' J R 454 [some (.ref M), some (.int (nI k)), some (.int (nI v)), some (.int (nI c)), some (.long rs.2.1), none, some (.int (nI (b2 rs.1))), some (.int (nI rs.2.2.1)), some (.int (nI (b2 rs.2.2.2))), some (.int (nI N)), some (.int (nI (N))), none, none, none, none, none, none] [] := by
          intro I' hF
          have c2 : I' (M + 2) k = nI d := (hF _ _ (by omega)).trans hk2
          have hfl : ∀ m : Nat, m + (v - 3) < d → 3 ≤ v → ∀ f : Nat, f = rs.2.2.1 / (c + 1) ^ (d - 1 - (m + (v - 3))) → V X 0 0 z S I' J R 511 [some (.ref M), some (.int (nI k)), some (.int (nI v)), some (.int (nI c)), none, none, none, some (.int (nI f)), none, none, some (.int (nI (m + (v - 3)))), none, none, none, none, none, none] [] := by
            intro m
            induction m with
            | zero =>
              intro hm h3 f hf
              have hfl : f ≤ rs.2.2.1 := by rw [hf]; exact Nat.div_le_self _ _
              have hml : f % (c + 1) < c + 1 := Nat.mod_lt _ (by omega)
              have e : worW D v = lN (f % (c + 1)) := by
                rw [hwr, if_neg (by omega), if_neg (by omega), z4]
                show lN (rs.2.2.1 / (c + 1) ^ (d - 1 - (v - 3)) % (c + 1)) = _
                rw [hf, Nat.zero_add]
              rw [e] at hp
              refine v_iload C dX5_worst_511 rfl ?_
              refine v_iload_n C dX5_worst_513 rfl ?_
              refine v_iconstN 3 C dX5_worst_514 ?_
              first | refine v_isubN C dX5_worst_515 (by omega) ?_ | refine v_isub C dX5_worst_515 ?_
              first | refine v_icmp_leN C 533 dX5_worst_516 (by omega) (by omega) (by decide) (fun h516 => ?_) (fun h516 => ?_) | refine v_icmp_le C 533 dX5_worst_516 (by decide) (fun h516 => ?_) (fun h516 => ?_)
              · refine v_iload C dX5_worst_533 rfl ?_
                refine v_iload_n C dX5_worst_535 rfl ?_
                refine v_iconstN 1 C dX5_worst_536 ?_
                first | refine v_iaddN C dX5_worst_537 ?_ | refine v_iadd C dX5_worst_537 ?_
                first | refine v_iremN C dX5_worst_538 (by omega) (by omega) (by omega) ?_ | refine v_irem C dX5_worst_538 (by assumption) ?_
                first | refine v_i2lN C dX5_worst_539 (by omega) ?_ | refine v_i2l C dX5_worst_539 ?_
                refine v_lret C Q dX5_worst_540 (Nat.le_of_ble_eq_true rfl) (Nat.le_of_ble_eq_true rfl) ?_
                have w := scq hF hp
                exact w
              · exact absurd h516 (by omega)
            | succ m ih =>
              intro hm h3 f hf
              have hfl : f ≤ rs.2.2.1 := by rw [hf]; exact Nat.div_le_self _ _
              have hh := ih (by omega) h3 (f / (c + 1)) (by
                rw [hf, Nat.div_div_eq_div_mul, ← Nat.pow_succ]
                congr 2
                omega)
              refine v_iload C dX5_worst_511 rfl ?_
              refine v_iload_n C dX5_worst_513 rfl ?_
              refine v_iconstN 3 C dX5_worst_514 ?_
              first | refine v_isubN C dX5_worst_515 (by omega) ?_ | refine v_isub C dX5_worst_515 ?_
              first | refine v_icmp_leN C 533 dX5_worst_516 (by omega) (by omega) (by decide) (fun h516 => ?_) (fun h516 => ?_) | refine v_icmp_le C 533 dX5_worst_516 (by decide) (fun h516 => ?_) (fun h516 => ?_)
              · exact absurd h516 (by omega)
              · refine v_iload C dX5_worst_519 rfl ?_
                refine v_iload_n C dX5_worst_521 rfl ?_
                refine v_iconstN 1 C dX5_worst_522 ?_
                first | refine v_iaddN C dX5_worst_523 ?_ | refine v_iadd C dX5_worst_523 ?_
                first | refine v_idivN C dX5_worst_524 (by omega) (by omega) (by omega) ?_ | refine v_idiv C dX5_worst_524 (by assumption) ?_
                refine v_istore C dX5_worst_525 (by decide) ?_
                refine v_iinc C dX5_worst_527 rfl (show nI (m + 1 + (v - 3)) + Int32.ofInt (-1) = nI (m + (v - 3)) from by rw [show m + 1 + (v - 3) = m + (v - 3) + 1 by omega]; exact nI_dec _) (by decide) ?_
                refine v_goto C 511 dX5_worst_530 (by decide) ?_
                exact v_less hh (by repeat (first | exact trivial | refine And.intro rfl ?_))
          refine v_iload_n C dX5_worst_454 rfl ?_
          refine v_iconstN 2 C dX5_worst_455 ?_
          first | refine v_icmp_geN C 485 dX5_worst_456 (by omega) (by omega) (by decide) (fun h456 => ?_) (fun h456 => ?_) | refine v_icmp_ge C 485 dX5_worst_456 (by decide) (fun h456 => ?_) (fun h456 => ?_)
          · refine v_iload_n C dX5_worst_485 rfl ?_
            refine v_iconstN 2 C dX5_worst_486 ?_
            first | refine v_icmp_neN C 501 dX5_worst_487 (by omega) (by omega) (by decide) (fun h487 => ?_) (fun h487 => ?_) | refine v_icmp_ne C 501 dX5_worst_487 (by decide) (fun h487 => ?_) (fun h487 => ?_)
            · refine v_aload_n C dX5_worst_501 rfl ?_
              refine g_5_2 C (by assumption) (by assumption) wt_535 dX5_worst_502 ?_
              refine v_iload_n C dX5_worst_505 rfl ?_
              first | refine v_ialdN C (by assumption) (by omega) (by omega) dX5_worst_506 ?_ | refine v_iald C (by assumption) (by assumption) dX5_worst_506 ?_
              rw [c2]
              refine v_iconstN 1 C dX5_worst_507 ?_
              first | refine v_isubN C dX5_worst_508 (by omega) ?_ | refine v_isub C dX5_worst_508 ?_
              refine v_istore C dX5_worst_509 (by decide) ?_
              have hh := hfl (d - 1 - (v - 3)) (by omega) (by omega) rs.2.2.1 (by rw [show d - 1 - (d - 1 - (v - 3) + (v - 3)) = 0 by omega, Nat.pow_zero, Nat.div_one])
              rw [show d - 1 - (v - 3) + (v - 3) = d - 1 by omega] at hh
              exact v_less hh (by repeat (first | exact trivial | refine And.intro rfl ?_))
            · have e : worW D v = lN (b2 rs.2.2.2) := by rw [hwr, if_neg (by omega), if_pos h487, z3]
              rw [e] at hp
              refine v_iload C dX5_worst_490 rfl ?_
              refine v_if_eq C 499 dX5_worst_492 (by decide) (fun h492 => ?_) (fun h492 => ?_)
              · have hb : rs.2.2.2 = false := by
                  cases hq : rs.2.2.2 with
                  | false => rfl
                  | true => rw [hq] at h492; exact absurd h492 (by decide)
                rw [hb] at hp
                refine v_lconst (v := lN 0) C dX5_worst_499 rfl ?_
                refine v_lret C Q dX5_worst_500 (Nat.le_of_ble_eq_true rfl) (Nat.le_of_ble_eq_true rfl) ?_
                have w := scq hF hp
                exact w
              · have hb : rs.2.2.2 = true := by
                  cases hq : rs.2.2.2 with
                  | true => rfl
                  | false => rw [hq] at h492; exact absurd rfl h492
                rw [hb] at hp
                refine v_lconst (v := lN 1) C dX5_worst_495 rfl ?_
                refine v_goto C 500 dX5_worst_496 (by decide) ?_
                refine v_lret C Q dX5_worst_500 (Nat.le_of_ble_eq_true rfl) (Nat.le_of_ble_eq_true rfl) ?_
                have w := scq hF hp
                exact w
          · have e : worW D v = frc rs.2.1 (c ^ d) (decide (v = 1)) := by rw [hwr, if_pos h456, z2]
            rw [e] at hp
            refine v_lload C dX5_worst_459 rfl ?_
            refine v_iload_n C dX5_worst_461 rfl ?_
            first | refine v_i2lN C dX5_worst_462 (by omega) ?_ | refine v_i2l C dX5_worst_462 ?_
            refine v_aload_n C dX5_worst_463 rfl ?_
            refine g_5_2 C (by assumption) (by assumption) wt_535 dX5_worst_464 ?_
            refine v_iload_n C dX5_worst_467 rfl ?_
            first | refine v_ialdN C (by assumption) (by omega) (by omega) dX5_worst_468 ?_ | refine v_iald C (by assumption) (by assumption) dX5_worst_468 ?_
            rw [c2]
            refine v_callS2_2 C (m_X5_power T B) lk_X5_140 wt_751 dX5_worst_469 ⟨Nat.le_of_ble_eq_true rfl, Nat.le_of_ble_eq_true rfl⟩ (Nat.le_of_ble_eq_true rfl) ⟨Nat.le_of_ble_eq_true rfl, Nat.le_of_ble_eq_true rfl⟩ ?_
            refine c_X5_power (by omega) ?_
            refine v_iload_n C dX5_worst_472 rfl ?_
            first | refine v_if_neN C 480 dX5_worst_473 (by omega) (by decide) (fun h473 => ?_) (fun h473 => ?_) | refine v_if_ne C 480 dX5_worst_473 (by decide) (fun h473 => ?_) (fun h473 => ?_)
            · rw [show decide (v = 1) = decide (0 = 0) from by rw [decide_eq_true (show v = 1 by omega), decide_eq_true rfl]] at hp
              refine v_iconstN 0 C dX5_worst_480 ?_
              refine v_callS3_2 C (m_X5_ratio T B) lk_X5_151 wt_754 dX5_worst_481 ⟨Nat.le_of_ble_eq_true rfl, Nat.le_of_ble_eq_true rfl⟩ (Nat.le_of_ble_eq_true rfl) ⟨Nat.le_of_ble_eq_true rfl, Nat.le_of_ble_eq_true rfl⟩ ?_
              refine c_X5_ratio (by rw [z2]; unfold sm at hsm; omega) (by omega) hcp (by omega) ?_
              refine v_lret C Q dX5_worst_484 (Nat.le_of_ble_eq_true rfl) (Nat.le_of_ble_eq_true rfl) ?_
              have w := scq hF hp
              exact w
            · rw [show decide (v = 1) = decide (1 = 0) from by rw [decide_eq_false (show ¬ v = 1 by omega), decide_eq_false (by decide)]] at hp
              refine v_iconstN 1 C dX5_worst_476 ?_
              refine v_goto C 481 dX5_worst_477 (by decide) ?_
              refine v_callS3_2 C (m_X5_ratio T B) lk_X5_151 wt_754 dX5_worst_481 ⟨Nat.le_of_ble_eq_true rfl, Nat.le_of_ble_eq_true rfl⟩ (Nat.le_of_ble_eq_true rfl) ⟨Nat.le_of_ble_eq_true rfl, Nat.le_of_ble_eq_true rfl⟩ ?_
              refine c_X5_ratio (by rw [z2]; unfold sm at hsm; omega) (by omega) hcp (by omega) ?_
              refine v_lret C Q dX5_worst_484 (Nat.le_of_ble_eq_true rfl) (Nat.le_of_ble_eq_true rfl) ?_
              have w := scq hF hp
              exact w
        -- a value considered
        have con : ∀ (x t : Nat) (y : Int64) (s : MW) (A B2 : Bool) (I' : MI), t < 2 → x < N → s.2.2.1 ≤ N → V X 0 0 z S I' J R 442 [some (.ref M), some (.int (nI k)), some (.int (nI v)), some (.int (nI c)), some (.long (mup s y x (decide (t = 1))).2.1), none, some (.int (nI (b2 (mup s y x (decide (t = 1))).1))), some (.int (nI (mup s y x (decide (t = 1))).2.2.1)), some (.int (nI (b2 (mup s y x (decide (t = 1))).2.2.2))), some (.int (nI N)), some (.int (nI (x))), none, some (.int (nI (b2 A))), some (.int (nI (b2 B2))), some (.int (nI t)), none, none] [] → V X 0 0 z S I' J R 405 [some (.ref M), some (.int (nI k)), some (.int (nI v)), some (.int (nI c)), some (.long s.2.1), none, some (.int (nI (b2 s.1))), some (.int (nI s.2.2.1)), some (.int (nI (b2 s.2.2.2))), some (.int (nI N)), some (.int (nI (x))), none, some (.int (nI (b2 A))), some (.int (nI (b2 B2))), some (.int (nI t)), some (.long y), none] [] := by
          intro x t y s A B2 I' ht hx hs K
          cases hs1 : s.1 with
          | false =>
            have e : mup s y x (decide (t = 1)) = (true, y, x, decide (t = 1)) := by unfold mup; rw [if_neg (fun q => by rw [hs1] at q; exact absurd q.1 (by decide))]
            rw [e] at K
            refine v_iload C dX5_worst_405 rfl ?_
            first | refine v_if_eqN C 418 dX5_worst_407 (by omega) (by decide) (fun h407 => ?_) (fun h407 => ?_) | refine v_if_eq C 418 dX5_worst_407 (by decide) (fun h407 => ?_) (fun h407 => ?_)
            · refine v_iconstN 1 C dX5_worst_418 ?_
              refine v_istore C dX5_worst_419 (by decide) ?_
              refine v_lload C dX5_worst_421 rfl ?_
              refine v_lstore C dX5_worst_423 (by decide) ?_
              refine v_iload C dX5_worst_425 rfl ?_
              refine v_istore C dX5_worst_427 (by decide) ?_
              refine v_iload C dX5_worst_429 rfl ?_
              refine v_iconstN 1 C dX5_worst_431 ?_
              first | refine v_icmp_neN C 439 dX5_worst_432 (by omega) (by omega) (by decide) (fun h432 => ?_) (fun h432 => ?_) | refine v_icmp_ne C 439 dX5_worst_432 (by decide) (fun h432 => ?_) (fun h432 => ?_)
              · rw [decide_eq_false h432] at K
                refine v_iconstN 0 C dX5_worst_439 ?_
                refine v_istore C dX5_worst_440 (by decide) ?_
                exact v_less K (by repeat (first | exact trivial | refine And.intro rfl ?_))
              · rw [decide_eq_true h432] at K
                refine v_iconstN 1 C dX5_worst_435 ?_
                refine v_goto C 440 dX5_worst_436 (by decide) ?_
                refine v_istore C dX5_worst_440 (by decide) ?_
                exact v_less K (by repeat (first | exact trivial | refine And.intro rfl ?_))
            · exact absurd rfl h407
          | true =>
            refine v_iload C dX5_worst_405 rfl ?_
            first | refine v_if_eqN C 418 dX5_worst_407 (by omega) (by decide) (fun h407 => ?_) (fun h407 => ?_) | refine v_if_eq C 418 dX5_worst_407 (by decide) (fun h407 => ?_) (fun h407 => ?_)
            · exact absurd h407 (by decide)
            · refine v_lload C dX5_worst_410 rfl ?_
              refine v_lload C dX5_worst_412 rfl ?_
              refine v_lcmp C dX5_worst_414 ?_
              refine v_lcif_le C 442 dX5_worst_415 (by decide) (fun h415 => ?_) (fun h415 => ?_)
              · have e : mup s y x (decide (t = 1)) = s := by unfold mup; rw [if_pos ⟨hs1, Int64.not_lt.mpr h415⟩]
                rw [e, hs1] at K
                exact v_less K (by repeat (first | exact trivial | refine And.intro rfl ?_))
              · have e : mup s y x (decide (t = 1)) = (true, y, x, decide (t = 1)) := by unfold mup; rw [if_neg (fun q => q.2 (Int64.not_le.mp h415))]
                rw [e] at K
                refine v_iconstN 1 C dX5_worst_418 ?_
                refine v_istore C dX5_worst_419 (by decide) ?_
                refine v_lload C dX5_worst_421 rfl ?_
                refine v_lstore C dX5_worst_423 (by decide) ?_
                refine v_iload C dX5_worst_425 rfl ?_
                refine v_istore C dX5_worst_427 (by decide) ?_
                refine v_iload C dX5_worst_429 rfl ?_
                refine v_iconstN 1 C dX5_worst_431 ?_
                first | refine v_icmp_neN C 439 dX5_worst_432 (by omega) (by omega) (by decide) (fun h432 => ?_) (fun h432 => ?_) | refine v_icmp_ne C 439 dX5_worst_432 (by decide) (fun h432 => ?_) (fun h432 => ?_)
                · rw [decide_eq_false h432] at K
                  refine v_iconstN 0 C dX5_worst_439 ?_
                  refine v_istore C dX5_worst_440 (by decide) ?_
                  exact v_less K (by repeat (first | exact trivial | refine And.intro rfl ?_))
                · rw [decide_eq_true h432] at K
                  refine v_iconstN 1 C dX5_worst_435 ?_
                  refine v_goto C 440 dX5_worst_436 (by decide) ?_
                  refine v_istore C dX5_worst_440 (by decide) ?_
                  exact v_less K (by repeat (first | exact trivial | refine And.intro rfl ?_))
        -- the box of a corner, without (t 0) or with (t 1) its upper sides
        have box : ∀ (x t : Nat) (s : MW) (A B2 : Bool) (I' : MI), t < 2 → x < N → s.2.2.1 ≤ N → FrS I I' (M + 18) (M + 19) → (∀ j, j < d → I' (M + 18) j = nI (hX (c + 1) d x j)) → V X 0 0 z S I' J R 442 [some (.ref M), some (.int (nI k)), some (.int (nI v)), some (.int (nI c)), some (.long (mup s (if t = 1 then vc x else vo x) x (decide (t = 1))).2.1), none, some (.int (nI (b2 (mup s (if t = 1 then vc x else vo x) x (decide (t = 1))).1))), some (.int (nI (mup s (if t = 1 then vc x else vo x) x (decide (t = 1))).2.2.1)), some (.int (nI (b2 (mup s (if t = 1 then vc x else vo x) x (decide (t = 1))).2.2.2))), some (.int (nI N)), some (.int (nI (x))), none, some (.int (nI (b2 A))), some (.int (nI (b2 B2))), some (.int (nI t)), none, none] [] → V X 0 0 z S I' J R 371 [some (.ref M), some (.int (nI k)), some (.int (nI v)), some (.int (nI c)), some (.long s.2.1), none, some (.int (nI (b2 s.1))), some (.int (nI s.2.2.1)), some (.int (nI (b2 s.2.2.2))), some (.int (nI N)), some (.int (nI (x))), none, some (.int (nI (b2 A))), some (.int (nI (b2 B2))), some (.int (nI t)), none, none] [] := by
          intro x t s A B2 I' ht hx hs hF hc K
          have cD : MsR I' M k D := hkx.up (fun q i h1 h2 => hF q i (by omega))
          rcases (show t = 0 ∨ t = 1 by omega) with rfl | rfl
          · rw [if_neg (by decide), hvo] at K
            refine v_aload_n C dX5_worst_371 rfl ?_
            refine v_iload_n C dX5_worst_372 rfl ?_
            refine v_iload C dX5_worst_373 rfl ?_
            refine v_iconstN 1 C dX5_worst_375 ?_
            first | refine v_icmp_neN C 383 dX5_worst_376 (by omega) (by omega) (by decide) (fun h376 => ?_) (fun h376 => ?_) | refine v_icmp_ne C 383 dX5_worst_376 (by decide) (fun h376 => ?_) (fun h376 => ?_)
            · refine v_iconstN 0 C dX5_worst_383 ?_
              refine v_callV2_2 C (m_X5_cornerLess T B) lk_X5_147 ⟨wt_744, ws_29⟩ 5 rfl dX5_worst_384 ⟨Nat.le_of_ble_eq_true rfl, Nat.le_of_ble_eq_true rfl⟩ (Nat.le_of_ble_eq_true rfl) ⟨Nat.le_of_ble_eq_true rfl, Nat.le_of_ble_eq_true rfl⟩ (by assumption) (cTo_5 (by assumption)) ?_
              refine c_X5_cornerLess (h := hX (c + 1) d x) (cl := false) hM cD (by omega) hOk (by rw [hd0]; exact fun j hj => ⟨hc j hj, by have := hX_le c d x j; omega⟩) ?_
              rw [hd0, hc0]
              refine v_lstore C dX5_worst_387 (by decide) ?_
              refine v_iload C dX5_worst_389 rfl ?_
              refine v_iconstN 1 C dX5_worst_391 ?_
              first | refine v_icmp_neN C 401 dX5_worst_392 (by omega) (by omega) (by decide) (fun h392 => ?_) (fun h392 => ?_) | refine v_icmp_ne C 401 dX5_worst_392 (by decide) (fun h392 => ?_) (fun h392 => ?_)
              · refine v_lload C dX5_worst_401 rfl ?_
                refine v_lstore C dX5_worst_403 (by decide) ?_
                exact v_less (con x 0 _ s A B2 I' (by decide) hx hs K) (by repeat (first | exact trivial | refine And.intro rfl ?_))
              · exact absurd h392 (by decide)
            · exact absurd h376 (by decide)
          · rw [if_pos rfl, hvc] at K
            refine v_aload_n C dX5_worst_371 rfl ?_
            refine v_iload_n C dX5_worst_372 rfl ?_
            refine v_iload C dX5_worst_373 rfl ?_
            refine v_iconstN 1 C dX5_worst_375 ?_
            first | refine v_icmp_neN C 383 dX5_worst_376 (by omega) (by omega) (by decide) (fun h376 => ?_) (fun h376 => ?_) | refine v_icmp_ne C 383 dX5_worst_376 (by decide) (fun h376 => ?_) (fun h376 => ?_)
            · exact absurd rfl h376
            · refine v_iconstN 1 C dX5_worst_379 ?_
              refine v_goto C 384 dX5_worst_380 (by decide) ?_
              refine v_callV2_2 C (m_X5_cornerLess T B) lk_X5_147 ⟨wt_744, ws_29⟩ 5 rfl dX5_worst_384 ⟨Nat.le_of_ble_eq_true rfl, Nat.le_of_ble_eq_true rfl⟩ (Nat.le_of_ble_eq_true rfl) ⟨Nat.le_of_ble_eq_true rfl, Nat.le_of_ble_eq_true rfl⟩ (by assumption) (cTo_5 (by assumption)) ?_
              refine c_X5_cornerLess (h := hX (c + 1) d x) (cl := true) hM cD (by omega) hOk (by rw [hd0]; exact fun j hj => ⟨hc j hj, by have := hX_le c d x j; omega⟩) ?_
              rw [hd0, hc0]
              refine v_lstore C dX5_worst_387 (by decide) ?_
              refine v_iload C dX5_worst_389 rfl ?_
              refine v_iconstN 1 C dX5_worst_391 ?_
              first | refine v_icmp_neN C 401 dX5_worst_392 (by omega) (by omega) (by decide) (fun h392 => ?_) (fun h392 => ?_) | refine v_icmp_ne C 401 dX5_worst_392 (by decide) (fun h392 => ?_) (fun h392 => ?_)
              · exact absurd rfl h392
              · refine v_lload C dX5_worst_395 rfl ?_
                refine v_lneg C dX5_worst_397 ?_
                refine v_goto C 403 dX5_worst_398 (by decide) ?_
                refine v_lstore C dX5_worst_403 (by decide) ?_
                exact v_less (con x 1 _ s A B2 I' (by decide) hx hs K) (by repeat (first | exact trivial | refine And.intro rfl ?_))
        have mupN : ∀ (s : MW) (y : Int64) (x : Nat) (b : Bool), x < N → s.2.2.1 ≤ N → (mup s y x b).2.2.1 ≤ N := fun s y x b hx hs => by
          unfold mup
          by_cases e : s.1 = true ∧ ¬ s.2.1 < y
          · rw [if_pos e]; exact hs
          · rw [if_neg e]; exact Nat.le_of_lt hx
        -- both boxes of a corner
        have two : ∀ (x : Nat) (s : MW) (I' : MI), x < N → s.2.2.1 ≤ N → FrS I I' (M + 18) (M + 19) → (∀ j, j < d → I' (M + 18) j = nI (hX (c + 1) d x j)) → V X 0 0 z S I' J R 201 [some (.ref M), some (.int (nI k)), some (.int (nI v)), some (.int (nI c)), some (.long (mwC (mo false) vc x (mwO (mo true) vo x s)).2.1), none, some (.int (nI (b2 (mwC (mo false) vc x (mwO (mo true) vo x s)).1))), some (.int (nI (mwC (mo false) vc x (mwO (mo true) vo x s)).2.2.1)), some (.int (nI (b2 (mwC (mo false) vc x (mwO (mo true) vo x s)).2.2.2))), some (.int (nI N)), some (.int (nI (x + 1))), none, none, none, none, none, none] [] → V X 0 0 z S I' J R 344 [some (.ref M), some (.int (nI k)), some (.int (nI v)), some (.int (nI c)), some (.long s.2.1), none, some (.int (nI (b2 s.1))), some (.int (nI s.2.2.1)), some (.int (nI (b2 s.2.2.2))), some (.int (nI N)), some (.int (nI (x))), none, some (.int (nI (b2 (mo true x)))), some (.int (nI (b2 (mo false x)))), none, none, none] [] := by
          intro x s I' hx hs hF hc K
          have t2 : ∀ s2 : MW, s2 = mwC (mo false) vc x (mwO (mo true) vo x s) → V X 0 0 z S I' J R 442 [some (.ref M), some (.int (nI k)), some (.int (nI v)), some (.int (nI c)), some (.long s2.2.1), none, some (.int (nI (b2 s2.1))), some (.int (nI s2.2.2.1)), some (.int (nI (b2 s2.2.2.2))), some (.int (nI N)), some (.int (nI (x))), none, some (.int (nI (b2 (mo true x)))), some (.int (nI (b2 (mo false x)))), some (.int (nI 1)), none, none] [] := by
            intro s2 h2
            subst h2
            first | refine v_iincN 1 C dX5_worst_442 rfl (by decide) ?_ | refine v_iinc C dX5_worst_442 rfl rfl (by decide) ?_
            refine v_goto C 347 dX5_worst_445 (by decide) ?_
            refine v_iload C dX5_worst_347 rfl ?_
            refine v_iconstN 2 C dX5_worst_349 ?_
            first | refine v_icmp_geN C 448 dX5_worst_350 (by omega) (by omega) (by decide) (fun h350 => ?_) (fun h350 => ?_) | refine v_icmp_ge C 448 dX5_worst_350 (by decide) (fun h350 => ?_) (fun h350 => ?_)
            · first | refine v_iincN 1 C dX5_worst_448 rfl (by decide) ?_ | refine v_iinc C dX5_worst_448 rfl rfl (by decide) ?_
              refine v_goto C 201 dX5_worst_451 (by decide) ?_
              exact v_less K (by repeat (first | exact trivial | refine And.intro rfl ?_))
            · exact absurd h350 (by decide)
          have t1 : ∀ s1 : MW, s1 = mwO (mo true) vo x s → s1.2.2.1 ≤ N → V X 0 0 z S I' J R 442 [some (.ref M), some (.int (nI k)), some (.int (nI v)), some (.int (nI c)), some (.long s1.2.1), none, some (.int (nI (b2 s1.1))), some (.int (nI s1.2.2.1)), some (.int (nI (b2 s1.2.2.2))), some (.int (nI N)), some (.int (nI (x))), none, some (.int (nI (b2 (mo true x)))), some (.int (nI (b2 (mo false x)))), some (.int (nI 0)), none, none] [] := by
            intro s1 h1 hs1
            first | refine v_iincN 1 C dX5_worst_442 rfl (by decide) ?_ | refine v_iinc C dX5_worst_442 rfl rfl (by decide) ?_
            refine v_goto C 347 dX5_worst_445 (by decide) ?_
            refine v_iload C dX5_worst_347 rfl ?_
            refine v_iconstN 2 C dX5_worst_349 ?_
            first | refine v_icmp_geN C 448 dX5_worst_350 (by omega) (by omega) (by decide) (fun h350 => ?_) (fun h350 => ?_) | refine v_icmp_ge C 448 dX5_worst_350 (by decide) (fun h350 => ?_) (fun h350 => ?_)
            · exact absurd h350 (by decide)
            · refine v_iload C dX5_worst_353 rfl ?_
              first | refine v_if_neN C 366 dX5_worst_355 (by omega) (by decide) (fun h355 => ?_) (fun h355 => ?_) | refine v_if_ne C 366 dX5_worst_355 (by decide) (fun h355 => ?_) (fun h355 => ?_)
              · refine v_iload C dX5_worst_366 rfl ?_
                refine v_if_eq C 442 dX5_worst_368 (by decide) (fun h368 => ?_) (fun h368 => ?_)
                · have hb : mo false x = false := by
                    cases hq : mo false x with
                    | false => rfl
                    | true => rw [hq] at h368; exact absurd h368 (by decide)
                  exact v_less (t2 s1 (by rw [← h1]; unfold mwC; rw [hb, if_neg (by decide)])) (by repeat (first | exact trivial | refine And.intro rfl ?_))
                · have hb : mo false x = true := by
                    cases hq : mo false x with
                    | true => rfl
                    | false => rw [hq] at h368; exact absurd rfl h368
                  exact v_less (box x 1 s1 _ _ I' (by decide) hx hs1 hF hc (t2 _ (by rw [← h1]; unfold mwC; rw [hb, if_pos rfl, if_pos rfl]; rfl))) (by repeat (first | exact trivial | refine And.intro rfl ?_))
              · exact absurd h355 (by decide)
          refine v_iconstN 0 C dX5_worst_344 ?_
          refine v_istore C dX5_worst_345 (by decide) ?_
          refine v_iload C dX5_worst_347 rfl ?_
          refine v_iconstN 2 C dX5_worst_349 ?_
          first | refine v_icmp_geN C 448 dX5_worst_350 (by omega) (by omega) (by decide) (fun h350 => ?_) (fun h350 => ?_) | refine v_icmp_ge C 448 dX5_worst_350 (by decide) (fun h350 => ?_) (fun h350 => ?_)
          · exact absurd h350 (by decide)
          · refine v_iload C dX5_worst_353 rfl ?_
            first | refine v_if_neN C 366 dX5_worst_355 (by omega) (by decide) (fun h355 => ?_) (fun h355 => ?_) | refine v_if_ne C 366 dX5_worst_355 (by decide) (fun h355 => ?_) (fun h355 => ?_)
            · exact absurd rfl h355
            · refine v_iload C dX5_worst_358 rfl ?_
              refine v_if_eq C 442 dX5_worst_360 (by decide) (fun h360 => ?_) (fun h360 => ?_)
              · have hb : mo true x = false := by
                  cases hq : mo true x with
                  | false => rfl
                  | true => rw [hq] at h360; exact absurd h360 (by decide)
                exact v_less (t1 s (by unfold mwO; rw [hb, if_neg (by decide)]) hs) (by repeat (first | exact trivial | refine And.intro rfl ?_))
              · have hb : mo true x = true := by
                  cases hq : mo true x with
                  | true => rfl
                  | false => rw [hq] at h360; exact absurd rfl h360
                refine v_goto C 371 dX5_worst_363 (by decide) ?_
                exact v_less (box x 0 s _ _ I' (by decide) hx hs hF hc (t1 _ (by unfold mwO; rw [hb, if_pos rfl, if_neg (by decide)]; rfl) (mupN _ _ _ _ hx hs))) (by repeat (first | exact trivial | refine And.intro rfl ?_))
        -- the digits of a corner
        have dig : ∀ (x : Nat) (s : MW), x < N → s.2.2.1 ≤ N → (∀ I' : MI, FrS I I' (M + 18) (M + 19) → (∀ j u, j < d → u ≤ 64 → I' (M + 19) (65 * j + u) = nI (b2 (flW P c j u))) → V X 0 0 z S I' J R 201 [some (.ref M), some (.int (nI k)), some (.int (nI v)), some (.int (nI c)), some (.long (mwC (mo false) vc x (mwO (mo true) vo x s)).2.1), none, some (.int (nI (b2 (mwC (mo false) vc x (mwO (mo true) vo x s)).1))), some (.int (nI (mwC (mo false) vc x (mwO (mo true) vo x s)).2.2.1)), some (.int (nI (b2 (mwC (mo false) vc x (mwO (mo true) vo x s)).2.2.2))), some (.int (nI N)), some (.int (nI (x + 1))), none, none, none, none, none, none] []) → ∀ m e : Nat, e + m = d → ∀ I' : MI, FrS I I' (M + 18) (M + 19) → (∀ j u, j < d → u ≤ 64 → I' (M + 19) (65 * j + u) = nI (b2 (flW P c j u))) → (∀ j, m ≤ j → j < d → I' (M + 18) j = nI (hX (c + 1) d x j)) → V X 0 0 z S I' J R 228 [some (.ref M), some (.int (nI k)), some (.int (nI v)), some (.int (nI c)), some (.long s.2.1), none, some (.int (nI (b2 s.1))), some (.int (nI s.2.2.1)), some (.int (nI (b2 s.2.2.2))), some (.int (nI N)), some (.int (nI (x))), some (.int (nI (x / (c + 1) ^ e))), some (.int (nI (b2 (allD (fun j => (true && decide (hX (c + 1) d x j = c)) || flW P c j (hX (c + 1) d x j)) d e)))), some (.int (nI (b2 (allD (fun j => (false && decide (hX (c + 1) d x j = c)) || flW P c j (hX (c + 1) d x j)) d e)))), some (.int (jv m)), none, none] [] := by
          intro x s hx hs K m
          induction m with
          | zero =>
            intro e he I' hF hfl hc
            obtain rfl : e = d := by omega
            rw [← hmo true x, ← hmo false x]
            refine v_iload C dX5_worst_228 rfl ?_
            refine v_if_lt C 344 dX5_worst_230 (by decide) (fun h230 => ?_) (fun h230 => ?_)
            · exact v_less (two x s I' hx hs hF (fun j hj => hc j (Nat.zero_le _) hj) (K I' hF hfl)) (by repeat (first | exact trivial | refine And.intro rfl ?_))
            · exact absurd jv_0 h230
          | succ m ih =>
            intro e he I' hF hfl hc
            have hxe : x / (c + 1) ^ e ≤ x := Nat.div_le_self _ _
            have hdg : x / (c + 1) ^ e % (c + 1) = hX (c + 1) d x m := by unfold hX; rw [show d - 1 - m = e by omega]
            have hdl := hX_le c d x m
            have hdv : x / (c + 1) ^ e / (c + 1) = x / (c + 1) ^ (e + 1) := by rw [Nat.div_div_eq_div_mul, ← Nat.pow_succ]
            rw [jv_s]
            generalize hh : hX (c + 1) d x m = h at *
            have c18 : mu I' (M + 18) m (nI h) (M + 18) m = nI h := mu_at _ _ _ _
            have f19 : mu I' (M + 18) m (nI h) (M + 19) (65 * m + h) = nI (b2 (flW P c m h)) := by rw [mu_ne _ _ (by omega)]; exact hfl m h (by omega) (by omega)
            have hflc : h = c → flW P c m h = false := fun q => by
              subst q
              unfold flW
              rw [qc_0 (fun i => by have := hPl i m; omega)]; rfl
            have rec2 : ∀ A B2 : Bool, A = allD (fun j => (true && decide (hX (c + 1) d x j = c)) || flW P c j (hX (c + 1) d x j)) d (e + 1) → B2 = allD (fun j => (false && decide (hX (c + 1) d x j = c)) || flW P c j (hX (c + 1) d x j)) d (e + 1) → V X 0 0 z S (mu I' (M + 18) m (nI h)) J R 338 [some (.ref M), some (.int (nI k)), some (.int (nI v)), some (.int (nI c)), some (.long s.2.1), none, some (.int (nI (b2 s.1))), some (.int (nI s.2.2.1)), some (.int (nI (b2 s.2.2.2))), some (.int (nI N)), some (.int (nI (x))), some (.int (nI (x / (c + 1) ^ (e + 1)))), some (.int (nI (b2 A))), some (.int (nI (b2 B2))), some (.int (nI m)), none, none] [] := by
              intro A B2 hA hB
              subst hA hB
              have hh2 := ih (e + 1) (by omega) _ (hF.mu (b := M + 18) (k := m) (x := nI h) (by omega) (by omega)) (fun j u q1 q2 => by rw [mu_ne _ _ (by omega)]; exact hfl j u q1 q2) (fun j q1 q2 => by
                by_cases ej : j = m
                · subst ej; rw [mu_at, hh]
                · rw [mu_other _ _ (fun q => ej q.2)]; exact hc j (by omega) q2)
              refine v_iinc C dX5_worst_338 rfl (jv_dec m) (by decide) ?_
              refine v_goto C 228 dX5_worst_341 (by decide) ?_
              exact v_less hh2 (by repeat (first | exact trivial | refine And.intro rfl ?_))
            have aD : ∀ (op : Bool), allD (fun j => (op && decide (hX (c + 1) d x j = c)) || flW P c j (hX (c + 1) d x j)) d (e + 1) = (allD (fun j => (op && decide (hX (c + 1) d x j = c)) || flW P c j (hX (c + 1) d x j)) d e && ((op && decide (h = c)) || flW P c m h)) := fun op => by
              show (_ && ((op && decide (hX (c + 1) d x (d - (e + 1)) = c)) || flW P c (d - (e + 1)) (hX (c + 1) d x (d - (e + 1))))) = _
              rw [show d - (e + 1) = m by omega, hh]
            have opn1 : ∀ (f B2 : Bool), f = flW P c m h → B2 = allD (fun j => (false && decide (hX (c + 1) d x j = c)) || flW P c j (hX (c + 1) d x j)) d (e + 1) → V X 0 0 z S (mu I' (M + 18) m (nI h)) J R 310 [some (.ref M), some (.int (nI k)), some (.int (nI v)), some (.int (nI c)), some (.long s.2.1), none, some (.int (nI (b2 s.1))), some (.int (nI s.2.2.1)), some (.int (nI (b2 s.2.2.2))), some (.int (nI N)), some (.int (nI (x))), some (.int (nI (x / (c + 1) ^ (e + 1)))), some (.int (nI (b2 (allD (fun j => (true && decide (hX (c + 1) d x j = c)) || flW P c j (hX (c + 1) d x j)) d e)))), some (.int (nI (b2 B2))), some (.int (nI m)), some (.int (nI (b2 f))), none] [] := by
              intro f B2 hf hB
              have aD1 := aD true
              rw [← hf] at aD1
              generalize allD (fun j => (true && decide (hX (c + 1) d x j = c)) || flW P c j (hX (c + 1) d x j)) d e = g at aD1 ⊢
              cases g with
              | false =>
                refine v_iload C dX5_worst_310 rfl ?_
                first | refine v_if_eqN C 335 dX5_worst_312 (by omega) (by decide) (fun h312 => ?_) (fun h312 => ?_) | refine v_if_eq C 335 dX5_worst_312 (by decide) (fun h312 => ?_) (fun h312 => ?_)
                · refine v_iconstN 0 C dX5_worst_335 ?_
                  refine v_istore C dX5_worst_336 (by decide) ?_
                  exact v_less (rec2 false B2 (by rw [aD1]; rfl) hB) (by repeat (first | exact trivial | refine And.intro rfl ?_))
                · exact absurd rfl h312
              | true =>
                cases f with
                | true =>
                  refine v_iload C dX5_worst_310 rfl ?_
                  first | refine v_if_eqN C 335 dX5_worst_312 (by omega) (by decide) (fun h312 => ?_) (fun h312 => ?_) | refine v_if_eq C 335 dX5_worst_312 (by decide) (fun h312 => ?_) (fun h312 => ?_)
                  · exact absurd h312 (by decide)
                  · refine v_iload C dX5_worst_315 rfl ?_
                    first | refine v_if_neN C 331 dX5_worst_317 (by omega) (by decide) (fun h317 => ?_) (fun h317 => ?_) | refine v_if_ne C 331 dX5_worst_317 (by decide) (fun h317 => ?_) (fun h317 => ?_)
                    · refine v_iconstN 1 C dX5_worst_331 ?_
                      refine v_goto C 336 dX5_worst_332 (by decide) ?_
                      refine v_istore C dX5_worst_336 (by decide) ?_
                      exact v_less (rec2 true B2 (by rw [aD1, Bool.or_true]; rfl) hB) (by repeat (first | exact trivial | refine And.intro rfl ?_))
                    · exact absurd h317 (by decide)
                | false =>
                  refine v_iload C dX5_worst_310 rfl ?_
                  first | refine v_if_eqN C 335 dX5_worst_312 (by omega) (by decide) (fun h312 => ?_) (fun h312 => ?_) | refine v_if_eq C 335 dX5_worst_312 (by decide) (fun h312 => ?_) (fun h312 => ?_)
                  · exact absurd h312 (by decide)
                  · refine v_iload C dX5_worst_315 rfl ?_
                    first | refine v_if_neN C 331 dX5_worst_317 (by omega) (by decide) (fun h317 => ?_) (fun h317 => ?_) | refine v_if_ne C 331 dX5_worst_317 (by decide) (fun h317 => ?_) (fun h317 => ?_)
                    · exact absurd h317 (by decide)
                    · refine v_aload_n C dX5_worst_320 rfl ?_
                      refine g_5_19 C (by assumption) (by assumption) wt_552 dX5_worst_321 ?_
                      refine v_iload C dX5_worst_324 rfl ?_
                      first | refine v_ialdN C (by assumption) (by omega) (by omega) dX5_worst_326 ?_ | refine v_iald C (by assumption) (by assumption) dX5_worst_326 ?_
                      rw [c18]
                      refine v_iload_n C dX5_worst_327 rfl ?_
                      first | refine v_icmp_neN C 335 dX5_worst_328 (by omega) (by omega) (by decide) (fun h328 => ?_) (fun h328 => ?_) | refine v_icmp_ne C 335 dX5_worst_328 (by decide) (fun h328 => ?_) (fun h328 => ?_)
                      · refine v_iconstN 0 C dX5_worst_335 ?_
                        refine v_istore C dX5_worst_336 (by decide) ?_
                        first
                        | exact v_less (rec2 false B2 (by rw [aD1, decide_eq_false h328]; rfl) hB) (by repeat (first | exact trivial | refine And.intro rfl ?_))
                        | exact v_less (rec2 true B2 (by rw [aD1, decide_eq_true h328]; rfl) hB) (by repeat (first | exact trivial | refine And.intro rfl ?_))
                      · refine v_iconstN 1 C dX5_worst_331 ?_
                        refine v_goto C 336 dX5_worst_332 (by decide) ?_
                        refine v_istore C dX5_worst_336 (by decide) ?_
                        first
                        | exact v_less (rec2 false B2 (by rw [aD1, decide_eq_false h328]; rfl) hB) (by repeat (first | exact trivial | refine And.intro rfl ?_))
                        | exact v_less (rec2 true B2 (by rw [aD1, decide_eq_true h328]; rfl) hB) (by repeat (first | exact trivial | refine And.intro rfl ?_))
            have clo1 : ∀ (f : Bool), f = flW P c m h → V X 0 0 z S (mu I' (M + 18) m (nI h)) J R 291 [some (.ref M), some (.int (nI k)), some (.int (nI v)), some (.int (nI c)), some (.long s.2.1), none, some (.int (nI (b2 s.1))), some (.int (nI s.2.2.1)), some (.int (nI (b2 s.2.2.2))), some (.int (nI N)), some (.int (nI (x))), some (.int (nI (x / (c + 1) ^ (e + 1)))), some (.int (nI (b2 (allD (fun j => (true && decide (hX (c + 1) d x j = c)) || flW P c j (hX (c + 1) d x j)) d e)))), some (.int (nI (b2 (allD (fun j => (false && decide (hX (c + 1) d x j = c)) || flW P c j (hX (c + 1) d x j)) d e)))), some (.int (nI m)), none, none] [.int (nI (b2 f))] := by
              intro f hf
              have aD0 := aD false
              rw [← hf, Bool.false_and, Bool.false_or] at aD0
              generalize allD (fun j => (false && decide (hX (c + 1) d x j = c)) || flW P c j (hX (c + 1) d x j)) d e = g at aD0 ⊢
              cases g with
              | false =>
                refine v_istore C dX5_worst_291 (by decide) ?_
                refine v_iload C dX5_worst_293 rfl ?_
                first | refine v_if_eqN C 307 dX5_worst_295 (by omega) (by decide) (fun h295 => ?_) (fun h295 => ?_) | refine v_if_eq C 307 dX5_worst_295 (by decide) (fun h295 => ?_) (fun h295 => ?_)
                · refine v_iconstN 0 C dX5_worst_307 ?_
                  refine v_istore C dX5_worst_308 (by decide) ?_
                  exact v_less (opn1 f false hf (by rw [aD0]; rfl)) (by repeat (first | exact trivial | refine And.intro rfl ?_))
                · exact absurd rfl h295
              | true =>
                cases f with
                | true =>
                  refine v_istore C dX5_worst_291 (by decide) ?_
                  refine v_iload C dX5_worst_293 rfl ?_
                  first | refine v_if_eqN C 307 dX5_worst_295 (by omega) (by decide) (fun h295 => ?_) (fun h295 => ?_) | refine v_if_eq C 307 dX5_worst_295 (by decide) (fun h295 => ?_) (fun h295 => ?_)
                  · exact absurd h295 (by decide)
                  · refine v_iload C dX5_worst_298 rfl ?_
                    first | refine v_if_eqN C 307 dX5_worst_300 (by omega) (by decide) (fun h300 => ?_) (fun h300 => ?_) | refine v_if_eq C 307 dX5_worst_300 (by decide) (fun h300 => ?_) (fun h300 => ?_)
                    · exact absurd h300 (by decide)
                    · refine v_iconstN 1 C dX5_worst_303 ?_
                      refine v_goto C 308 dX5_worst_304 (by decide) ?_
                      refine v_istore C dX5_worst_308 (by decide) ?_
                      exact v_less (opn1 true true hf (by rw [aD0]; rfl)) (by repeat (first | exact trivial | refine And.intro rfl ?_))
                | false =>
                  refine v_istore C dX5_worst_291 (by decide) ?_
                  refine v_iload C dX5_worst_293 rfl ?_
                  first | refine v_if_eqN C 307 dX5_worst_295 (by omega) (by decide) (fun h295 => ?_) (fun h295 => ?_) | refine v_if_eq C 307 dX5_worst_295 (by decide) (fun h295 => ?_) (fun h295 => ?_)
                  · exact absurd h295 (by decide)
                  · refine v_iload C dX5_worst_298 rfl ?_
                    first | refine v_if_eqN C 307 dX5_worst_300 (by omega) (by decide) (fun h300 => ?_) (fun h300 => ?_) | refine v_if_eq C 307 dX5_worst_300 (by decide) (fun h300 => ?_) (fun h300 => ?_)
                    · refine v_iconstN 0 C dX5_worst_307 ?_
                      refine v_istore C dX5_worst_308 (by decide) ?_
                      exact v_less (opn1 false false hf (by rw [aD0]; rfl)) (by repeat (first | exact trivial | refine And.intro rfl ?_))
                    · exact absurd rfl h300
            refine v_iload C dX5_worst_228 rfl ?_
            first | refine v_if_ltN C 344 dX5_worst_230 (by omega) (by decide) (fun h230 => ?_) (fun h230 => ?_) | refine v_if_lt C 344 dX5_worst_230 (by decide) (fun h230 => ?_) (fun h230 => ?_)
            · exact absurd h230 (fun q => q)
            · refine v_aload_n C dX5_worst_233 rfl ?_
              refine g_5_19 C (by assumption) (by assumption) wt_552 dX5_worst_234 ?_
              refine v_iload C dX5_worst_237 rfl ?_
              refine v_iload C dX5_worst_239 rfl ?_
              refine v_iload_n C dX5_worst_241 rfl ?_
              refine v_iconstN 1 C dX5_worst_242 ?_
              first | refine v_iaddN C dX5_worst_243 ?_ | refine v_iadd C dX5_worst_243 ?_
              first | refine v_iremN C dX5_worst_244 (by omega) (by omega) (by omega) ?_ | refine v_irem C dX5_worst_244 (by assumption) ?_
              rw [hdg]
              first | refine v_iastN C (by assumption) (by omega) (by omega) dX5_worst_245 ?_ | refine v_iast C (by assumption) (by assumption) dX5_worst_245 ?_
              refine v_iload C dX5_worst_246 rfl ?_
              refine v_iload_n C dX5_worst_248 rfl ?_
              refine v_iconstN 1 C dX5_worst_249 ?_
              first | refine v_iaddN C dX5_worst_250 ?_ | refine v_iadd C dX5_worst_250 ?_
              first | refine v_idivN C dX5_worst_251 (by omega) (by omega) (by omega) ?_ | refine v_idiv C dX5_worst_251 (by assumption) ?_
              rw [hdv]
              refine v_istore C dX5_worst_252 (by decide) ?_
              refine v_aload_n C dX5_worst_254 rfl ?_
              refine g_5_19 C (by assumption) (by assumption) wt_552 dX5_worst_255 ?_
              refine v_iload C dX5_worst_258 rfl ?_
              first | refine v_ialdN C (by assumption) (by omega) (by omega) dX5_worst_260 ?_ | refine v_iald C (by assumption) (by assumption) dX5_worst_260 ?_
              rw [c18]
              refine v_iload_n C dX5_worst_261 rfl ?_
              first | refine v_icmp_geN C 290 dX5_worst_262 (by omega) (by omega) (by decide) (fun h262 => ?_) (fun h262 => ?_) | refine v_icmp_ge C 290 dX5_worst_262 (by decide) (fun h262 => ?_) (fun h262 => ?_)
              · refine v_iconstN 0 C dX5_worst_290 ?_
                first
                | exact v_less (clo1 false (by rw [hb])) (by repeat (first | exact trivial | refine And.intro rfl ?_))
                | exact v_less (clo1 true (by rw [hb])) (by repeat (first | exact trivial | refine And.intro rfl ?_))
                | exact v_less (clo1 false (by rw [hflc (by omega)])) (by repeat (first | exact trivial | refine And.intro rfl ?_))
              · refine v_aload_n C dX5_worst_265 rfl ?_
                refine g_5_20 C (by assumption) (by assumption) wt_553 dX5_worst_266 ?_
                refine v_bipushN 65 (by decide) C dX5_worst_269 ?_
                refine v_iload C dX5_worst_271 rfl ?_
                first | refine v_imulN C dX5_worst_273 ?_ | refine v_imul C dX5_worst_273 ?_
                refine v_aload_n C dX5_worst_274 rfl ?_
                refine g_5_19 C (by assumption) (by assumption) wt_552 dX5_worst_275 ?_
                refine v_iload C dX5_worst_278 rfl ?_
                first | refine v_ialdN C (by assumption) (by omega) (by omega) dX5_worst_280 ?_ | refine v_iald C (by assumption) (by assumption) dX5_worst_280 ?_
                rw [c18]
                first | refine v_iaddN C dX5_worst_281 ?_ | refine v_iadd C dX5_worst_281 ?_
                first | refine v_zaldN C (by assumption) (by omega) (by omega) dX5_worst_282 ?_ | refine v_zald C (by assumption) (by assumption) dX5_worst_282 ?_
                rw [f19]
                refine v_if_eq C 290 dX5_worst_283 (by decide) (fun h283 => ?_) (fun h283 => ?_)
                · have hb : flW P c m h = false := by
                    cases hq : flW P c m h with
                    | false => rfl
                    | true => rw [hq] at h283; exact absurd h283 (by decide)
                  refine v_iconstN 0 C dX5_worst_290 ?_
                  first
                  | exact v_less (clo1 false (by rw [hb])) (by repeat (first | exact trivial | refine And.intro rfl ?_))
                  | exact v_less (clo1 true (by rw [hb])) (by repeat (first | exact trivial | refine And.intro rfl ?_))
                  | exact v_less (clo1 false (by rw [hflc (by omega)])) (by repeat (first | exact trivial | refine And.intro rfl ?_))
                · have hb : flW P c m h = true := by
                    cases hq : flW P c m h with
                    | true => rfl
                    | false => rw [hq] at h283; exact absurd rfl h283
                  refine v_iconstN 1 C dX5_worst_286 ?_
                  refine v_goto C 291 dX5_worst_287 (by decide) ?_
                  first
                  | exact v_less (clo1 false (by rw [hb])) (by repeat (first | exact trivial | refine And.intro rfl ?_))
                  | exact v_less (clo1 true (by rw [hb])) (by repeat (first | exact trivial | refine And.intro rfl ?_))
                  | exact v_less (clo1 false (by rw [hflc (by omega)])) (by repeat (first | exact trivial | refine And.intro rfl ?_))
        have search : ∀ (f x : Nat), x + f = N → ∀ s : MW, s.2.2.1 ≤ N → mse (mo true) (mo false) vo vc f x s = rs → ∀ I' : MI, FrS I I' (M + 18) (M + 19) → (∀ j u, j < d → u ≤ 64 → I' (M + 19) (65 * j + u) = nI (b2 (flW P c j u))) → V X 0 0 z S I' J R 201 [some (.ref M), some (.int (nI k)), some (.int (nI v)), some (.int (nI c)), some (.long s.2.1), none, some (.int (nI (b2 s.1))), some (.int (nI s.2.2.1)), some (.int (nI (b2 s.2.2.2))), some (.int (nI N)), some (.int (nI (x))), none, none, none, none, none, none] [] := by
          intro f
          induction f with
          | zero =>
            intro x hx s hs hse I' hF hfl
            simp only [mse] at hse
            subst hse
            obtain rfl : x = N := by omega
            refine v_iload C dX5_worst_201 rfl ?_
            refine v_iload C dX5_worst_203 rfl ?_
            first | refine v_icmp_geN C 454 dX5_worst_205 (by omega) (by omega) (by decide) (fun h205 => ?_) (fun h205 => ?_) | refine v_icmp_ge C 454 dX5_worst_205 (by decide) (fun h205 => ?_) (fun h205 => ?_)
            · exact v_less (ans I' hF) (by repeat (first | exact trivial | refine And.intro rfl ?_))
            · exact absurd h205 (by omega)
          | succ f ih =>
            intro x hx s hs hse I' hF hfl
            simp only [mse] at hse
            have c2 : I' (M + 2) k = nI d := (hF _ _ (by omega)).trans hk2
            have hsN : (mwC (mo false) vc x (mwO (mo true) vo x s)).2.2.1 ≤ N := by
              have q1 : (mwO (mo true) vo x s).2.2.1 ≤ N := by
                unfold mwO
                by_cases e : mo true x = true
                · rw [if_pos e]; exact mupN _ _ _ _ (by omega) hs
                · rw [if_neg e]; exact hs
              unfold mwC
              by_cases e : mo false x = true
              · rw [if_pos e]; exact mupN _ _ _ _ (by omega) q1
              · rw [if_neg e]; exact q1
            have h0 := dig x s (by omega) hs (fun I2 g1 g2 => ih (x + 1) (by omega) _ hsN hse I2 g1 g2) d 0 (by omega) I' hF hfl (fun j q1 q2 => absurd q1 (by omega))
            rw [Nat.pow_zero, Nat.div_one] at h0
            refine v_iload C dX5_worst_201 rfl ?_
            refine v_iload C dX5_worst_203 rfl ?_
            first | refine v_icmp_geN C 454 dX5_worst_205 (by omega) (by omega) (by decide) (fun h205 => ?_) (fun h205 => ?_) | refine v_icmp_ge C 454 dX5_worst_205 (by decide) (fun h205 => ?_) (fun h205 => ?_)
            · exact absurd h205 (by omega)
            · refine v_iload C dX5_worst_208 rfl ?_
              refine v_istore C dX5_worst_210 (by decide) ?_
              refine v_iconstN 1 C dX5_worst_212 ?_
              refine v_istore C dX5_worst_213 (by decide) ?_
              refine v_iconstN 1 C dX5_worst_215 ?_
              refine v_istore C dX5_worst_216 (by decide) ?_
              refine v_aload_n C dX5_worst_218 rfl ?_
              refine g_5_2 C (by assumption) (by assumption) wt_535 dX5_worst_219 ?_
              refine v_iload_n C dX5_worst_222 rfl ?_
              first | refine v_ialdN C (by assumption) (by omega) (by omega) dX5_worst_223 ?_ | refine v_iald C (by assumption) (by assumption) dX5_worst_223 ?_
              rw [c2]
              refine v_iconstN 1 C dX5_worst_224 ?_
              refine v_isub C dX5_worst_225 ?_
              refine v_istore C dX5_worst_226 (by decide) ?_
              exact v_less h0 (by repeat (first | exact trivial | refine And.intro rfl ?_))
        have note : ∀ n : Nat, n ≤ c → ∀ I' : MI, FrS I I' (M + 18) (M + 19) → (∀ j u, j < d → u ≤ 64 → I' (M + 19) (65 * j + u) = nI (b2 (flW P n j u))) → V X 0 0 z S I' J R 117 [some (.ref M), some (.int (nI k)), some (.int (nI v)), some (.int (nI c)), some (.int (nI n)), none, none, none, none, none, none, none, none, none, none, none, none] [] := by
          refine lp_up c ?_
          intro n hn2 ih I' hF hfl
          have inn : n < c → ∀ j : Nat, j ≤ d → ∀ I' : MI, FrS I I' (M + 18) (M + 19) → (∀ t u, t < d → u ≤ 64 → I' (M + 19) (65 * t + u) = nI (b2 (flW P (if t < j then n + 1 else n) t u))) → V X 0 0 z S I' J R 126 [some (.ref M), some (.int (nI k)), some (.int (nI v)), some (.int (nI c)), some (.int (nI n)), some (.int (nI j)), none, none, none, none, none, none, none, none, none, none, none] [] := by
            intro hnc
            refine lp_up d ?_
            intro j hj ih2 I' hF hfl
            have c2 : I' (M + 2) k = nI d := (hF _ _ (by omega)).trans hk2
            have cD : MsR I' M k D := hkx.up (fun q i h1 h2 => hF q i (by omega))
            have hpl := hPl n j
            refine v_iload C dX5_worst_126 rfl ?_
            refine v_aload_n C dX5_worst_128 rfl ?_
            refine g_5_2 C (by assumption) (by assumption) wt_535 dX5_worst_129 ?_
            refine v_iload_n C dX5_worst_132 rfl ?_
            first | refine v_ialdN C (by assumption) (by omega) (by omega) dX5_worst_133 ?_ | refine v_iald C (by assumption) (by assumption) dX5_worst_133 ?_
            rw [c2]
            first | refine v_icmp_geN C 164 dX5_worst_134 (by omega) (by omega) (by decide) (fun h134 => ?_) (fun h134 => ?_) | refine v_icmp_ge C 164 dX5_worst_134 (by decide) (fun h134 => ?_) (fun h134 => ?_)
            · first | refine v_iincN 1 C dX5_worst_164 rfl (by decide) ?_ | refine v_iinc C dX5_worst_164 rfl rfl (by decide) ?_
              refine v_goto C 117 dX5_worst_167 (by decide) ?_
              obtain rfl : j = d := by omega
              exact v_less (ih hnc I' hF (fun t u q1 q2 => by rw [hfl t u q1 q2, if_pos q1])) (by repeat (first | exact trivial | refine And.intro rfl ?_))
            · refine v_aload_n C dX5_worst_137 rfl ?_
              refine g_5_20 C (by assumption) (by assumption) wt_553 dX5_worst_138 ?_
              refine v_bipushN 65 (by decide) C dX5_worst_141 ?_
              refine v_iload C dX5_worst_143 rfl ?_
              first | refine v_imulN C dX5_worst_145 ?_ | refine v_imul C dX5_worst_145 ?_
              refine v_aload_n C dX5_worst_146 rfl ?_
              refine v_iload_n C dX5_worst_147 rfl ?_
              refine v_iload C dX5_worst_148 rfl ?_
              refine v_iload C dX5_worst_150 rfl ?_
              refine v_callV3_1 C (m_X5_partOf T B) lk_X5_109 ⟨wt_670, ws_23⟩ 5 rfl dX5_worst_152 ⟨Nat.le_of_ble_eq_true rfl, Nat.le_of_ble_eq_true rfl⟩ (Nat.le_of_ble_eq_true rfl) ⟨Nat.le_of_ble_eq_true rfl, Nat.le_of_ble_eq_true rfl⟩ (by assumption) (cTo_5 (by assumption)) ?_
              refine c_X5_partOf hM cD (by omega) hOk (by omega) (by omega) ?_
              rw [hP0]
              first | refine v_iaddN C dX5_worst_155 ?_ | refine v_iadd C dX5_worst_155 ?_
              refine v_iconstN 1 C dX5_worst_156 ?_
              first | refine v_zastN C (by assumption) nz_1 (by omega) (by omega) dX5_worst_157 ?_ | refine v_zast C (by assumption) nz_1 (by assumption) dX5_worst_157 ?_
              first | refine v_iincN 1 C dX5_worst_158 rfl (by decide) ?_ | refine v_iinc C dX5_worst_158 rfl rfl (by decide) ?_
              refine v_goto C 126 dX5_worst_161 (by decide) ?_
              refine v_less (ih2 h134 _ (hF.mu (by omega) (by omega)) (fun t u q1 q2 => ?_)) (by repeat (first | exact trivial | refine And.intro rfl ?_))
              by_cases e : t = j
              · subst e
                rw [if_pos (by omega), flW_s]
                by_cases e2 : u = P n t
                · subst e2; rw [mu_at, decide_eq_true rfl, Bool.or_true]; rfl
                · rw [mu_other _ _ (fun q => e2 (by omega)), decide_eq_false (fun q => e2 q.symm), Bool.or_false, hfl t u q1 q2, if_neg (by omega)]
              · rw [mu_other _ _ (fun q => e (by omega)), hfl t u q1 q2]
                by_cases e2 : t < j
                · rw [if_pos e2, if_pos (by omega)]
                · rw [if_neg e2, if_neg (by omega)]
          have c2 : I' (M + 2) k = nI d := (hF _ _ (by omega)).trans hk2
          refine v_iload C dX5_worst_117 rfl ?_
          refine v_iload_n C dX5_worst_119 rfl ?_
          first | refine v_icmp_geN C 170 dX5_worst_120 (by omega) (by omega) (by decide) (fun h120 => ?_) (fun h120 => ?_) | refine v_icmp_ge C 170 dX5_worst_120 (by decide) (fun h120 => ?_) (fun h120 => ?_)
          · refine v_lconst (v := lN 0) C dX5_worst_170 rfl ?_
            refine v_lstore C dX5_worst_171 (by decide) ?_
            refine v_iconstN 0 C dX5_worst_173 ?_
            refine v_istore C dX5_worst_174 (by decide) ?_
            refine v_iconstN 0 C dX5_worst_176 ?_
            refine v_istore C dX5_worst_177 (by decide) ?_
            refine v_iconstN 0 C dX5_worst_179 ?_
            refine v_istore C dX5_worst_180 (by decide) ?_
            refine v_iload_n C dX5_worst_182 rfl ?_
            refine v_iconstN 1 C dX5_worst_183 ?_
            first | refine v_iaddN C dX5_worst_184 ?_ | refine v_iadd C dX5_worst_184 ?_
            first | refine v_i2lN C dX5_worst_185 (by omega) ?_ | refine v_i2l C dX5_worst_185 ?_
            refine v_aload_n C dX5_worst_186 rfl ?_
            refine g_5_2 C (by assumption) (by assumption) wt_535 dX5_worst_187 ?_
            refine v_iload_n C dX5_worst_190 rfl ?_
            first | refine v_ialdN C (by assumption) (by omega) (by omega) dX5_worst_191 ?_ | refine v_iald C (by assumption) (by assumption) dX5_worst_191 ?_
            rw [c2]
            refine v_callS2_2 C (m_X5_power T B) lk_X5_140 wt_751 dX5_worst_192 ⟨Nat.le_of_ble_eq_true rfl, Nat.le_of_ble_eq_true rfl⟩ (Nat.le_of_ble_eq_true rfl) ⟨Nat.le_of_ble_eq_true rfl, Nat.le_of_ble_eq_true rfl⟩ ?_
            refine c_X5_power (by omega) ?_
            first | refine v_l2iN C dX5_worst_195 ?_ | refine v_l2i C dX5_worst_195 ?_
            rw [hN0]
            refine v_istore C dX5_worst_196 (by decide) ?_
            refine v_iconstN 0 C dX5_worst_198 ?_
            refine v_istore C dX5_worst_199 (by decide) ?_
            obtain rfl : n = c := by omega
            exact v_less (search N 0 (by omega) (false, lN 0, 0, false) (Nat.zero_le _) hrs.symm I' hF hfl) (by repeat (first | exact trivial | refine And.intro rfl ?_))
          · refine v_iconstN 0 C dX5_worst_123 ?_
            refine v_istore C dX5_worst_124 (by decide) ?_
            exact v_less (inn h120 0 (Nat.zero_le _) I' hF (fun t u q1 q2 => by rw [hfl t u q1 q2, if_neg (by omega)])) (by repeat (first | exact trivial | refine And.intro rfl ?_))
        have clear : ∀ a : Nat, a ≤ 195 → ∀ I' : MI, FrS I I' (M + 18) (M + 19) → (∀ i, i < a → I' (M + 19) i = nI 0) → V X 0 0 z S I' J R 92 [some (.ref M), some (.int (nI k)), some (.int (nI v)), some (.int (nI c)), some (.int (nI a)), none, none, none, none, none, none, none, none, none, none, none, none] [] := by
          refine lp_up 195 ?_
          intro a ha ih I' hF hfl
          refine v_iload C dX5_worst_92 rfl ?_
          refine v_sipushN 195 (by decide +kernel) C dX5_worst_94 ?_
          first | refine v_icmp_geN C 114 dX5_worst_97 (by omega) (by omega) (by decide) (fun h97 => ?_) (fun h97 => ?_) | refine v_icmp_ge C 114 dX5_worst_97 (by decide) (fun h97 => ?_) (fun h97 => ?_)
          · refine v_iconstN 0 C dX5_worst_114 ?_
            refine v_istore C dX5_worst_115 (by decide) ?_
            exact v_less (note 0 (Nat.zero_le _) I' hF (fun j u q1 q2 => by rw [hfl _ (by omega)]; rfl)) (by repeat (first | exact trivial | refine And.intro rfl ?_))
          · refine v_aload_n C dX5_worst_100 rfl ?_
            refine g_5_20 C (by assumption) (by assumption) wt_553 dX5_worst_101 ?_
            refine v_iload C dX5_worst_104 rfl ?_
            refine v_iconstN 0 C dX5_worst_106 ?_
            first | refine v_zastN C (by assumption) nz_0 (by omega) (by omega) dX5_worst_107 ?_ | refine v_zast C (by assumption) nz_0 (by assumption) dX5_worst_107 ?_
            first | refine v_iincN 1 C dX5_worst_108 rfl (by decide) ?_ | refine v_iinc C dX5_worst_108 rfl rfl (by decide) ?_
            refine v_goto C 92 dX5_worst_111 (by decide) ?_
            refine v_less (ih h97 _ (hF.mu (by omega) (by omega)) (fun i hi => ?_)) (by repeat (first | exact trivial | refine And.intro rfl ?_))
            by_cases e : i = a
            · subst e; rw [mu_at]
            · rw [mu_other _ _ (fun q => e q.2)]; exact hfl i (by omega)
        refine v_aload_n C dX5_worst_0 rfl ?_
        refine v_iload_n C dX5_worst_1 rfl ?_
        refine v_callV1_1 C (m_X5_isScatter T B) lk_X5_80 ⟨wt_624, ws_22⟩ 5 rfl dX5_worst_2 ⟨Nat.le_of_ble_eq_true rfl, Nat.le_of_ble_eq_true rfl⟩ (Nat.le_of_ble_eq_true rfl) ⟨Nat.le_of_ble_eq_true rfl, Nat.le_of_ble_eq_true rfl⟩ (by assumption) (cTo_5 (by assumption)) ?_
        refine c_isS_k hM hn hn12 hk ?_
        first | refine v_if_neN C 14 dX5_worst_5 (by omega) (by decide) (fun h5 => ?_) (fun h5 => ?_) | refine v_if_ne C 14 dX5_worst_5 (by decide) (fun h5 => ?_) (fun h5 => ?_)
        · refine v_iload_n C dX5_worst_14 rfl ?_
          refine v_i2l C dX5_worst_15 ?_
          refine v_lconst (v := lN 0) C dX5_worst_16 rfl ?_
          refine v_iconstN 2 C dX5_worst_17 ?_
          refine v_aload_n C dX5_worst_18 rfl ?_
          refine g_5_2 C (by assumption) (by assumption) wt_535 dX5_worst_19 ?_
          refine v_iload_n C dX5_worst_22 rfl ?_
          first | refine v_ialdN C (by assumption) (by omega) (by omega) dX5_worst_23 ?_ | refine v_iald C (by assumption) (by assumption) dX5_worst_23 ?_
          rw [hk2]
          first | refine v_iaddN C dX5_worst_24 ?_ | refine v_iadd C dX5_worst_24 ?_
          first | refine v_i2lN C dX5_worst_25 (by omega) ?_ | refine v_i2l C dX5_worst_25 ?_
          refine v_callS3_1 C (m_X5_in T B) lk_X5_76 wt_627 dX5_worst_26 ⟨Nat.le_of_ble_eq_true rfl, Nat.le_of_ble_eq_true rfl⟩ (Nat.le_of_ble_eq_true rfl) ⟨Nat.le_of_ble_eq_true rfl, Nat.le_of_ble_eq_true rfl⟩ ?_
          refine c_inN_k (n := 2 + d) (by omega) (Oo_not (by omega) (by omega)) ?_
          first | refine v_if_neN C 39 dX5_worst_29 (by omega) (by decide) (fun h29 => ?_) (fun h29 => ?_) | refine v_if_ne C 39 dX5_worst_29 (by decide) (fun h29 => ?_) (fun h29 => ?_)
          · refine v_aload_n C dX5_worst_39 rfl ?_
            refine g_5_2 C (by assumption) (by assumption) wt_535 dX5_worst_40 ?_
            refine v_iload_n C dX5_worst_43 rfl ?_
            first | refine v_ialdN C (by assumption) (by omega) (by omega) dX5_worst_44 ?_ | refine v_iald C (by assumption) (by assumption) dX5_worst_44 ?_
            rw [hk2]
            refine v_iconstN 3 C dX5_worst_45 ?_
            first | refine v_icmp_gtN C 75 dX5_worst_46 (by omega) (by omega) (by decide) (fun h46 => ?_) (fun h46 => ?_) | refine v_icmp_gt C 75 dX5_worst_46 (by decide) (fun h46 => ?_) (fun h46 => ?_)
            · exact absurd h46 (by omega)
            · refine v_aload_n C dX5_worst_49 rfl ?_
              refine g_5_4 C (by assumption) (by assumption) wt_537 dX5_worst_50 ?_
              refine v_iload_n C dX5_worst_53 rfl ?_
              first | refine v_ialdN C (by assumption) (by omega) (by omega) dX5_worst_54 ?_ | refine v_iald C (by assumption) (by assumption) dX5_worst_54 ?_
              rw [hk4]
              refine v_aload_n C dX5_worst_55 rfl ?_
              refine g_5_2 C (by assumption) (by assumption) wt_535 dX5_worst_56 ?_
              refine v_iload_n C dX5_worst_59 rfl ?_
              first | refine v_ialdN C (by assumption) (by omega) (by omega) dX5_worst_60 ?_ | refine v_iald C (by assumption) (by assumption) dX5_worst_60 ?_
              rw [hk2]
              refine v_iconstN 3 C dX5_worst_61 ?_
              first | refine v_icmp_neN C 70 dX5_worst_62 (by omega) (by omega) (by decide) (fun h62 => ?_) (fun h62 => ?_) | refine v_icmp_ne C 70 dX5_worst_62 (by decide) (fun h62 => ?_) (fun h62 => ?_)
              · refine v_bipushN 64 (by decide) C dX5_worst_70 ?_
                first | refine v_icmp_leN C 82 dX5_worst_72 (by omega) (by omega) (by decide) (fun h72 => ?_) (fun h72 => ?_) | refine v_icmp_le C 82 dX5_worst_72 (by decide) (fun h72 => ?_) (fun h72 => ?_)
                · refine v_aload_n C dX5_worst_82 rfl ?_
                  refine g_5_4 C (by assumption) (by assumption) wt_537 dX5_worst_83 ?_
                  refine v_iload_n C dX5_worst_86 rfl ?_
                  first | refine v_ialdN C (by assumption) (by omega) (by omega) dX5_worst_87 ?_ | refine v_iald C (by assumption) (by assumption) dX5_worst_87 ?_
                  rw [hk4]
                  refine v_istore_n C dX5_worst_88 (by decide) ?_
                  refine v_iconstN 0 C dX5_worst_89 ?_
                  refine v_istore C dX5_worst_90 (by decide) ?_
                  exact v_less (clear 0 (Nat.zero_le _) I FrS.rf (fun i hi => absurd hi (by omega))) (by repeat (first | exact trivial | refine And.intro rfl ?_))
                · exact absurd h72 (by first | omega | (have := hmm.2 h62; omega))
              · refine v_bipushN 16 (by decide) C dX5_worst_65 ?_
                refine v_goto C 72 dX5_worst_67 (by decide) ?_
                first | refine v_icmp_leN C 82 dX5_worst_72 (by omega) (by omega) (by decide) (fun h72 => ?_) (fun h72 => ?_) | refine v_icmp_le C 82 dX5_worst_72 (by decide) (fun h72 => ?_) (fun h72 => ?_)
                · refine v_aload_n C dX5_worst_82 rfl ?_
                  refine g_5_4 C (by assumption) (by assumption) wt_537 dX5_worst_83 ?_
                  refine v_iload_n C dX5_worst_86 rfl ?_
                  first | refine v_ialdN C (by assumption) (by omega) (by omega) dX5_worst_87 ?_ | refine v_iald C (by assumption) (by assumption) dX5_worst_87 ?_
                  rw [hk4]
                  refine v_istore_n C dX5_worst_88 (by decide) ?_
                  refine v_iconstN 0 C dX5_worst_89 ?_
                  refine v_istore C dX5_worst_90 (by decide) ?_
                  exact v_less (clear 0 (Nat.zero_le _) I FrS.rf (fun i hi => absurd hi (by omega))) (by repeat (first | exact trivial | refine And.intro rfl ?_))
                · exact absurd h72 (by first | omega | (have := hmm.2 h62; omega))
          · exact absurd h29 (by decide)
        · exact absurd h5 (by decide)
      · rw [if_neg hmm] at hp
        refine v_aload_n C dX5_worst_0 rfl ?_
        refine v_iload_n C dX5_worst_1 rfl ?_
        refine v_callV1_1 C (m_X5_isScatter T B) lk_X5_80 ⟨wt_624, ws_22⟩ 5 rfl dX5_worst_2 ⟨Nat.le_of_ble_eq_true rfl, Nat.le_of_ble_eq_true rfl⟩ (Nat.le_of_ble_eq_true rfl) ⟨Nat.le_of_ble_eq_true rfl, Nat.le_of_ble_eq_true rfl⟩ (by assumption) (cTo_5 (by assumption)) ?_
        refine c_isS_k hM hn hn12 hk ?_
        first | refine v_if_neN C 14 dX5_worst_5 (by omega) (by decide) (fun h5 => ?_) (fun h5 => ?_) | refine v_if_ne C 14 dX5_worst_5 (by decide) (fun h5 => ?_) (fun h5 => ?_)
        · refine v_iload_n C dX5_worst_14 rfl ?_
          refine v_i2l C dX5_worst_15 ?_
          refine v_lconst (v := lN 0) C dX5_worst_16 rfl ?_
          refine v_iconstN 2 C dX5_worst_17 ?_
          refine v_aload_n C dX5_worst_18 rfl ?_
          refine g_5_2 C (by assumption) (by assumption) wt_535 dX5_worst_19 ?_
          refine v_iload_n C dX5_worst_22 rfl ?_
          first | refine v_ialdN C (by assumption) (by omega) (by omega) dX5_worst_23 ?_ | refine v_iald C (by assumption) (by assumption) dX5_worst_23 ?_
          rw [hk2]
          first | refine v_iaddN C dX5_worst_24 ?_ | refine v_iadd C dX5_worst_24 ?_
          first | refine v_i2lN C dX5_worst_25 (by omega) ?_ | refine v_i2l C dX5_worst_25 ?_
          refine v_callS3_1 C (m_X5_in T B) lk_X5_76 wt_627 dX5_worst_26 ⟨Nat.le_of_ble_eq_true rfl, Nat.le_of_ble_eq_true rfl⟩ (Nat.le_of_ble_eq_true rfl) ⟨Nat.le_of_ble_eq_true rfl, Nat.le_of_ble_eq_true rfl⟩ ?_
          refine c_inN_k (n := 2 + st.2.1 k 2 0) (by omega) (Oo_not (by omega) (by omega)) ?_
          first | refine v_if_neN C 39 dX5_worst_29 (by omega) (by decide) (fun h29 => ?_) (fun h29 => ?_) | refine v_if_ne C 39 dX5_worst_29 (by decide) (fun h29 => ?_) (fun h29 => ?_)
          · refine v_aload_n C dX5_worst_39 rfl ?_
            refine g_5_2 C (by assumption) (by assumption) wt_535 dX5_worst_40 ?_
            refine v_iload_n C dX5_worst_43 rfl ?_
            first | refine v_ialdN C (by assumption) (by omega) (by omega) dX5_worst_44 ?_ | refine v_iald C (by assumption) (by assumption) dX5_worst_44 ?_
            rw [hk2]
            refine v_iconstN 3 C dX5_worst_45 ?_
            first | refine v_icmp_gtN C 75 dX5_worst_46 (by omega) (by omega) (by decide) (fun h46 => ?_) (fun h46 => ?_) | refine v_icmp_gt C 75 dX5_worst_46 (by decide) (fun h46 => ?_) (fun h46 => ?_)
            · refine v_aload_n C dX5_worst_75 rfl ?_
              refine v_bipush (v := -6) C dX5_worst_76 (by decide) ?_
              refine v_callV1_2 C (m_X5_refuseLong T B) lk_X5_143 ⟨wt_739, ws_28⟩ 5 rfl dX5_worst_78 ⟨Nat.le_of_ble_eq_true rfl, Nat.le_of_ble_eq_true rfl⟩ (Nat.le_of_ble_eq_true rfl) ⟨Nat.le_of_ble_eq_true rfl, Nat.le_of_ble_eq_true rfl⟩ (by assumption) (cTo_5 (by assumption)) ?_
              refine c_X5_refuseLong (k := 6) hM (by decide) (by decide) ?_
              refine v_lret C Q dX5_worst_81 (Nat.le_of_ble_eq_true rfl) (Nat.le_of_ble_eq_true rfl) ?_
              have w := Mq_rf (k := 6) hR (by decide) hp
              exact w
            · refine v_aload_n C dX5_worst_49 rfl ?_
              refine g_5_4 C (by assumption) (by assumption) wt_537 dX5_worst_50 ?_
              refine v_iload_n C dX5_worst_53 rfl ?_
              first | refine v_ialdN C (by assumption) (by omega) (by omega) dX5_worst_54 ?_ | refine v_iald C (by assumption) (by assumption) dX5_worst_54 ?_
              rw [hk4]
              refine v_aload_n C dX5_worst_55 rfl ?_
              refine g_5_2 C (by assumption) (by assumption) wt_535 dX5_worst_56 ?_
              refine v_iload_n C dX5_worst_59 rfl ?_
              first | refine v_ialdN C (by assumption) (by omega) (by omega) dX5_worst_60 ?_ | refine v_iald C (by assumption) (by assumption) dX5_worst_60 ?_
              rw [hk2]
              refine v_iconstN 3 C dX5_worst_61 ?_
              first | refine v_icmp_neN C 70 dX5_worst_62 (by omega) (by omega) (by decide) (fun h62 => ?_) (fun h62 => ?_) | refine v_icmp_ne C 70 dX5_worst_62 (by decide) (fun h62 => ?_) (fun h62 => ?_)
              · refine v_bipushN 64 (by decide) C dX5_worst_70 ?_
                first | refine v_icmp_leN C 82 dX5_worst_72 (by omega) (by omega) (by decide) (fun h72 => ?_) (fun h72 => ?_) | refine v_icmp_le C 82 dX5_worst_72 (by decide) (fun h72 => ?_) (fun h72 => ?_)
                · first | exact absurd ⟨⟨by omega, by omega⟩, fun _ => by omega⟩ hmm | exact absurd ⟨⟨by omega, by omega⟩, fun q => absurd q h62⟩ hmm
                · refine v_aload_n C dX5_worst_75 rfl ?_
                  refine v_bipush (v := -6) C dX5_worst_76 (by decide) ?_
                  refine v_callV1_2 C (m_X5_refuseLong T B) lk_X5_143 ⟨wt_739, ws_28⟩ 5 rfl dX5_worst_78 ⟨Nat.le_of_ble_eq_true rfl, Nat.le_of_ble_eq_true rfl⟩ (Nat.le_of_ble_eq_true rfl) ⟨Nat.le_of_ble_eq_true rfl, Nat.le_of_ble_eq_true rfl⟩ (by assumption) (cTo_5 (by assumption)) ?_
                  refine c_X5_refuseLong (k := 6) hM (by decide) (by decide) ?_
                  refine v_lret C Q dX5_worst_81 (Nat.le_of_ble_eq_true rfl) (Nat.le_of_ble_eq_true rfl) ?_
                  have w := Mq_rf (k := 6) hR (by decide) hp
                  exact w
              · refine v_bipushN 16 (by decide) C dX5_worst_65 ?_
                refine v_goto C 72 dX5_worst_67 (by decide) ?_
                first | refine v_icmp_leN C 82 dX5_worst_72 (by omega) (by omega) (by decide) (fun h72 => ?_) (fun h72 => ?_) | refine v_icmp_le C 82 dX5_worst_72 (by decide) (fun h72 => ?_) (fun h72 => ?_)
                · first | exact absurd ⟨⟨by omega, by omega⟩, fun _ => by omega⟩ hmm | exact absurd ⟨⟨by omega, by omega⟩, fun q => absurd q h62⟩ hmm
                · refine v_aload_n C dX5_worst_75 rfl ?_
                  refine v_bipush (v := -6) C dX5_worst_76 (by decide) ?_
                  refine v_callV1_2 C (m_X5_refuseLong T B) lk_X5_143 ⟨wt_739, ws_28⟩ 5 rfl dX5_worst_78 ⟨Nat.le_of_ble_eq_true rfl, Nat.le_of_ble_eq_true rfl⟩ (Nat.le_of_ble_eq_true rfl) ⟨Nat.le_of_ble_eq_true rfl, Nat.le_of_ble_eq_true rfl⟩ (by assumption) (cTo_5 (by assumption)) ?_
                  refine c_X5_refuseLong (k := 6) hM (by decide) (by decide) ?_
                  refine v_lret C Q dX5_worst_81 (Nat.le_of_ble_eq_true rfl) (Nat.le_of_ble_eq_true rfl) ?_
                  have w := Mq_rf (k := 6) hR (by decide) hp
                  exact w
          · exact absurd h29 (by decide)
        · exact absurd h5 (by decide)
