theorem Mq_rf2 {M a : Nat} {st : St} {I I' : MI} {J : MJ} {Q : MI → MJ → Prop} (hR : Rm M st I) (hF : FrS I I' (M + 14) (M + 19)) (ha : a < 7) (q : Mq M (st.1, st.2.1, mu st.2.2 3 a (st.2.2 3 a + nI 1)) I J Q) : Q (mu I' (M + 13) a (I' (M + 13) a + nI 1)) J :=
  Mq_rf (Mq_scr (J := J) (J' := J) (Q := fun I' _ => Rm M st I') hR hF (fun _ _ _ => rfl) (fun _ _ h _ _ => h)) ha (fun I2 J2 g1 g2 g3 => q I2 J2 g1 ((hF.wide (by omega) (by omega)).tr g2) g3)
def s_X5_inCorner : Sp := fun av z S I J R Post => ∃ (M k : Nat), ∃ (D : SD), ∃ (H : Nat → Int32), ∃ (cl : Bool), av = [.ref M, .int (nI k), .int (nI (b2 cl))] ∧ (MoS S R M) ∧ (MsR I M k D) ∧ (k < 12) ∧ (OkD D) ∧ (∀ j, j < D 2 0 → I (M + 18) j = H j) ∧ (Post (nI (inW D H cl (D 4 0))) 0 none z S I J R)
theorem c_X5_inCorner {M k : Nat} {D : SD} {H : Nat → Int32} {cl : Bool} {z : Nat} {S : MS} {I : MI} {J : MJ} {R : MR} {Post : PT} (hM : MoS S R M) (hD : MsR I M k D) (hk : k < 12) (hO : OkD D) (hH : ∀ j, j < D 2 0 → I (M + 18) j = H j) (hp : Post (nI (inW D H cl (D 4 0))) 0 none z S I J R) : s_X5_inCorner [.ref M, .int (nI k), .int (nI (b2 cl))] z S I J R Post := ⟨M, k, D, H, cl, rfl, hM, hD, hk, hO, hH, hp⟩
set_option maxRecDepth 100000 in
set_option maxHeartbeats 1000000 in
theorem m_X5_inCorner (T : TC) (B : Nat) : Mt T B yX5_inCorner cX5_inCorner 8 (some .int) 1 (rmL 3 0 0) s_X5_inCorner := by
  refine Mt_of rfl (by rintro _ _ _ _ _ _ _ ⟨_, _, _, _, _, rfl, -⟩; exact Nat.le_of_ble_eq_true rfl) ?_
  intro X av z S I J R Post h C Q hI
  obtain ⟨M, k, D, H, cl, rfl, hM, hD, hk, hO, hH, hp⟩ := h
  obtain ⟨hS0, hr1, hr2, hr3, hr4, hr5, hr6, hr7, hr8, hr9, hr10, hr11, hr12, hr14, hr15, hr16, hr17, hr18, hr19, hr20, hs1, hs2, hs3, hs4, hs5, hs6, hs7, hs8, hs9, hs10, hs11, hs12, hs13, hs14, hs15, hs16, hs17, hs18, hs19⟩ := id hM
  obtain ⟨g1, g2, g3, g4, g5, g6, g7, g8, g9⟩ := id hD
  obtain ⟨o1, o2, o3, o4, o5, o6, o7, o8, o9, o10, o11, o12⟩ := id hO
  have inner : ∀ n : Nat, n < D 4 0 → ∀ j : Nat, j ≤ D 2 0 → V X 0 0 z S I J R 5 [some (.ref M), some (.int (nI k)), some (.int (nI (b2 cl))), some (.int (nI (inW D H cl (n + 1)))), some (.int (nI (n + 1))), none, none, none] [] → V X 0 0 z S I J R 22 [some (.ref M), some (.int (nI k)), some (.int (nI (b2 cl))), some (.int (nI (inW D H cl n))), some (.int (nI n)), some (.int (nI (b2 (allB (coW D H cl n) j)))), some (.int (nI j)), none] [] := by
    intro n hn2
    refine lp_up (D 2 0) ?_
    intro j hj ih K
    have hcn := inW_le D H cl n
    have nx : j < D 2 0 → ∀ g : Bool, g = (allB (coW D H cl n) j && coW D H cl n j) → V X 0 0 z S I J R 82 [some (.ref M), some (.int (nI k)), some (.int (nI (b2 cl))), some (.int (nI (inW D H cl n))), some (.int (nI n)), none, some (.int (nI j)), none] [.int (nI (b2 g))] := by
      intro hlt g hg
      have hh := ih hlt K
      rw [show allB (coW D H cl n) (j + 1) = g from hg.symm] at hh
      refine v_istore C dX5_inCorner_82 (by decide) ?_
      first | refine v_iincN 1 C dX5_inCorner_84 rfl (by decide) ?_ | refine v_iinc C dX5_inCorner_84 rfl rfl (by decide) ?_
      refine v_goto C 22 dX5_inCorner_87 (by decide) ?_
      exact v_less hh (by repeat (first | exact trivial | refine And.intro rfl ?_))
    have e2 : inW D H cl (n + 1) = inW D H cl n + b2 (allB (coW D H cl n) (D 2 0)) := rfl
    refine v_iload C dX5_inCorner_22 rfl ?_
    refine v_aload_n C dX5_inCorner_24 rfl ?_
    refine g_5_2 C (by assumption) (by assumption) wt_535 dX5_inCorner_25 ?_
    refine v_iload_n C dX5_inCorner_28 rfl ?_
    first | refine v_ialdN C (by assumption) (by omega) (by omega) dX5_inCorner_29 ?_ | refine v_iald C (by assumption) (by assumption) dX5_inCorner_29 ?_
    rw [g2]
    first | refine v_icmp_geN C 90 dX5_inCorner_30 (by omega) (by omega) (by decide) (fun h30 => ?_) (fun h30 => ?_) | refine v_icmp_ge C 90 dX5_inCorner_30 (by decide) (fun h30 => ?_) (fun h30 => ?_)
    · refine v_iload_n C dX5_inCorner_90 rfl ?_
      refine v_iload C dX5_inCorner_91 rfl ?_
      refine v_if_eq C 100 dX5_inCorner_93 (by decide) (fun h93 => ?_) (fun h93 => ?_)
      · obtain rfl : j = D 2 0 := by omega
        have hg : allB (coW D H cl n) (D 2 0) = false := by
          cases hq : allB (coW D H cl n) (D 2 0) with
          | false => rfl
          | true => rw [hq] at h93; exact absurd h93 (by decide)
        rw [e2, hg] at K
        refine v_iconstN 0 C dX5_inCorner_100 ?_
        first | refine v_iaddN C dX5_inCorner_101 ?_ | refine v_iadd C dX5_inCorner_101 ?_
        refine v_istore_n C dX5_inCorner_102 (by decide) ?_
        first | refine v_iincN 1 C dX5_inCorner_103 rfl (by decide) ?_ | refine v_iinc C dX5_inCorner_103 rfl rfl (by decide) ?_
        refine v_goto C 5 dX5_inCorner_106 (by decide) ?_
        exact v_less K (by repeat (first | exact trivial | refine And.intro rfl ?_))
      · obtain rfl : j = D 2 0 := by omega
        have hg : allB (coW D H cl n) (D 2 0) = true := by
          cases hq : allB (coW D H cl n) (D 2 0) with
          | true => rfl
          | false => rw [hq] at h93; exact absurd rfl h93
        rw [e2, hg] at K
        refine v_iconstN 1 C dX5_inCorner_96 ?_
        refine v_goto C 101 dX5_inCorner_97 (by decide) ?_
        first | refine v_iaddN C dX5_inCorner_101 ?_ | refine v_iadd C dX5_inCorner_101 ?_
        refine v_istore_n C dX5_inCorner_102 (by decide) ?_
        first | refine v_iincN 1 C dX5_inCorner_103 rfl (by decide) ?_ | refine v_iinc C dX5_inCorner_103 rfl rfl (by decide) ?_
        refine v_goto C 5 dX5_inCorner_106 (by decide) ?_
        exact v_less K (by repeat (first | exact trivial | refine And.intro rfl ?_))
    · refine v_aload_n C dX5_inCorner_33 rfl ?_
      refine v_iload_n C dX5_inCorner_34 rfl ?_
      refine v_iload C dX5_inCorner_35 rfl ?_
      refine v_iload C dX5_inCorner_37 rfl ?_
      refine v_callV3_1 C (m_X5_partOf T B) lk_X5_109 ⟨wt_670, ws_23⟩ 5 rfl dX5_inCorner_39 ⟨Nat.le_of_ble_eq_true rfl, Nat.le_of_ble_eq_true rfl⟩ (Nat.le_of_ble_eq_true rfl) ⟨Nat.le_of_ble_eq_true rfl, Nat.le_of_ble_eq_true rfl⟩ (by assumption) (cTo_5 (by assumption)) ?_
      refine c_X5_partOf hM hD hk hO hn2 (by omega) ?_
      refine v_istore C dX5_inCorner_42 (by decide) ?_
      refine v_iload C dX5_inCorner_44 rfl ?_
      refine v_if_eq C 81 dX5_inCorner_46 (by decide) (fun h46 => ?_) (fun h46 => ?_)
      · have hg : allB (coW D H cl n) j = false := by
          cases hq : allB (coW D H cl n) j with
          | false => rfl
          | true => rw [hq] at h46; exact absurd h46 (by decide)
        refine v_iconstN 0 C dX5_inCorner_81 ?_
        first
        | exact v_less (nx (by omega) false (by rw [hg]; rfl)) (by repeat (first | exact trivial | refine And.intro rfl ?_))
        | exact v_less (nx (by omega) true (by rw [hg]; unfold coW; rw [decide_eq_true h58]; rfl)) (by repeat (first | exact trivial | refine And.intro rfl ?_))
        | exact v_less (nx (by omega) false (by rw [hg]; unfold coW; rw [decide_eq_false h58, hcl, Bool.and_false]; rfl)) (by repeat (first | exact trivial | refine And.intro rfl ?_))
        | exact v_less (nx (by omega) false (by rw [hg]; unfold coW; rw [decide_eq_false h58, decide_eq_false h74]; rfl)) (by repeat (first | exact trivial | refine And.intro rfl ?_))
        | exact v_less (nx (by omega) true (by rw [hg]; unfold coW; rw [decide_eq_true h74, hcl, Bool.and_true, Bool.or_true]; rfl)) (by repeat (first | exact trivial | refine And.intro rfl ?_))
      · have hg : allB (coW D H cl n) j = true := by
          cases hq : allB (coW D H cl n) j with
          | true => rfl
          | false => rw [hq] at h46; exact absurd rfl h46
        refine v_iload C dX5_inCorner_49 rfl ?_
        refine v_aload_n C dX5_inCorner_51 rfl ?_
        refine g_5_19 C (by assumption) (by assumption) wt_552 dX5_inCorner_52 ?_
        refine v_iload C dX5_inCorner_55 rfl ?_
        first | refine v_ialdN C (by assumption) (by omega) (by omega) dX5_inCorner_57 ?_ | refine v_iald C (by assumption) (by assumption) dX5_inCorner_57 ?_
        rw [hH j (by omega)]
        refine v_icmp_lt C 77 dX5_inCorner_58 (by decide) (fun h58 => ?_) (fun h58 => ?_)
        · refine v_iconstN 1 C dX5_inCorner_77 ?_
          refine v_goto C 82 dX5_inCorner_78 (by decide) ?_
          first
          | exact v_less (nx (by omega) false (by rw [hg]; rfl)) (by repeat (first | exact trivial | refine And.intro rfl ?_))
          | exact v_less (nx (by omega) true (by rw [hg]; unfold coW; rw [decide_eq_true h58]; rfl)) (by repeat (first | exact trivial | refine And.intro rfl ?_))
          | exact v_less (nx (by omega) false (by rw [hg]; unfold coW; rw [decide_eq_false h58, hcl, Bool.and_false]; rfl)) (by repeat (first | exact trivial | refine And.intro rfl ?_))
          | exact v_less (nx (by omega) false (by rw [hg]; unfold coW; rw [decide_eq_false h58, decide_eq_false h74]; rfl)) (by repeat (first | exact trivial | refine And.intro rfl ?_))
          | exact v_less (nx (by omega) true (by rw [hg]; unfold coW; rw [decide_eq_true h74, hcl, Bool.and_true, Bool.or_true]; rfl)) (by repeat (first | exact trivial | refine And.intro rfl ?_))
        · refine v_iload_n C dX5_inCorner_61 rfl ?_
          refine v_if_eq C 81 dX5_inCorner_62 (by decide) (fun h62 => ?_) (fun h62 => ?_)
          · have hcl : cl = false := by
              cases cl with
              | false => rfl
              | true => exact absurd h62 (by decide)
            refine v_iconstN 0 C dX5_inCorner_81 ?_
            first
            | exact v_less (nx (by omega) false (by rw [hg]; rfl)) (by repeat (first | exact trivial | refine And.intro rfl ?_))
            | exact v_less (nx (by omega) true (by rw [hg]; unfold coW; rw [decide_eq_true h58]; rfl)) (by repeat (first | exact trivial | refine And.intro rfl ?_))
            | exact v_less (nx (by omega) false (by rw [hg]; unfold coW; rw [decide_eq_false h58, hcl, Bool.and_false]; rfl)) (by repeat (first | exact trivial | refine And.intro rfl ?_))
            | exact v_less (nx (by omega) false (by rw [hg]; unfold coW; rw [decide_eq_false h58, decide_eq_false h74]; rfl)) (by repeat (first | exact trivial | refine And.intro rfl ?_))
            | exact v_less (nx (by omega) true (by rw [hg]; unfold coW; rw [decide_eq_true h74, hcl, Bool.and_true, Bool.or_true]; rfl)) (by repeat (first | exact trivial | refine And.intro rfl ?_))
          · have hcl : cl = true := by
              cases cl with
              | true => rfl
              | false => exact absurd rfl h62
            refine v_iload C dX5_inCorner_65 rfl ?_
            refine v_aload_n C dX5_inCorner_67 rfl ?_
            refine g_5_19 C (by assumption) (by assumption) wt_552 dX5_inCorner_68 ?_
            refine v_iload C dX5_inCorner_71 rfl ?_
            first | refine v_ialdN C (by assumption) (by omega) (by omega) dX5_inCorner_73 ?_ | refine v_iald C (by assumption) (by assumption) dX5_inCorner_73 ?_
            rw [hH j (by omega)]
            refine v_icmp_ne C 81 dX5_inCorner_74 (by decide) (fun h74 => ?_) (fun h74 => ?_)
            · refine v_iconstN 0 C dX5_inCorner_81 ?_
              first
              | exact v_less (nx (by omega) false (by rw [hg]; rfl)) (by repeat (first | exact trivial | refine And.intro rfl ?_))
              | exact v_less (nx (by omega) true (by rw [hg]; unfold coW; rw [decide_eq_true h58]; rfl)) (by repeat (first | exact trivial | refine And.intro rfl ?_))
              | exact v_less (nx (by omega) false (by rw [hg]; unfold coW; rw [decide_eq_false h58, hcl, Bool.and_false]; rfl)) (by repeat (first | exact trivial | refine And.intro rfl ?_))
              | exact v_less (nx (by omega) false (by rw [hg]; unfold coW; rw [decide_eq_false h58, decide_eq_false h74]; rfl)) (by repeat (first | exact trivial | refine And.intro rfl ?_))
              | exact v_less (nx (by omega) true (by rw [hg]; unfold coW; rw [decide_eq_true h74, hcl, Bool.and_true, Bool.or_true]; rfl)) (by repeat (first | exact trivial | refine And.intro rfl ?_))
            · refine v_iconstN 1 C dX5_inCorner_77 ?_
              refine v_goto C 82 dX5_inCorner_78 (by decide) ?_
              first
              | exact v_less (nx (by omega) false (by rw [hg]; rfl)) (by repeat (first | exact trivial | refine And.intro rfl ?_))
              | exact v_less (nx (by omega) true (by rw [hg]; unfold coW; rw [decide_eq_true h58]; rfl)) (by repeat (first | exact trivial | refine And.intro rfl ?_))
              | exact v_less (nx (by omega) false (by rw [hg]; unfold coW; rw [decide_eq_false h58, hcl, Bool.and_false]; rfl)) (by repeat (first | exact trivial | refine And.intro rfl ?_))
              | exact v_less (nx (by omega) false (by rw [hg]; unfold coW; rw [decide_eq_false h58, decide_eq_false h74]; rfl)) (by repeat (first | exact trivial | refine And.intro rfl ?_))
              | exact v_less (nx (by omega) true (by rw [hg]; unfold coW; rw [decide_eq_true h74, hcl, Bool.and_true, Bool.or_true]; rfl)) (by repeat (first | exact trivial | refine And.intro rfl ?_))
  have loop : ∀ n : Nat, n ≤ D 4 0 → V X 0 0 z S I J R 5 [some (.ref M), some (.int (nI k)), some (.int (nI (b2 cl))), some (.int (nI (inW D H cl n))), some (.int (nI n)), none, none, none] [] := by
    refine lp_up (D 4 0) ?_
    intro n hn2 ih
    refine v_iload C dX5_inCorner_5 rfl ?_
    refine v_aload_n C dX5_inCorner_7 rfl ?_
    refine g_5_4 C (by assumption) (by assumption) wt_537 dX5_inCorner_8 ?_
    refine v_iload_n C dX5_inCorner_11 rfl ?_
    first | refine v_ialdN C (by assumption) (by omega) (by omega) dX5_inCorner_12 ?_ | refine v_iald C (by assumption) (by assumption) dX5_inCorner_12 ?_
    rw [g4]
    first | refine v_icmp_geN C 109 dX5_inCorner_13 (by omega) (by omega) (by decide) (fun h13 => ?_) (fun h13 => ?_) | refine v_icmp_ge C 109 dX5_inCorner_13 (by decide) (fun h13 => ?_) (fun h13 => ?_)
    · refine v_iload_n C dX5_inCorner_109 rfl ?_
      refine v_iret C Q dX5_inCorner_110 (Nat.le_of_ble_eq_true rfl) (Nat.le_of_ble_eq_true rfl) ?_
      obtain rfl : n = D 4 0 := by omega
      exact hp
    · refine v_iconstN 1 C dX5_inCorner_16 ?_
      refine v_istore C dX5_inCorner_17 (by decide) ?_
      refine v_iconstN 0 C dX5_inCorner_19 ?_
      refine v_istore C dX5_inCorner_20 (by decide) ?_
      exact v_less (inner n h13 0 (Nat.zero_le _) (ih h13)) (by repeat (first | exact trivial | refine And.intro rfl ?_))
  refine v_iconstN 0 C dX5_inCorner_0 ?_
  refine v_istore_n C dX5_inCorner_1 (by decide) ?_
  refine v_iconstN 0 C dX5_inCorner_2 ?_
  refine v_istore C dX5_inCorner_3 (by decide) ?_
  exact v_less (loop 0 (Nat.zero_le _)) (by repeat (first | exact trivial | refine And.intro rfl ?_))
def s_X5_cornerLess : Sp := fun av z S I J R Post => ∃ (M k : Nat), ∃ (D : SD), ∃ (h : Nat → Nat), ∃ (cl : Bool), av = [.ref M, .int (nI k), .int (nI (b2 cl))] ∧ (MoS S R M) ∧ (MsR I M k D) ∧ (k < 12) ∧ (OkD D) ∧ (∀ j, j < D 2 0 → I (M + 18) j = nI (h j) ∧ h j ≤ 256) ∧ (Post 0 (lN (prodN h (D 2 0)) - lN (inW D (fun j => nI (h j)) cl (D 4 0) * D 4 0 ^ (D 2 0 - 1))) none z S I J R)
theorem c_X5_cornerLess {M k : Nat} {D : SD} {h : Nat → Nat} {cl : Bool} {z : Nat} {S : MS} {I : MI} {J : MJ} {R : MR} {Post : PT} (hM : MoS S R M) (hD : MsR I M k D) (hk : k < 12) (hO : OkD D) (hH : ∀ j, j < D 2 0 → I (M + 18) j = nI (h j) ∧ h j ≤ 256) (hp : Post 0 (lN (prodN h (D 2 0)) - lN (inW D (fun j => nI (h j)) cl (D 4 0) * D 4 0 ^ (D 2 0 - 1))) none z S I J R) : s_X5_cornerLess [.ref M, .int (nI k), .int (nI (b2 cl))] z S I J R Post := ⟨M, k, D, h, cl, rfl, hM, hD, hk, hO, hH, hp⟩
set_option maxRecDepth 100000 in
set_option maxHeartbeats 1000000 in
theorem m_X5_cornerLess (T : TC) (B : Nat) : Mt T B yX5_cornerLess cX5_cornerLess 6 (some .long) 2 (rmL 4 0 0) s_X5_cornerLess := by
  refine Mt_of rfl (by rintro _ _ _ _ _ _ _ ⟨_, _, _, _, _, rfl, -⟩; exact Nat.le_of_ble_eq_true rfl) ?_
  intro X av z S I J R Post h C Q hI
  obtain ⟨M, k, D, h, cl, rfl, hM, hD, hk, hO, hH, hp⟩ := h
  obtain ⟨hS0, hr1, hr2, hr3, hr4, hr5, hr6, hr7, hr8, hr9, hr10, hr11, hr12, hr14, hr15, hr16, hr17, hr18, hr19, hr20, hs1, hs2, hs3, hs4, hs5, hs6, hs7, hs8, hs9, hs10, hs11, hs12, hs13, hs14, hs15, hs16, hs17, hs18, hs19⟩ := id hM
  obtain ⟨g1, g2, g3, g4, g5, g6, g7, g8, g9⟩ := id hD
  obtain ⟨o1, o2, o3, o4, o5, o6, o7, o8, o9, o10, o11, o12⟩ := id hO
  have hin := inW_le D (fun j => nI (h j)) cl (D 4 0)
  have loop : ∀ j : Nat, j ≤ D 2 0 → V X 0 0 z S I J R 5 [some (.ref M), some (.int (nI k)), some (.int (nI (b2 cl))), some (.long (lN (prodN h j))), none, some (.int (nI j))] [] := by
    refine lp_up (D 2 0) ?_
    intro j hj ih
    refine v_iload C dX5_cornerLess_5 rfl ?_
    refine v_aload_n C dX5_cornerLess_7 rfl ?_
    refine g_5_2 C (by assumption) (by assumption) wt_535 dX5_cornerLess_8 ?_
    refine v_iload_n C dX5_cornerLess_11 rfl ?_
    first | refine v_ialdN C (by assumption) (by omega) (by omega) dX5_cornerLess_12 ?_ | refine v_iald C (by assumption) (by assumption) dX5_cornerLess_12 ?_
    rw [g2]
    first | refine v_icmp_geN C 33 dX5_cornerLess_13 (by omega) (by omega) (by decide) (fun h13 => ?_) (fun h13 => ?_) | refine v_icmp_ge C 33 dX5_cornerLess_13 (by decide) (fun h13 => ?_) (fun h13 => ?_)
    · refine v_lload_n C dX5_cornerLess_33 rfl ?_
      refine v_aload_n C dX5_cornerLess_34 rfl ?_
      refine v_iload_n C dX5_cornerLess_35 rfl ?_
      refine v_iload_n C dX5_cornerLess_36 rfl ?_
      refine v_callV2_1 C (m_X5_inCorner T B) lk_X5_136 ⟨wt_748, ws_30⟩ 5 rfl dX5_cornerLess_37 ⟨Nat.le_of_ble_eq_true rfl, Nat.le_of_ble_eq_true rfl⟩ (Nat.le_of_ble_eq_true rfl) ⟨Nat.le_of_ble_eq_true rfl, Nat.le_of_ble_eq_true rfl⟩ (by assumption) (cTo_5 (by assumption)) ?_
      refine c_X5_inCorner (H := fun j => nI (h j)) hM hD hk hO (fun j hj => (hH j hj).1) ?_
      first | refine v_i2lN C dX5_cornerLess_40 (by omega) ?_ | refine v_i2l C dX5_cornerLess_40 ?_
      refine v_aload_n C dX5_cornerLess_41 rfl ?_
      refine g_5_4 C (by assumption) (by assumption) wt_537 dX5_cornerLess_42 ?_
      refine v_iload_n C dX5_cornerLess_45 rfl ?_
      first | refine v_ialdN C (by assumption) (by omega) (by omega) dX5_cornerLess_46 ?_ | refine v_iald C (by assumption) (by assumption) dX5_cornerLess_46 ?_
      rw [g4]
      first | refine v_i2lN C dX5_cornerLess_47 (by omega) ?_ | refine v_i2l C dX5_cornerLess_47 ?_
      refine v_aload_n C dX5_cornerLess_48 rfl ?_
      refine g_5_2 C (by assumption) (by assumption) wt_535 dX5_cornerLess_49 ?_
      refine v_iload_n C dX5_cornerLess_52 rfl ?_
      first | refine v_ialdN C (by assumption) (by omega) (by omega) dX5_cornerLess_53 ?_ | refine v_iald C (by assumption) (by assumption) dX5_cornerLess_53 ?_
      rw [g2]
      refine v_iconstN 1 C dX5_cornerLess_54 ?_
      first | refine v_isubN C dX5_cornerLess_55 (by omega) ?_ | refine v_isub C dX5_cornerLess_55 ?_
      refine v_callS2_2 C (m_X5_power T B) lk_X5_140 wt_751 dX5_cornerLess_56 ⟨Nat.le_of_ble_eq_true rfl, Nat.le_of_ble_eq_true rfl⟩ (Nat.le_of_ble_eq_true rfl) ⟨Nat.le_of_ble_eq_true rfl, Nat.le_of_ble_eq_true rfl⟩ ?_
      refine c_X5_power (by omega) ?_
      first | refine v_lmulN C dX5_cornerLess_59 ?_ | refine v_lmul C dX5_cornerLess_59 ?_
      refine v_lsub C dX5_cornerLess_60 ?_
      refine v_lret C Q dX5_cornerLess_61 (Nat.le_of_ble_eq_true rfl) (Nat.le_of_ble_eq_true rfl) ?_
      obtain rfl : j = D 2 0 := by omega
      exact hp
    · refine v_lload_n C dX5_cornerLess_16 rfl ?_
      refine v_aload_n C dX5_cornerLess_17 rfl ?_
      refine g_5_19 C (by assumption) (by assumption) wt_552 dX5_cornerLess_18 ?_
      refine v_iload C dX5_cornerLess_21 rfl ?_
      first | refine v_ialdN C (by assumption) (by omega) (by omega) dX5_cornerLess_23 ?_ | refine v_iald C (by assumption) (by assumption) dX5_cornerLess_23 ?_
      rw [(hH j h13).1]
      have hhj := (hH j h13).2
      first | refine v_i2lN C dX5_cornerLess_24 (by omega) ?_ | refine v_i2l C dX5_cornerLess_24 ?_
      first | refine v_lmulN C dX5_cornerLess_25 ?_ | refine v_lmul C dX5_cornerLess_25 ?_
      refine v_lstore_n C dX5_cornerLess_26 (by decide) ?_
      first | refine v_iincN 1 C dX5_cornerLess_27 rfl (by decide) ?_ | refine v_iinc C dX5_cornerLess_27 rfl rfl (by decide) ?_
      refine v_goto C 5 dX5_cornerLess_30 (by decide) ?_
      exact v_less (ih h13) (by repeat (first | exact trivial | refine And.intro rfl ?_))
  refine v_lconst (v := lN 1) C dX5_cornerLess_0 rfl ?_
  refine v_lstore_n C dX5_cornerLess_1 (by decide) ?_
  refine v_iconstN 0 C dX5_cornerLess_2 ?_
  refine v_istore C dX5_cornerLess_3 (by decide) ?_
  exact v_less (loop 0 (Nat.zero_le _)) (by repeat (first | exact trivial | refine And.intro rfl ?_))
theorem my_Oo {W : Nat → Nat → Int32} {g j : Nat} (hg : g < 2147483647) (h : ¬ myW W (nI g) j = true) : Oo (W 2 j) (g + 1) := by
  rcases Oo_or (W 2 j) (g + 1) (by omega) with q | ⟨a, ha, e⟩
  · exact q
  · exact absurd (by unfold myW; rw [e, decide_eq_false (nI_pos (by omega)), decide_eq_true (nI_le (by omega) (by omega))]; rfl) h
theorem my_no {W : Nat → Nat → Int32} {g j : Nat} (hg : g < 2147483647) (h : myW W (nI g) j = true) : ¬ Oo (W 2 j) (g + 1) := by
  obtain ⟨q1, q2⟩ := my_nI (by omega) h
  rw [q1]; exact Oo_not (by omega) (by omega)
theorem hi_Oo {W : Nat → Nat → Int32} {g j : Nat} (hg : g < 2147483647) (h : ¬ hiW W g j = true) : Oo (W 1 j) (g + 1) := by
  rcases Oo_or (W 1 j) (g + 1) (by omega) with q | ⟨a, ha, e⟩
  · exact q
  · exact absurd (by unfold hiW; rw [e, decide_eq_false (nI_pos (by omega)), decide_eq_true (nI_le (by omega) (by omega))]; rfl) h
theorem hi_no {W : Nat → Nat → Int32} {g j : Nat} (hg : g < 2147483647) (h : hiW W g j = true) : ¬ Oo (W 1 j) (g + 1) := by
  obtain ⟨q1, q2⟩ := hi_nI (by omega) h
  rw [q1]; exact Oo_not (by omega) (by omega)
theorem inW_congr {D : SD} {H H' : Nat → Int32} {cl : Bool} {c : Nat} (h : ∀ j, j < D 2 0 → H j = H' j) : inW D H cl c = inW D H' cl c := sumN_congr (fun n _ => by
  have e : allB (coW D H cl n) (D 2 0) = allB (coW D H' cl n) (D 2 0) := allB_congr (fun j hj => by unfold coW; rw [h j hj])
  rw [e])
def s_X5_gap : Sp := fun av z S I J R Post => ∃ (M : Nat), ∃ (st : St), ∃ (s w : Int32), ∃ (cl : Bool), av = [.ref M, .int s, .int (nI (b2 cl)), .int w] ∧ (MoS S R M) ∧ (Rm M st I) ∧ (Ok st) ∧ (Mq M (o_gap st s cl w).2 I J (fun I' J' => Post 0 (o_gap st s cl w).1 none z S I' J' R))
theorem c_X5_gap {M : Nat} {st : St} {s w : Int32} {cl : Bool} {z : Nat} {S : MS} {I : MI} {J : MJ} {R : MR} {Post : PT} (hM : MoS S R M) (hR : Rm M st I) (hO : Ok st) (hp : Mq M (o_gap st s cl w).2 I J (fun I' J' => Post 0 (o_gap st s cl w).1 none z S I' J' R)) : s_X5_gap [.ref M, .int s, .int (nI (b2 cl)), .int w] z S I J R Post := ⟨M, st, s, w, cl, rfl, hM, hR, hO, hp⟩
set_option maxRecDepth 100000 in
set_option maxHeartbeats 2000000 in
theorem m_X5_gap (T : TC) (B : Nat) : Mt T B yX5_gap cX5_gap 6 (some .long) 2 (rmL 5 0 0) s_X5_gap := by
  refine Mt_of rfl (by rintro _ _ _ _ _ _ _ ⟨_, _, _, _, _, rfl, -⟩; exact Nat.le_of_ble_eq_true rfl) ?_
  intro X av z S I J R Post h C Q hI
  obtain ⟨M, st, s, w, cl, rfl, hM, hR, hO, hp⟩ := h
  have hn12 := hO.1
  obtain ⟨hn, htl, hms, htr, hrf⟩ := id hR
  obtain ⟨hS0, hr1, hr2, hr3, hr4, hr5, hr6, hr7, hr8, hr9, hr10, hr11, hr12, hr14, hr15, hr16, hr17, hr18, hr19, hr20, hs1, hs2, hs3, hs4, hs5, hs6, hs7, hs8, hs9, hs10, hs11, hs12, hs13, hs14, hs15, hs16, hs17, hs18, hs19⟩ := id hM
  unfold o_gap at hp
  rcases Oo_or s st.1 (by omega) with ho | ⟨k, hk, rfl⟩
  · rw [onS_o ho] at hp
    refine v_aload_n C dX5_gap_0 rfl ?_
    refine v_iload_n C dX5_gap_1 rfl ?_
    refine v_callV1_1 C (m_X5_isScatter T B) lk_X5_80 ⟨wt_624, ws_22⟩ 5 rfl dX5_gap_2 ⟨Nat.le_of_ble_eq_true rfl, Nat.le_of_ble_eq_true rfl⟩ (Nat.le_of_ble_eq_true rfl) ⟨Nat.le_of_ble_eq_true rfl, Nat.le_of_ble_eq_true rfl⟩ (by assumption) (cTo_5 (by assumption)) ?_
    refine c_isS_o hM hn hn12 ho ?_
    first | refine v_if_neN C 14 dX5_gap_5 (by omega) (by decide) (fun h5 => ?_) (fun h5 => ?_) | refine v_if_ne C 14 dX5_gap_5 (by decide) (fun h5 => ?_) (fun h5 => ?_)
    · exact absurd h5 (by decide)
    · refine v_aload_n C dX5_gap_8 rfl ?_
      refine v_iconst (v := -1) C dX5_gap_9 (by decide) ?_
      refine v_callV1_2 C (m_X5_refuseLong T B) lk_X5_143 ⟨wt_739, ws_28⟩ 5 rfl dX5_gap_10 ⟨Nat.le_of_ble_eq_true rfl, Nat.le_of_ble_eq_true rfl⟩ (Nat.le_of_ble_eq_true rfl) ⟨Nat.le_of_ble_eq_true rfl, Nat.le_of_ble_eq_true rfl⟩ (by assumption) (cTo_5 (by assumption)) ?_
      refine c_X5_refuseLong (k := 1) hM (by decide) (by decide) ?_
      refine v_lret C Q dX5_gap_13 (Nat.le_of_ble_eq_true rfl) (Nat.le_of_ble_eq_true rfl) ?_
      have w := Mq_rf (k := 1) hR (by decide) hp
      exact w
  · have hMs := hms k (by omega)
    have hMs0 := hMs
    obtain ⟨hk1, hk2, hk3, hk4, hk5, hk6, hk7, hk8, hk9⟩ := hMs
    have hOk := hO.2.1 k hk
    obtain ⟨o1, o2, o3, o4, o5, o6, o7, o8, o9, o10, o11, o12⟩ := id hOk
    rw [onS_k hk (by omega)] at hp
    rcases Oo_or w 2 (by omega) with hq | ⟨v, hv, rfl⟩
    · rw [onS_o hq] at hp
      refine v_aload_n C dX5_gap_0 rfl ?_
      refine v_iload_n C dX5_gap_1 rfl ?_
      refine v_callV1_1 C (m_X5_isScatter T B) lk_X5_80 ⟨wt_624, ws_22⟩ 5 rfl dX5_gap_2 ⟨Nat.le_of_ble_eq_true rfl, Nat.le_of_ble_eq_true rfl⟩ (Nat.le_of_ble_eq_true rfl) ⟨Nat.le_of_ble_eq_true rfl, Nat.le_of_ble_eq_true rfl⟩ (by assumption) (cTo_5 (by assumption)) ?_
      refine c_isS_k hM hn hn12 hk ?_
      first | refine v_if_neN C 14 dX5_gap_5 (by omega) (by decide) (fun h5 => ?_) (fun h5 => ?_) | refine v_if_ne C 14 dX5_gap_5 (by decide) (fun h5 => ?_) (fun h5 => ?_)
      · refine v_iload_n C dX5_gap_14 rfl ?_
        refine v_i2l C dX5_gap_15 ?_
        refine v_lconst (v := lN 0) C dX5_gap_16 rfl ?_
        refine v_lconst (v := lN 1) C dX5_gap_17 rfl ?_
        refine v_callS3_1 C (m_X5_in T B) lk_X5_76 wt_627 dX5_gap_18 ⟨Nat.le_of_ble_eq_true rfl, Nat.le_of_ble_eq_true rfl⟩ (Nat.le_of_ble_eq_true rfl) ⟨Nat.le_of_ble_eq_true rfl, Nat.le_of_ble_eq_true rfl⟩ ?_
        refine c_inN_o (n := 1) (by decide) hq ?_
        first | refine v_if_neN C 31 dX5_gap_21 (by omega) (by decide) (fun h21 => ?_) (fun h21 => ?_) | refine v_if_ne C 31 dX5_gap_21 (by decide) (fun h21 => ?_) (fun h21 => ?_)
        · exact absurd h21 (by decide)
        · refine v_aload_n C dX5_gap_24 rfl ?_
          refine v_bipush (v := -2) C dX5_gap_25 (by decide) ?_
          refine v_callV1_2 C (m_X5_refuseLong T B) lk_X5_143 ⟨wt_739, ws_28⟩ 5 rfl dX5_gap_27 ⟨Nat.le_of_ble_eq_true rfl, Nat.le_of_ble_eq_true rfl⟩ (Nat.le_of_ble_eq_true rfl) ⟨Nat.le_of_ble_eq_true rfl, Nat.le_of_ble_eq_true rfl⟩ (by assumption) (cTo_5 (by assumption)) ?_
          refine c_X5_refuseLong (k := 2) hM (by decide) (by decide) ?_
          refine v_lret C Q dX5_gap_30 (Nat.le_of_ble_eq_true rfl) (Nat.le_of_ble_eq_true rfl) ?_
          have w := Mq_rf (k := 2) hR (by decide) hp
          exact w
      · exact absurd h5 (by decide)
    · rw [onS_k hv (by omega)] at hp
      have hHi : ∀ j, j < 6 → I (M + 11) j = st.2.2 1 j := fun j hj => (htr j hj).2.1
      have fin : ∀ I' : MI, allB (hiW st.2.2 (st.2.1 k 4 0)) (st.2.1 k 2 0) = true → FrS I I' (M + 18) (M + 18) → (∀ j, j < st.2.1 k 2 0 → I' (M + 18) j = nI (hW st.2.2 j)) → V X 0 0 z S I' J R 94 [some (.ref M), some (.int (nI k)), some (.int (nI (b2 cl))), some (.int (nI v)), none, none] [] := by
        intro I' hA hF hc
        rw [if_pos hA] at hp
        have hh : ∀ j, j < st.2.1 k 2 0 → st.2.2 1 j = nI (hW st.2.2 j) ∧ hW st.2.2 j ≤ st.2.1 k 4 0 := fun j hj => hi_nI (by omega) (allB_iff.mp hA j hj)
        have hpr := prodN_le (f := hW st.2.2) (M := st.2.1 k 4 0) (n := st.2.1 k 2 0) (fun j hj => (hh j hj).2)
        have hc48 := c48 o6 o3
        have hcp := c_pos o5 (st.2.1 k 2 0)
        have hin := inW_le (st.2.1 k) (st.2.2 1) cl (st.2.1 k 4 0)
        have hsh : inW (st.2.1 k) (st.2.2 1) cl (st.2.1 k 4 0) * st.2.1 k 4 0 ^ (st.2.1 k 2 0 - 1) ≤ st.2.1 k 4 0 ^ st.2.1 k 2 0 := by
          rw [← pow_pred o2]
          exact Nat.mul_le_mul_right _ hin
        have ein : inW (st.2.1 k) (fun j => nI (hW st.2.2 j)) cl (st.2.1 k 4 0) = inW (st.2.1 k) (st.2.2 1) cl (st.2.1 k 4 0) := inW_congr (fun j hj => (hh j hj).1.symm)
        have cD : MsR I' M k (st.2.1 k) := hMs0.up (fun q i h1 h2 => hF q i (by omega))
        have c2 : I' (M + 2) k = nI (st.2.1 k 2 0) := cD.2.1
        have c4 : I' (M + 4) k = nI (st.2.1 k 4 0) := cD.2.2.2.1
        have hsq := fun {Q : MI → MJ → Prop} (q : Mq M st I J Q) => Mq_scr (I' := I') (J' := J) hR (hF.wide (by omega) (by omega)) (fun _ _ _ => rfl) q
        unfold gapW at hp
        generalize hsha : inW (st.2.1 k) (st.2.2 1) cl (st.2.1 k 4 0) * st.2.1 k 4 0 ^ (st.2.1 k 2 0 - 1) = sh at *
        generalize hsia : prodN (hW st.2.2) (st.2.1 k 2 0) = si at *
        have hds := dst_le hsh hpr
        have hxI := sub_I (a := si) (b := sh) (by omega) (by omega)
        have hxn : (lN si - lN sh).toInt.natAbs = dst sh si := by rw [hxI, dst_I, dst_c]
        have aft : ∀ y : Int64, y = lN (dst sh si) → V X 0 0 z S I' J R 117 [some (.ref M), some (.int (nI k)), none, some (.int (nI v)), none, none] [.long y] := by
          intro y hy
          subst hy
          refine v_aload_n C dX5_gap_117 rfl ?_
          refine g_5_4 C (by assumption) (by assumption) wt_537 dX5_gap_118 ?_
          refine v_iload_n C dX5_gap_121 rfl ?_
          first | refine v_ialdN C (by assumption) (by omega) (by omega) dX5_gap_122 ?_ | refine v_iald C (by assumption) (by assumption) dX5_gap_122 ?_
          rw [c4]
          first | refine v_i2lN C dX5_gap_123 (by omega) ?_ | refine v_i2l C dX5_gap_123 ?_
          refine v_aload_n C dX5_gap_124 rfl ?_
          refine g_5_2 C (by assumption) (by assumption) wt_535 dX5_gap_125 ?_
          refine v_iload_n C dX5_gap_128 rfl ?_
          first | refine v_ialdN C (by assumption) (by omega) (by omega) dX5_gap_129 ?_ | refine v_iald C (by assumption) (by assumption) dX5_gap_129 ?_
          rw [c2]
          refine v_callS2_2 C (m_X5_power T B) lk_X5_140 wt_751 dX5_gap_130 ⟨Nat.le_of_ble_eq_true rfl, Nat.le_of_ble_eq_true rfl⟩ (Nat.le_of_ble_eq_true rfl) ⟨Nat.le_of_ble_eq_true rfl, Nat.le_of_ble_eq_true rfl⟩ ?_
          refine c_X5_power (by omega) ?_
          refine v_iload_n C dX5_gap_133 rfl ?_
          first | refine v_if_neN C 141 dX5_gap_134 (by omega) (by decide) (fun h134 => ?_) (fun h134 => ?_) | refine v_if_ne C 141 dX5_gap_134 (by decide) (fun h134 => ?_) (fun h134 => ?_)
          · rw [show decide (v = 1) = decide (0 = 0) from by rw [decide_eq_true (show v = 1 by omega), decide_eq_true rfl]] at hp
            refine v_iconstN 0 C dX5_gap_141 ?_
            refine v_callS3_2 C (m_X5_ratio T B) lk_X5_151 wt_754 dX5_gap_142 ⟨Nat.le_of_ble_eq_true rfl, Nat.le_of_ble_eq_true rfl⟩ (Nat.le_of_ble_eq_true rfl) ⟨Nat.le_of_ble_eq_true rfl, Nat.le_of_ble_eq_true rfl⟩ ?_
            refine c_X5_ratio (by rw [lN_I (by omega)]; omega) (by omega) hcp (by omega) ?_
            refine v_lret C Q dX5_gap_145 (Nat.le_of_ble_eq_true rfl) (Nat.le_of_ble_eq_true rfl) ?_
            have w := hsq hp
            exact w
          · rw [show decide (v = 1) = decide (1 = 0) from by rw [decide_eq_false (show ¬ v = 1 by omega), decide_eq_false (by decide)]] at hp
            refine v_iconstN 1 C dX5_gap_137 ?_
            refine v_goto C 142 dX5_gap_138 (by decide) ?_
            refine v_callS3_2 C (m_X5_ratio T B) lk_X5_151 wt_754 dX5_gap_142 ⟨Nat.le_of_ble_eq_true rfl, Nat.le_of_ble_eq_true rfl⟩ (Nat.le_of_ble_eq_true rfl) ⟨Nat.le_of_ble_eq_true rfl, Nat.le_of_ble_eq_true rfl⟩ ?_
            refine c_X5_ratio (by rw [lN_I (by omega)]; omega) (by omega) hcp (by omega) ?_
            refine v_lret C Q dX5_gap_145 (Nat.le_of_ble_eq_true rfl) (Nat.le_of_ble_eq_true rfl) ?_
            have w := hsq hp
            exact w
        refine v_aload_n C dX5_gap_94 rfl ?_
        refine v_iload_n C dX5_gap_95 rfl ?_
        refine v_iload_n C dX5_gap_96 rfl ?_
        refine v_callV2_2 C (m_X5_cornerLess T B) lk_X5_147 ⟨wt_744, ws_29⟩ 5 rfl dX5_gap_97 ⟨Nat.le_of_ble_eq_true rfl, Nat.le_of_ble_eq_true rfl⟩ (Nat.le_of_ble_eq_true rfl) ⟨Nat.le_of_ble_eq_true rfl, Nat.le_of_ble_eq_true rfl⟩ (by assumption) (cTo_5 (by assumption)) ?_
        refine c_X5_cornerLess (h := hW st.2.2) hM cD (by omega) hOk (fun j hj => ⟨hc j hj, by have := (hh j hj).2; omega⟩) ?_
        rw [ein, hsha, hsia]
        refine v_lstore C dX5_gap_100 (by decide) ?_
        refine v_lload C dX5_gap_102 rfl ?_
        refine v_lconst (v := lN 0) C dX5_gap_104 rfl ?_
        refine v_lcmp C dX5_gap_105 ?_
        refine v_lcif_ge C 115 dX5_gap_106 (by decide) (fun h106 => ?_) (fun h106 => ?_)
        · refine v_lload C dX5_gap_115 rfl ?_
          first
          | exact v_less (aft _ (by rw [← hxn]; exact ab_pos (by rw [hxn]; omega) h106)) (by repeat (first | exact trivial | refine And.intro rfl ?_))
          | exact v_less (aft _ (by rw [← hxn]; exact ab_neg (by rw [hxn]; omega) h106)) (by repeat (first | exact trivial | refine And.intro rfl ?_))
        · refine v_lload C dX5_gap_109 rfl ?_
          refine v_lneg C dX5_gap_111 ?_
          refine v_goto C 117 dX5_gap_112 (by decide) ?_
          first
          | exact v_less (aft _ (by rw [← hxn]; exact ab_pos (by rw [hxn]; omega) h106)) (by repeat (first | exact trivial | refine And.intro rfl ?_))
          | exact v_less (aft _ (by rw [← hxn]; exact ab_neg (by rw [hxn]; omega) h106)) (by repeat (first | exact trivial | refine And.intro rfl ?_))
      have loop : ∀ j : Nat, j ≤ st.2.1 k 2 0 → ∀ I' : MI, FrS I I' (M + 18) (M + 18) → (∀ i, i < j → hiW st.2.2 (st.2.1 k 4 0) i = true ∧ I' (M + 18) i = nI (hW st.2.2 i)) → V X 0 0 z S I' J R 34 [some (.ref M), some (.int (nI k)), some (.int (nI (b2 cl))), some (.int (nI v)), some (.int (nI j)), none] [] := by
        refine lp_up (st.2.1 k 2 0) ?_
        intro j hj ih I' hF hA
        have c2 : I' (M + 2) k = nI (st.2.1 k 2 0) := (hF _ _ (by omega)).trans hk2
        have c4 : I' (M + 4) k = nI (st.2.1 k 4 0) := (hF _ _ (by omega)).trans hk4
        have cW := fun h : j < 6 => (hF (M + 11) j (by omega)).trans (hHi j h)
        by_cases hmy : j < st.2.1 k 2 0 ∧ ¬ hiW st.2.2 (st.2.1 k 4 0) j = true
        · rw [if_neg (fun q => hmy.2 (allB_iff.mp q j hmy.1))] at hp
          refine v_iload C dX5_gap_34 rfl ?_
          refine v_aload_n C dX5_gap_36 rfl ?_
          refine g_5_2 C (by assumption) (by assumption) wt_535 dX5_gap_37 ?_
          refine v_iload_n C dX5_gap_40 rfl ?_
          first | refine v_ialdN C (by assumption) (by omega) (by omega) dX5_gap_41 ?_ | refine v_iald C (by assumption) (by assumption) dX5_gap_41 ?_
          rw [c2]
          first | refine v_icmp_geN C 94 dX5_gap_42 (by omega) (by omega) (by decide) (fun h42 => ?_) (fun h42 => ?_) | refine v_icmp_ge C 94 dX5_gap_42 (by decide) (fun h42 => ?_) (fun h42 => ?_)
          · exact absurd hmy.1 (by omega)
          · refine v_aload_n C dX5_gap_45 rfl ?_
            refine g_5_11 C (by assumption) (by assumption) wt_544 dX5_gap_46 ?_
            refine v_iload C dX5_gap_49 rfl ?_
            first | refine v_ialdN C (by assumption) (by omega) (by omega) dX5_gap_51 ?_ | refine v_iald C (by assumption) (by assumption) dX5_gap_51 ?_
            rw [cW (by omega)]
            refine v_i2l C dX5_gap_52 ?_
            refine v_lconst (v := lN 0) C dX5_gap_53 rfl ?_
            refine v_aload_n C dX5_gap_54 rfl ?_
            refine g_5_4 C (by assumption) (by assumption) wt_537 dX5_gap_55 ?_
            refine v_iload_n C dX5_gap_58 rfl ?_
            first | refine v_ialdN C (by assumption) (by omega) (by omega) dX5_gap_59 ?_ | refine v_iald C (by assumption) (by assumption) dX5_gap_59 ?_
            rw [c4]
            first | refine v_i2lN C dX5_gap_60 (by omega) ?_ | refine v_i2l C dX5_gap_60 ?_
            refine v_callS3_1 C (m_X5_in T B) lk_X5_76 wt_627 dX5_gap_61 ⟨Nat.le_of_ble_eq_true rfl, Nat.le_of_ble_eq_true rfl⟩ (Nat.le_of_ble_eq_true rfl) ⟨Nat.le_of_ble_eq_true rfl, Nat.le_of_ble_eq_true rfl⟩ ?_
            refine c_inN_o (by omega) (hi_Oo (by omega) hmy.2) ?_
            first | refine v_if_neN C 74 dX5_gap_64 (by omega) (by decide) (fun h64 => ?_) (fun h64 => ?_) | refine v_if_ne C 74 dX5_gap_64 (by decide) (fun h64 => ?_) (fun h64 => ?_)
            · exact absurd h64 (by decide)
            · refine v_aload_n C dX5_gap_67 rfl ?_
              refine v_bipush (v := -3) C dX5_gap_68 (by decide) ?_
              refine v_callV1_2 C (m_X5_refuseLong T B) lk_X5_143 ⟨wt_739, ws_28⟩ 5 rfl dX5_gap_70 ⟨Nat.le_of_ble_eq_true rfl, Nat.le_of_ble_eq_true rfl⟩ (Nat.le_of_ble_eq_true rfl) ⟨Nat.le_of_ble_eq_true rfl, Nat.le_of_ble_eq_true rfl⟩ (by assumption) (cTo_5 (by assumption)) ?_
              refine c_X5_refuseLong (k := 3) hM (by decide) (by decide) ?_
              refine v_lret C Q dX5_gap_73 (Nat.le_of_ble_eq_true rfl) (Nat.le_of_ble_eq_true rfl) ?_
              have w := Mq_rf2 (a := 3) hR (hF.wide (by omega) (by omega)) (by decide) hp
              exact w
        · have hmj : j < st.2.1 k 2 0 → hiW st.2.2 (st.2.1 k 4 0) j = true := fun h => Decidable.byContradiction (fun q => hmy ⟨h, q⟩)
          refine v_iload C dX5_gap_34 rfl ?_
          refine v_aload_n C dX5_gap_36 rfl ?_
          refine g_5_2 C (by assumption) (by assumption) wt_535 dX5_gap_37 ?_
          refine v_iload_n C dX5_gap_40 rfl ?_
          first | refine v_ialdN C (by assumption) (by omega) (by omega) dX5_gap_41 ?_ | refine v_iald C (by assumption) (by assumption) dX5_gap_41 ?_
          rw [c2]
          first | refine v_icmp_geN C 94 dX5_gap_42 (by omega) (by omega) (by decide) (fun h42 => ?_) (fun h42 => ?_) | refine v_icmp_ge C 94 dX5_gap_42 (by decide) (fun h42 => ?_) (fun h42 => ?_)
          · obtain rfl : j = st.2.1 k 2 0 := by omega
            exact v_less (fin I' (allB_iff.mpr (fun i hi => (hA i hi).1)) hF (fun i hi => (hA i hi).2)) (by repeat (first | exact trivial | refine And.intro rfl ?_))
          · obtain ⟨q1, q2⟩ := hi_nI (by omega) (hmj h42)
            refine v_aload_n C dX5_gap_45 rfl ?_
            refine g_5_11 C (by assumption) (by assumption) wt_544 dX5_gap_46 ?_
            refine v_iload C dX5_gap_49 rfl ?_
            first | refine v_ialdN C (by assumption) (by omega) (by omega) dX5_gap_51 ?_ | refine v_iald C (by assumption) (by assumption) dX5_gap_51 ?_
            rw [cW (by omega)]
            refine v_i2l C dX5_gap_52 ?_
            refine v_lconst (v := lN 0) C dX5_gap_53 rfl ?_
            refine v_aload_n C dX5_gap_54 rfl ?_
            refine g_5_4 C (by assumption) (by assumption) wt_537 dX5_gap_55 ?_
            refine v_iload_n C dX5_gap_58 rfl ?_
            first | refine v_ialdN C (by assumption) (by omega) (by omega) dX5_gap_59 ?_ | refine v_iald C (by assumption) (by assumption) dX5_gap_59 ?_
            rw [c4]
            first | refine v_i2lN C dX5_gap_60 (by omega) ?_ | refine v_i2l C dX5_gap_60 ?_
            refine v_callS3_1 C (m_X5_in T B) lk_X5_76 wt_627 dX5_gap_61 ⟨Nat.le_of_ble_eq_true rfl, Nat.le_of_ble_eq_true rfl⟩ (Nat.le_of_ble_eq_true rfl) ⟨Nat.le_of_ble_eq_true rfl, Nat.le_of_ble_eq_true rfl⟩ ?_
            refine c_inN_k (by omega) (hi_no (by omega) (hmj h42)) ?_
            first | refine v_if_neN C 74 dX5_gap_64 (by omega) (by decide) (fun h64 => ?_) (fun h64 => ?_) | refine v_if_ne C 74 dX5_gap_64 (by decide) (fun h64 => ?_) (fun h64 => ?_)
            · refine v_aload_n C dX5_gap_74 rfl ?_
              refine g_5_19 C (by assumption) (by assumption) wt_552 dX5_gap_75 ?_
              refine v_iload C dX5_gap_78 rfl ?_
              refine v_aload_n C dX5_gap_80 rfl ?_
              refine g_5_11 C (by assumption) (by assumption) wt_544 dX5_gap_81 ?_
              refine v_iload C dX5_gap_84 rfl ?_
              first | refine v_ialdN C (by assumption) (by omega) (by omega) dX5_gap_86 ?_ | refine v_iald C (by assumption) (by assumption) dX5_gap_86 ?_
              rw [cW (by omega), q1]
              first | refine v_iastN C (by assumption) (by omega) (by omega) dX5_gap_87 ?_ | refine v_iast C (by assumption) (by assumption) dX5_gap_87 ?_
              first | refine v_iincN 1 C dX5_gap_88 rfl (by decide) ?_ | refine v_iinc C dX5_gap_88 rfl rfl (by decide) ?_
              refine v_goto C 34 dX5_gap_91 (by decide) ?_
              refine v_less (ih h42 _ (hF.mu (by omega) (by omega)) (fun i hi => ?_)) (by repeat (first | exact trivial | refine And.intro rfl ?_))
              by_cases e : i = j
              · subst e; rw [mu_at]; exact ⟨hmj h42, rfl⟩
              · rw [mu_other _ _ (by omega)]; exact hA i (by omega)
            · exact absurd h64 (by decide)
      refine v_aload_n C dX5_gap_0 rfl ?_
      refine v_iload_n C dX5_gap_1 rfl ?_
      refine v_callV1_1 C (m_X5_isScatter T B) lk_X5_80 ⟨wt_624, ws_22⟩ 5 rfl dX5_gap_2 ⟨Nat.le_of_ble_eq_true rfl, Nat.le_of_ble_eq_true rfl⟩ (Nat.le_of_ble_eq_true rfl) ⟨Nat.le_of_ble_eq_true rfl, Nat.le_of_ble_eq_true rfl⟩ (by assumption) (cTo_5 (by assumption)) ?_
      refine c_isS_k hM hn hn12 hk ?_
      first | refine v_if_neN C 14 dX5_gap_5 (by omega) (by decide) (fun h5 => ?_) (fun h5 => ?_) | refine v_if_ne C 14 dX5_gap_5 (by decide) (fun h5 => ?_) (fun h5 => ?_)
      · refine v_iload_n C dX5_gap_14 rfl ?_
        refine v_i2l C dX5_gap_15 ?_
        refine v_lconst (v := lN 0) C dX5_gap_16 rfl ?_
        refine v_lconst (v := lN 1) C dX5_gap_17 rfl ?_
        refine v_callS3_1 C (m_X5_in T B) lk_X5_76 wt_627 dX5_gap_18 ⟨Nat.le_of_ble_eq_true rfl, Nat.le_of_ble_eq_true rfl⟩ (Nat.le_of_ble_eq_true rfl) ⟨Nat.le_of_ble_eq_true rfl, Nat.le_of_ble_eq_true rfl⟩ ?_
        refine c_inN_k (n := 1) (by decide) (Oo_not hv (by decide)) ?_
        first | refine v_if_neN C 31 dX5_gap_21 (by omega) (by decide) (fun h21 => ?_) (fun h21 => ?_) | refine v_if_ne C 31 dX5_gap_21 (by decide) (fun h21 => ?_) (fun h21 => ?_)
        · refine v_iconstN 0 C dX5_gap_31 ?_
          refine v_istore C dX5_gap_32 (by decide) ?_
          exact v_less (loop 0 (Nat.zero_le _) I FrS.rf (fun i hi => absurd hi (by omega))) (by repeat (first | exact trivial | refine And.intro rfl ?_))
        · exact absurd h21 (by decide)
      · exact absurd h5 (by decide)
