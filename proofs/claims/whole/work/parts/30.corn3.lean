def s_X0_countBelow : Sp := fun av z S I J R Post => ∃ (k a c d r : Nat), ∃ (P : Nat → Nat → Nat), av = [.ref k, .ref a, .ref r] ∧ (S k = (1, 0)) ∧ (ScS S R a c) ∧ (S r = (7, 4913)) ∧ (r < k ∧ k < a) ∧ (I a 2 = nI c) ∧ (I a 3 = nI d) ∧ (1 ≤ d) ∧ (d ≤ 3) ∧ (I k 5 = nI (c + 1)) ∧ (I k 6 = nI ((c + 1) ^ d)) ∧ ((c + 1) ^ d ≤ 4913) ∧ (∀ n j, n < c → j < d → I (a + 4) (j * c + n) = nI (P n j) ∧ P n j < c) ∧ (∀ I' : MI, FrS I I' r r → (∀ x, x < (c + 1) ^ d → I' r x = nI (cB (c + 1) d (fun n => pl (fun j => P n j + 1) (c + 1) d) c d x)) → Post 0 0 none z S I' J R)
theorem c_X0_countBelow {k a c d r : Nat} {P : Nat → Nat → Nat} {z : Nat} {S : MS} {I : MI} {J : MJ} {R : MR} {Post : PT} (hk : S k = (1, 0)) (hSc : ScS S R a c) (hr : S r = (7, 4913)) (hra : r < k ∧ k < a) (hcc : I a 2 = nI c) (hd : I a 3 = nI d) (hd1 : 1 ≤ d) (hd3 : d ≤ 3) (hb : I k 5 = nI (c + 1)) (hN : I k 6 = nI ((c + 1) ^ d)) (hN2 : (c + 1) ^ d ≤ 4913) (hP : ∀ n j, n < c → j < d → I (a + 4) (j * c + n) = nI (P n j) ∧ P n j < c) (hp : ∀ I' : MI, FrS I I' r r → (∀ x, x < (c + 1) ^ d → I' r x = nI (cB (c + 1) d (fun n => pl (fun j => P n j + 1) (c + 1) d) c d x)) → Post 0 0 none z S I' J R) : s_X0_countBelow [.ref k, .ref a, .ref r] z S I J R Post := ⟨k, a, c, d, r, P, rfl, hk, hSc, hr, hra, hcc, hd, hd1, hd3, hb, hN, hN2, hP, hp⟩
set_option maxRecDepth 100000 in
set_option maxHeartbeats 1000000 in
theorem m_X0_countBelow (T : TC) (B : Nat) : Mt T B yX0_countBelow cX0_countBelow 6 none 0 (rmL 3 0 0) s_X0_countBelow := by
  refine Mt_of rfl (by rintro _ _ _ _ _ _ _ ⟨_, _, _, _, _, _, rfl, -⟩; exact Nat.le_of_ble_eq_true rfl) ?_
  intro X av z S I J R Post h C Q hI
  obtain ⟨k, a, c, d, r, P, rfl, hk, hSc, hr, hra, hcc, hd, hd1, hd3, hb, hN, hN2, hP, hp⟩ := h
  have hSc0 := hSc
  obtain ⟨hs, hr5, hr6, hr7, hr8, hsa1, hs2, hs3, hs4, hc1, hc2⟩ := hSc
  generalize hbe : c + 1 = b at *
  generalize hNe : b ^ d = N at *
  generalize hg : (fun n => pl (fun j => P n j + 1) b d) = g at hp
  have hgn : ∀ n, pl (fun j => P n j + 1) b d = g n := fun n => by rw [← hg]
  have hgl : ∀ n, n < c → g n < N := fun n hn => by rw [← hgn, ← hNe]; exact pl_lt (fun j hj => by have := (hP n j hn hj).2; omega)
  have hbt : ∀ t, t ≤ d → 1 ≤ b ^ t ∧ b ^ t ≤ N := fun t ht => ⟨Nat.pow_pos (by omega), by rw [← hNe]; exact Nat.pow_le_pow_right (by omega) ht⟩
  have lp3 : ∀ t : Nat, t < d → ∀ x : Nat, x ≤ N → b ^ t ≤ x → ∀ I' : MI, FrS I I' r r → (∀ y, y < N → I' r y = nI (if y < x then cB b d g c (t + 1) y else cB b d g c t y)) →
      (∀ I' : MI, FrS I I' r r → (∀ y, y < N → I' r y = nI (cB b d g c (t + 1) y)) → V X 0 0 z S I' J R 79 [some (.ref k), some (.ref a), some (.ref r), some (.int (nI (b ^ (t + 1)))), some (.int (nI (t + 1))), none] []) →
      V X 0 0 z S I' J R 91 [some (.ref k), some (.ref a), some (.ref r), some (.int (nI (b ^ t))), some (.int (nI t)), some (.int (nI x))] [] := by
    intro t ht
    obtain ⟨q1, q2⟩ := hbt t (by omega)
    refine lp_up N ?_
    intro x hx ih hbx I' hF hI K
    have f5 : I' k 5 = nI b := (hF k 5 (by omega)).trans hb
    have f6 : I' k 6 = nI N := (hF k 6 (by omega)).trans hN
    have hle : x / b ^ t ≤ x := Nat.div_le_self _ _
    have hmd : x / b ^ t % b < b := Nat.mod_lt _ (by omega)
    refine v_iload C dX0_countBelow_91 rfl ?_
    refine v_aload_n C dX0_countBelow_93 rfl ?_
    first | refine gv_0_6 C (by assumption) (by assumption) wt_78 dX0_countBelow_94 ?_ | refine g_0_6 C (by assumption) wt_78 dX0_countBelow_94 ?_
    first | refine v_icmp_geN C 131 dX0_countBelow_97 (by omega) (by omega) (by decide) (fun h97 => ?_) (fun h97 => ?_) | refine v_icmp_ge C 131 dX0_countBelow_97 (by decide) (fun h97 => ?_) (fun h97 => ?_)
    · refine v_iload_n C dX0_countBelow_131 rfl ?_
      refine v_aload_n C dX0_countBelow_132 rfl ?_
      first | refine gv_0_5 C (by assumption) (by assumption) wt_77 dX0_countBelow_133 ?_ | refine g_0_5 C (by assumption) wt_77 dX0_countBelow_133 ?_
      first | refine v_imulN C dX0_countBelow_136 ?_ | refine v_imul C dX0_countBelow_136 ?_
      refine v_istore_n C dX0_countBelow_137 (by decide) ?_
      rw [← Nat.pow_succ]
      first | refine v_iincN 1 C dX0_countBelow_138 rfl (by decide) ?_ | refine v_iinc C dX0_countBelow_138 rfl rfl (by decide) ?_
      refine v_goto C 79 dX0_countBelow_141 (by decide) ?_
      exact v_less (K I' hF (fun y hy => by rw [hI y hy, if_pos (by omega)])) (by repeat (first | exact trivial | refine And.intro rfl ?_))
    · refine v_iload C dX0_countBelow_100 rfl ?_
      refine v_iload_n C dX0_countBelow_102 rfl ?_
      first | refine v_idivN C dX0_countBelow_103 (by omega) (by omega) (by omega) ?_ | refine v_idiv C dX0_countBelow_103 (by assumption) ?_
      refine v_aload_n C dX0_countBelow_104 rfl ?_
      first | refine gv_0_5 C (by assumption) (by assumption) wt_77 dX0_countBelow_105 ?_ | refine g_0_5 C (by assumption) wt_77 dX0_countBelow_105 ?_
      first | refine v_iremN C dX0_countBelow_108 (by omega) (by omega) (by omega) ?_ | refine v_irem C dX0_countBelow_108 (by assumption) ?_
      first | refine v_if_leN C 125 dX0_countBelow_109 (by omega) (by decide) (fun h109 => ?_) (fun h109 => ?_) | refine v_if_le C 125 dX0_countBelow_109 (by decide) (fun h109 => ?_) (fun h109 => ?_)
      · have hfl := cB_flat (b := b) (d := d) (g := g) (c := c) (t := t) (x := x) h109
        first | refine v_iincN 1 C dX0_countBelow_125 rfl (by decide) ?_ | refine v_iinc C dX0_countBelow_125 rfl rfl (by decide) ?_
        refine v_goto C 91 dX0_countBelow_128 (by decide) ?_
        first
        | exact v_less (ih h97 (by omega) I' hF (fun y hy => by
            rw [hI y hy]
            congr 1
            by_cases ey : y = x
            · subst ey; rw [if_neg (by omega), if_pos (by omega), hfl]
            · by_cases el : y < x
              · rw [if_pos el, if_pos (by omega)]
              · rw [if_neg el, if_neg (by omega)]) K) (by repeat (first | exact trivial | refine And.intro rfl ?_))
        | exact v_less (ih h97 (by omega) _ (hF.mu (by omega) (by omega)) (fun y hy => by
            by_cases ey : y = x
            · subst ey; rw [mu_at, if_pos (by omega)]
            · rw [mu_other _ _ (fun q => ey q.2), hI y hy]
              congr 1
              by_cases el : y < x
              · rw [if_pos el, if_pos (by omega)]
              · rw [if_neg el, if_neg (by omega)]) K) (by repeat (first | exact trivial | refine And.intro rfl ?_))
      · obtain ⟨s1, s2, s3⟩ := dg_sub (b := b) (t := t) (x := x) (by omega) h109
        have hst := cB_step (b := b) (d := d) (by omega) (g := g) (c := c) ht h109
        have e1 := hI x h97
        have e2 := hI (x - b ^ t) (by omega)
        rw [if_neg (by omega)] at e1
        rw [if_pos (by omega)] at e2
        have l1 := cB_le b d g c t x
        have l2 := cB_le b d g c (t + 1) (x - b ^ t)
        refine v_aload_n C dX0_countBelow_112 rfl ?_
        refine v_iload C dX0_countBelow_113 rfl ?_
        refine v_dup2 C dX0_countBelow_115 rfl rfl ?_
        first | refine v_ialdN C (by assumption) (by omega) (by omega) dX0_countBelow_116 ?_ | refine v_iald C (by assumption) (by assumption) dX0_countBelow_116 ?_
        rw [e1]
        refine v_aload_n C dX0_countBelow_117 rfl ?_
        refine v_iload C dX0_countBelow_118 rfl ?_
        refine v_iload_n C dX0_countBelow_120 rfl ?_
        first | refine v_isubN C dX0_countBelow_121 (by omega) ?_ | refine v_isub C dX0_countBelow_121 ?_
        first | refine v_ialdN C (by assumption) (by omega) (by omega) dX0_countBelow_122 ?_ | refine v_iald C (by assumption) (by assumption) dX0_countBelow_122 ?_
        rw [e2]
        first | refine v_iaddN C dX0_countBelow_123 ?_ | refine v_iadd C dX0_countBelow_123 ?_
        rw [← hst]
        first | refine v_iastN C (by assumption) (by omega) (by omega) dX0_countBelow_124 ?_ | refine v_iast C (by assumption) (by assumption) dX0_countBelow_124 ?_
        first | refine v_iincN 1 C dX0_countBelow_125 rfl (by decide) ?_ | refine v_iinc C dX0_countBelow_125 rfl rfl (by decide) ?_
        refine v_goto C 91 dX0_countBelow_128 (by decide) ?_
        first
        | exact v_less (ih h97 (by omega) I' hF (fun y hy => by
            rw [hI y hy]
            congr 1
            by_cases ey : y = x
            · subst ey; rw [if_neg (by omega), if_pos (by omega), hfl]
            · by_cases el : y < x
              · rw [if_pos el, if_pos (by omega)]
              · rw [if_neg el, if_neg (by omega)]) K) (by repeat (first | exact trivial | refine And.intro rfl ?_))
        | exact v_less (ih h97 (by omega) _ (hF.mu (by omega) (by omega)) (fun y hy => by
            by_cases ey : y = x
            · subst ey; rw [mu_at, if_pos (by omega)]
            · rw [mu_other _ _ (fun q => ey q.2), hI y hy]
              congr 1
              by_cases el : y < x
              · rw [if_pos el, if_pos (by omega)]
              · rw [if_neg el, if_neg (by omega)]) K) (by repeat (first | exact trivial | refine And.intro rfl ?_))
  have lp2 : ∀ t : Nat, t ≤ d → ∀ I' : MI, FrS I I' r r → (∀ y, y < N → I' r y = nI (cB b d g c t y)) → V X 0 0 z S I' J R 79 [some (.ref k), some (.ref a), some (.ref r), some (.int (nI (b ^ t))), some (.int (nI t)), none] [] := by
    refine lp_up d ?_
    intro t ht ih I' hF hI
    have f3 : I' a 3 = nI d := (hF a 3 (by omega)).trans hd
    obtain ⟨q1, q2⟩ := hbt t ht
    refine v_iload C dX0_countBelow_79 rfl ?_
    refine v_aload_n C dX0_countBelow_81 rfl ?_
    first | refine gv_2_3 C (by assumption) (by assumption) wt_155 dX0_countBelow_82 ?_ | refine g_2_3 C (by assumption) wt_155 dX0_countBelow_82 ?_
    first | refine v_icmp_geN C 144 dX0_countBelow_85 (by omega) (by omega) (by decide) (fun h85 => ?_) (fun h85 => ?_) | refine v_icmp_ge C 144 dX0_countBelow_85 (by decide) (fun h85 => ?_) (fun h85 => ?_)
    · refine v_ret C Q dX0_countBelow_144 (Nat.le_of_ble_eq_true rfl) (Nat.le_of_ble_eq_true rfl) ?_
      obtain rfl : t = d := by omega
      exact hp I' hF hI
    · refine v_iload_n C dX0_countBelow_88 rfl ?_
      refine v_istore C dX0_countBelow_89 (by decide) ?_
      exact v_less (lp3 t h85 (b ^ t) q2 (Nat.le_refl _) I' hF (fun y hy => by
        rw [hI y hy]
        by_cases el : y < b ^ t
        · rw [if_pos el, cB_flat (by unfold dg; rw [Nat.div_eq_of_lt el]; exact Nat.zero_mod _)]
        · rw [if_neg el]) (ih h85)) (by repeat (first | exact trivial | refine And.intro rfl ?_))
  have in1 : ∀ n : Nat, n < c → ∀ j : Nat, j ≤ d → ∀ I' : MI, FrS I I' r r → (∀ u, u < N → I' r u = nI (qc g u n)) →
      (∀ I' : MI, FrS I I' r r → (∀ u, u < N → I' r u = nI (qc g u (n + 1))) → V X 0 0 z S I' J R 12 [some (.ref k), some (.ref a), some (.ref r), some (.int (nI (n + 1))), none, none] []) →
      V X 0 0 z S I' J R 26 [some (.ref k), some (.ref a), some (.ref r), some (.int (nI n)), some (.int (nI (pl (fun j => P n j + 1) b j))), some (.int (nI j))] [] := by
    intro n hn
    refine lp_up d ?_
    intro j hj ih I' hF hI K
    have f2 : I' a 2 = nI c := (hF a 2 (by omega)).trans hcc
    have f3 : I' a 3 = nI d := (hF a 3 (by omega)).trans hd
    have f5 : I' k 5 = nI b := (hF k 5 (by omega)).trans hb
    have hgb := hgl n hn
    refine v_iload C dX0_countBelow_26 rfl ?_
    refine v_aload_n C dX0_countBelow_28 rfl ?_
    first | refine gv_2_3 C (by assumption) (by assumption) wt_155 dX0_countBelow_29 ?_ | refine g_2_3 C (by assumption) wt_155 dX0_countBelow_29 ?_
    first | refine v_icmp_geN C 60 dX0_countBelow_32 (by omega) (by omega) (by decide) (fun h32 => ?_) (fun h32 => ?_) | refine v_icmp_ge C 60 dX0_countBelow_32 (by decide) (fun h32 => ?_) (fun h32 => ?_)
    · obtain rfl : j = d := by omega
      rw [hgn n]
      refine v_aload_n C dX0_countBelow_60 rfl ?_
      refine v_iload C dX0_countBelow_61 rfl ?_
      refine v_dup2 C dX0_countBelow_63 rfl rfl ?_
      first | refine v_ialdN C (by assumption) (by omega) (by omega) dX0_countBelow_64 ?_ | refine v_iald C (by assumption) (by assumption) dX0_countBelow_64 ?_
      rw [hI _ hgb]
      refine v_iconstN 1 C dX0_countBelow_65 ?_
      first | refine v_iaddN C dX0_countBelow_66 ?_ | refine v_iadd C dX0_countBelow_66 ?_
      first | refine v_iastN C (by assumption) (by omega) (by omega) dX0_countBelow_67 ?_ | refine v_iast C (by assumption) (by assumption) dX0_countBelow_67 ?_
      first | refine v_iincN 1 C dX0_countBelow_68 rfl (by decide) ?_ | refine v_iinc C dX0_countBelow_68 rfl rfl (by decide) ?_
      refine v_goto C 12 dX0_countBelow_71 (by decide) ?_
      exact v_less (K _ (hF.mu (by omega) (by omega)) (hist hI)) (by repeat (first | exact trivial | refine And.intro rfl ?_))
    · obtain ⟨p1, p2⟩ := hP n j hn h32
      refine v_iload C dX0_countBelow_35 rfl ?_
      refine v_aload_n C dX0_countBelow_37 rfl ?_
      first | refine gv_0_5 C (by assumption) (by assumption) wt_77 dX0_countBelow_38 ?_ | refine g_0_5 C (by assumption) wt_77 dX0_countBelow_38 ?_
      first | refine v_imulN C dX0_countBelow_41 ?_ | refine v_imul C dX0_countBelow_41 ?_
      refine v_aload_n C dX0_countBelow_42 rfl ?_
      refine v_iload_n C dX0_countBelow_43 rfl ?_
      refine v_iload C dX0_countBelow_44 rfl ?_
      refine v_callV2_1 C (m_X2_partAt T B) lk_X0_92 ⟨wt_295, wt_296⟩ 2 rfl dX0_countBelow_46 ⟨Nat.le_of_ble_eq_true rfl, Nat.le_of_ble_eq_true rfl⟩ (Nat.le_of_ble_eq_true rfl) ⟨Nat.le_of_ble_eq_true rfl, Nat.le_of_ble_eq_true rfl⟩ (by assumption) (cTo_2 (by assumption)) ?_
      refine c_X2_partAt hSc0 f2 hn (by omega) ?_
      rw [hF (a + 4) _ (by omega), p1]
      first | refine v_iaddN C dX0_countBelow_49 ?_ | refine v_iadd C dX0_countBelow_49 ?_
      refine v_iconstN 1 C dX0_countBelow_50 ?_
      first | refine v_iaddN C dX0_countBelow_51 ?_ | refine v_iadd C dX0_countBelow_51 ?_
      refine v_istore C dX0_countBelow_52 (by decide) ?_
      first | refine v_iincN 1 C dX0_countBelow_54 rfl (by decide) ?_ | refine v_iinc C dX0_countBelow_54 rfl rfl (by decide) ?_
      refine v_goto C 26 dX0_countBelow_57 (by decide) ?_
      exact v_less (ih h32 I' hF hI K) (by repeat (first | exact trivial | refine And.intro rfl ?_))
  have lp1 : ∀ n : Nat, n ≤ c → ∀ I' : MI, FrS I I' r r → (∀ u, u < N → I' r u = nI (qc g u n)) → V X 0 0 z S I' J R 12 [some (.ref k), some (.ref a), some (.ref r), some (.int (nI n)), none, none] [] := by
    refine lp_up c ?_
    intro n hn ih I' hF hI
    have f2 : I' a 2 = nI c := (hF a 2 (by omega)).trans hcc
    refine v_iload_n C dX0_countBelow_12 rfl ?_
    refine v_aload_n C dX0_countBelow_13 rfl ?_
    first | refine gv_2_2 C (by assumption) (by assumption) wt_149 dX0_countBelow_14 ?_ | refine g_2_2 C (by assumption) wt_149 dX0_countBelow_14 ?_
    first | refine v_icmp_geN C 74 dX0_countBelow_17 (by omega) (by omega) (by decide) (fun h17 => ?_) (fun h17 => ?_) | refine v_icmp_ge C 74 dX0_countBelow_17 (by decide) (fun h17 => ?_) (fun h17 => ?_)
    · refine v_iconstN 1 C dX0_countBelow_74 ?_
      refine v_istore_n C dX0_countBelow_75 (by decide) ?_
      refine v_iconstN 0 C dX0_countBelow_76 ?_
      refine v_istore C dX0_countBelow_77 (by decide) ?_
      obtain rfl : n = c := by omega
      exact v_less (lp2 0 (Nat.zero_le _) I' hF (fun u hu => by rw [hI u hu, cB_0 (by omega) (by rw [hNe]; exact hu) (fun n hn => by rw [hNe]; exact hgl n hn)])) (by repeat (first | exact trivial | refine And.intro rfl ?_))
    · refine v_iconstN 0 C dX0_countBelow_20 ?_
      refine v_istore C dX0_countBelow_21 (by decide) ?_
      refine v_iconstN 0 C dX0_countBelow_23 ?_
      refine v_istore C dX0_countBelow_24 (by decide) ?_
      exact v_less (in1 n h17 0 (Nat.zero_le _) I' hF hI (ih h17)) (by repeat (first | exact trivial | refine And.intro rfl ?_))
  refine v_aload_n C dX0_countBelow_0 rfl ?_
  refine v_iconstN 0 C dX0_countBelow_1 ?_
  refine v_aload_n C dX0_countBelow_2 rfl ?_
  first | refine gv_0_6 C (by assumption) (by assumption) wt_78 dX0_countBelow_3 ?_ | refine g_0_6 C (by assumption) wt_78 dX0_countBelow_3 ?_
  refine v_iconstN 0 C dX0_countBelow_6 ?_
  refine v_callS4_0 C (m_J7_fill_fda19 T B) lk_X0_96 wt_357 dX0_countBelow_7 ⟨Nat.le_of_ble_eq_true rfl, Nat.le_of_ble_eq_true rfl⟩ (Nat.le_of_ble_eq_true rfl) ⟨Nat.le_of_ble_eq_true rfl, Nat.le_of_ble_eq_true rfl⟩ ?_
  refine c_J7_fill_fda19 hr (Nat.zero_le _) (by omega) (by omega) ?_
  refine v_iconstN 0 C dX0_countBelow_10 ?_
  refine v_istore_n C dX0_countBelow_11 (by decide) ?_
  exact v_less (lp1 0 (Nat.zero_le _) _ (FrS.rf.mfl (by omega) (by omega)) (fun u hu => by rw [mfl_in (Nat.zero_le _) hu]; rfl)) (by repeat (first | exact trivial | refine And.intro rfl ?_))
