def vN (x : Int32) : Nat := x.toNatClampNeg
theorem vN_nI {n : Nat} (h : n < 2147483648) : vN (nI n) = n := nI_clamp h
def mkN (I : MI) (t j : Nat) : Nat := vN (I (t + 3) j)
theorem may_nI {I : MI} {t g j : Nat} (hg : g < 2147483648) (h : fMay I t (nI g) j = true) : I (t + 3) j = nI (mkN I t j) ∧ mkN I t j ≤ g := by
  simp only [fMay, Bool.and_eq_true, Bool.not_eq_true', decide_eq_false_iff_not, decide_eq_true_eq] at h
  obtain ⟨k, hk, e⟩ := nI_of2 (M := nI g) (n := g) (nI_toInt hg) h.1 h.2
  unfold mkN
  rw [e, vN_nI (by omega)]
  exact ⟨rfl, hk⟩
def shF (I : MI) (t k d p : Nat) : Int32 := if k = 3 then -2 else if allB (fMay I t (nI p)) d = false then -3 else if 16 < sumN (mkN I t) d then -6 else nI 0
def s_X4_shapeFault : Sp := fun av z S I J R Post => (∃ (x : Nat), av = [.ref x, .null] ∧ Post (-1) 0 none z S I J R) ∨ (∃ (x a c k d p : Nat), av = [.ref x, .ref a] ∧ XS S R x ∧ ScS S R a c ∧ I a 0 = nI k ∧ k < 5 ∧ I a 3 = nI d ∧ d ≤ 6 ∧ (k ≠ 3 → I a 1 = nI p) ∧ p ≤ 8 ∧ Post (shF I (x + 2) k d p) 0 none z S I J R)
set_option maxRecDepth 100000 in
set_option maxHeartbeats 400000 in
theorem m_X4_shapeFault (T : TC) (B : Nat) : Mt T B yX4_shapeFault cX4_shapeFault 2 (some .int) 1 (rmL 2 0 0) s_X4_shapeFault := by
  refine Mt_of rfl (by
    intro _ _ _ _ _ _ _ h
    rcases h with ⟨_, rfl, -⟩ | ⟨_, _, _, _, _, _, rfl, -⟩ <;> exact Nat.le_of_ble_eq_true rfl) ?_
  intro X av z S I J R Post h C Q hI
  rcases h with ⟨x, rfl, hp⟩ | ⟨x, a, c, k, d, p, rfl, hX, hSc, hk, hk5, hd, hd6, hpw, hp8, hp⟩
  · refine v_aload_nN C dX4_shapeFault_0 rfl ?_
    refine v_ifnonnullN C dX4_shapeFault_1 ?_
    refine v_iconst (v := -1) C dX4_shapeFault_4 (by decide) ?_
    refine v_iret C Q dX4_shapeFault_5 (Nat.le_of_ble_eq_true rfl) (Nat.le_of_ble_eq_true rfl) ?_
    exact hp
  · have hX0 := hX
    obtain ⟨hx, hx0, hx1, hx2, hx3, hx4, hx5, hs1, hT, hRa, hs9, hCo, hs14⟩ := hX
    obtain ⟨hs, hr5, hr6, hr7, hr8, hsa1, hs2, hs3, hs4, hc1, hc2⟩ := hSc
    have hT0 := hT.1
    refine v_aload_n C dX4_shapeFault_0 rfl ?_
    refine v_ifnonnull C 6 dX4_shapeFault_1 (by decide) ?_
    refine v_aload_n C dX4_shapeFault_6 rfl ?_
    first | refine gv_2_0 C (by assumption) (by assumption) wt_143 dX4_shapeFault_7 ?_ | refine g_2_0 C (by assumption) wt_143 dX4_shapeFault_7 ?_
    refine v_iconstN 3 C dX4_shapeFault_10 ?_
    first | refine v_icmp_neN C 17 dX4_shapeFault_11 (by omega) (by omega) (by decide) (fun h11 => ?_) (fun h11 => ?_) | refine v_icmp_ne C 17 dX4_shapeFault_11 (by decide) (fun h11 => ?_) (fun h11 => ?_)
    · have hpp := hpw h11
      have hs0 : sumN (mkN I (x + 2)) d < 2147483648 ∨ allB (fMay I (x + 2) (nI p)) d = false := by
        cases hA : allB (fMay I (x + 2) (nI p)) d with
        | false => exact Or.inr rfl
        | true => exact Or.inl (Nat.lt_of_le_of_lt (sumN_le (M := 8) (fun j hj => Nat.le_trans (may_nI (by omega) (allB_iff.mp hA j hj)).2 hp8)) (by omega))
      refine v_aload_n C dX4_shapeFault_17 rfl ?_
      refine g_4_1 C (by assumption) (by assumption) wt_95 dX4_shapeFault_18 ?_
      refine v_aload_n C dX4_shapeFault_21 rfl ?_
      refine v_aload_n C dX4_shapeFault_22 rfl ?_
      first | refine gv_2_1 C (by assumption) (by assumption) wt_145 dX4_shapeFault_23 ?_ | refine g_2_1 C (by assumption) wt_145 dX4_shapeFault_23 ?_
      refine v_callV2_1 C (m_X3_marksMayBe T B) lk_X4_223 ⟨wt_345, wt_346⟩ 3 rfl dX4_shapeFault_26 ⟨Nat.le_of_ble_eq_true rfl, Nat.le_of_ble_eq_true rfl⟩ (Nat.le_of_ble_eq_true rfl) ⟨Nat.le_of_ble_eq_true rfl, Nat.le_of_ble_eq_true rfl⟩ (by assumption) (cTo_3 (by assumption)) ?_
      refine c_X3_marksMayBe hT hs hd hd6 ?_
      refine v_if_ne C 35 dX4_shapeFault_29 (by decide) (fun h29 => ?_) (fun h29 => ?_)
      · have hA : allB (fMay I (x + 2) (nI p)) d = true := by
          cases hq : allB (fMay I (x + 2) (nI p)) d with
          | true => rfl
          | false => rw [hq] at h29; exact absurd rfl h29
        have hs1' : sumN (mkN I (x + 2)) d < 2147483648 := hs0.elim id (fun q => by rw [q] at hA; cases hA)
        refine v_aload_n C dX4_shapeFault_35 rfl ?_
        refine g_4_1 C (by assumption) (by assumption) wt_95 dX4_shapeFault_36 ?_
        refine v_aload_n C dX4_shapeFault_39 rfl ?_
        refine v_callV1_1 C (m_X3_markSum T B) lk_X4_241 ⟨wt_349, wt_350⟩ 3 rfl dX4_shapeFault_40 ⟨Nat.le_of_ble_eq_true rfl, Nat.le_of_ble_eq_true rfl⟩ (Nat.le_of_ble_eq_true rfl) ⟨Nat.le_of_ble_eq_true rfl, Nat.le_of_ble_eq_true rfl⟩ (by assumption) (cTo_3 (by assumption)) ?_
        refine c_X3_markSum (m := mkN I (x + 2)) hT hs hd hd6 (fun j hj => (may_nI (by omega) (allB_iff.mp hA j hj)).1) ?_
        refine v_bipushN 16 (by decide) C dX4_shapeFault_43 ?_
        first | refine v_icmp_leN C 53 dX4_shapeFault_45 (by omega) (by omega) (by decide) (fun h45 => ?_) (fun h45 => ?_) | refine v_icmp_le C 53 dX4_shapeFault_45 (by decide) (fun h45 => ?_) (fun h45 => ?_)
        · have e : shF I (x + 2) k d p = nI 0 := by unfold shF; rw [if_neg h11, if_neg (by rw [hA]; decide), if_neg (by omega)]
          refine v_iconstN 0 C dX4_shapeFault_53 ?_
          refine v_iret C Q dX4_shapeFault_54 (Nat.le_of_ble_eq_true rfl) (Nat.le_of_ble_eq_true rfl) ?_
          rw [e] at hp; exact hp
        · have e : shF I (x + 2) k d p = -6 := by unfold shF; rw [if_neg h11, if_neg (by rw [hA]; decide), if_pos (by omega)]
          refine v_bipush (v := -6) C dX4_shapeFault_48 (by decide) ?_
          refine v_goto C 54 dX4_shapeFault_50 (by decide) ?_
          refine v_iret C Q dX4_shapeFault_54 (Nat.le_of_ble_eq_true rfl) (Nat.le_of_ble_eq_true rfl) ?_
          rw [e] at hp; exact hp
      · have hA : allB (fMay I (x + 2) (nI p)) d = false := by
          cases hq : allB (fMay I (x + 2) (nI p)) d with
          | false => rfl
          | true => rw [hq] at h29; exact absurd h29 (by decide)
        have e : shF I (x + 2) k d p = -3 := by unfold shF; rw [if_neg h11, if_pos hA]
        refine v_bipush (v := -3) C dX4_shapeFault_32 (by decide) ?_
        refine v_iret C Q dX4_shapeFault_34 (Nat.le_of_ble_eq_true rfl) (Nat.le_of_ble_eq_true rfl) ?_
        rw [e] at hp; exact hp
    · have e : shF I (x + 2) k d p = -2 := by unfold shF; rw [if_pos h11]
      refine v_bipush (v := -2) C dX4_shapeFault_14 (by decide) ?_
      refine v_iret C Q dX4_shapeFault_16 (Nat.le_of_ble_eq_true rfl) (Nat.le_of_ble_eq_true rfl) ?_
      rw [e] at hp; exact hp
/-- how many of the first n have the number b -/
def qc (g : Nat → Nat) (b n : Nat) : Nat := sumN (fun i => b2 (decide (g i = b))) n
theorem qc_s (g : Nat → Nat) (b n : Nat) : qc g b (n + 1) = qc g b n + b2 (decide (g n = b)) := rfl
theorem qc_le (g : Nat → Nat) (b n : Nat) : qc g b n ≤ n := by
  have := sumN_le (f := fun i => b2 (decide (g i = b))) (n := n) (M := 1) (fun i _ => by have := b2_lt (decide (g i = b)); omega)
  simp only [qc]
  omega
theorem qc_congr {g g' : Nat → Nat} {b n : Nat} (h : ∀ i, i < n → g i = g' i) : qc g b n = qc g' b n := sumN_congr (fun i hi => by rw [h i hi])
theorem hist {I : MI} {r N n : Nat} {g : Nat → Nat} (hI : ∀ b, b < N → I r b = nI (qc g b n)) : ∀ b, b < N → mu I r (g n) (nI (qc g (g n) n + 1)) r b = nI (qc g b (n + 1)) := by
  intro b hb
  by_cases e : b = g n
  · subst e; rw [mu_at, qc_s]; simp [b2]
  · rw [mu_other _ _ (fun q => e q.2), hI b hb, qc_s]; simp [b2, Ne.symm e]
theorem hist_o {g : Nat → Nat} {b n : Nat} (h : ¬ g n = b) : qc g b (n + 1) = qc g b n := by rw [qc_s]; simp [b2, h]
def ur (q : Nat → Nat) (s c : Nat) : Nat → Nat → Int32
  | 0, _ => -9
  | f + 1, b => if q b * 2 ^ s = c then ur q s c f (b + 1) else nI (q b)
def s_X4_firstUneven : Sp := fun av z S I J R Post => ∃ (x a c d p : Nat), ∃ (P : Nat → Nat → Nat), ∃ (m : Nat → Nat), av = [.ref x, .ref a] ∧ (XS S R x) ∧ (ScS S R a c) ∧ (x + 14 < a) ∧ (I a 2 = nI c) ∧ (I a 3 = nI d) ∧ (d ≤ 6) ∧ (I a 1 = nI p) ∧ (p ≤ 8) ∧ (∀ n j, n < c → j < d → I (a + 4) (j * c + n) = nI (P n j) ∧ P n j < 2 ^ p) ∧ (∀ j, j < d → I (x + 2 + 3) j = nI (m j) ∧ m j ≤ p) ∧ (sumN m d ≤ 16) ∧ (∀ I' : MI, FrS I I' (x + 9) (x + 9) → Post (ur (fun b => qc (fun n => bx (P n) m p d) b c) (sumN m d) c (if sumN m d ≤ p then 2 ^ sumN m d else 1) 0) 0 none z S I' J R)
theorem c_X4_firstUneven {x a c d p : Nat} {P : Nat → Nat → Nat} {m : Nat → Nat} {z : Nat} {S : MS} {I : MI} {J : MJ} {R : MR} {Post : PT} (hX : XS S R x) (hSc : ScS S R a c) (hxa : x + 14 < a) (hcc : I a 2 = nI c) (hd : I a 3 = nI d) (hd6 : d ≤ 6) (hpw : I a 1 = nI p) (hp8 : p ≤ 8) (hP : ∀ n j, n < c → j < d → I (a + 4) (j * c + n) = nI (P n j) ∧ P n j < 2 ^ p) (hm : ∀ j, j < d → I (x + 2 + 3) j = nI (m j) ∧ m j ≤ p) (hsum : sumN m d ≤ 16) (hp : ∀ I' : MI, FrS I I' (x + 9) (x + 9) → Post (ur (fun b => qc (fun n => bx (P n) m p d) b c) (sumN m d) c (if sumN m d ≤ p then 2 ^ sumN m d else 1) 0) 0 none z S I' J R) : s_X4_firstUneven [.ref x, .ref a] z S I J R Post := ⟨x, a, c, d, p, P, m, rfl, hX, hSc, hxa, hcc, hd, hd6, hpw, hp8, hP, hm, hsum, hp⟩
set_option maxRecDepth 100000 in
set_option maxHeartbeats 400000 in
theorem m_X4_firstUneven (T : TC) (B : Nat) : Mt T B yX4_firstUneven cX4_firstUneven 6 (some .int) 1 (rmL 3 0 0) s_X4_firstUneven := by
  refine Mt_of rfl (by rintro _ _ _ _ _ _ _ ⟨_, _, _, _, _, _, _, rfl, -⟩; exact Nat.le_of_ble_eq_true rfl) ?_
  intro X av z S I J R Post h C Q hI
  obtain ⟨x, a, c, d, p, P, m, rfl, hX, hSc, hxa, hcc, hd, hd6, hpw, hp8, hP, hm, hsum, hp⟩ := h
  have hX0 := hX
  have hSc0 := hSc
  obtain ⟨hx, hx0, hx1, hx2, hx3, hx4, hx5, hs1, hT, hRa, hs9, hCo, hs14⟩ := hX
  obtain ⟨hs, hr5, hr6, hr7, hr8, hsa1, hs2, hs3, hs4, hc1, hc2⟩ := hSc
  have hT0 := hT.1
  generalize hs0 : sumN m d = s at *
  generalize hnb : (if s ≤ p then 2 ^ s else 1) = nb at *
  have hnb1 : 1 ≤ nb ∧ nb ≤ 256 := by
    rw [← hnb]
    by_cases e : s ≤ p
    · rw [if_pos e]
      exact ⟨Nat.two_pow_pos s, Nat.le_trans (Nat.pow_le_pow_right (by decide) (show s ≤ 8 by omega)) (by decide)⟩
    · rw [if_neg e]; omega
  have hs16 : 2 ^ s ≤ 2 ^ 16 := Nat.pow_le_pow_right (by decide) hsum
  generalize hg : (fun n => bx (P n) m p d) = g at hp
  have hgn : ∀ n, bx (P n) m p d = g n := fun n => by rw [← hg]
  have scan : ∀ b : Nat, b ≤ nb → ∀ I' : MI, FrS I I' (x + 9) (x + 9) → (∀ b, b < nb → I' (x + 9) b = nI (qc g b c)) → ur (fun b => qc g b c) s c (nb - b) b = ur (fun b => qc g b c) s c nb 0 → V X 0 0 z S I' J R 90 [some (.ref x), some (.ref a), some (.int (nI s)), some (.int (nI nb)), some (.int (nI b)), none] [] := by
    refine lp_up nb ?_
    intro b hb ih I' hF hI hu
    have f2 : I' a 2 = nI c := (hF a 2 (by omega)).trans hcc
    have hq := qc_le g b c
    have hmul : qc g b c * 2 ^ s < 4294967296 := Nat.lt_of_le_of_lt (Nat.mul_le_mul (show qc g b c ≤ 256 by omega) hs16) (by decide)
    have hmul2 : qc g b c * 2 ^ s < 2147483648 := Nat.lt_of_le_of_lt (Nat.mul_le_mul (show qc g b c ≤ 256 by omega) hs16) (by decide)
    refine v_iload C dX4_firstUneven_90 rfl ?_
    refine v_iload_n C dX4_firstUneven_92 rfl ?_
    first | refine v_icmp_geN C 126 dX4_firstUneven_93 (by omega) (by omega) (by decide) (fun h93 => ?_) (fun h93 => ?_) | refine v_icmp_ge C 126 dX4_firstUneven_93 (by decide) (fun h93 => ?_) (fun h93 => ?_)
    · refine v_bipush (v := -9) C dX4_firstUneven_126 (by decide) ?_
      refine v_iret C Q dX4_firstUneven_128 (Nat.le_of_ble_eq_true rfl) (Nat.le_of_ble_eq_true rfl) ?_
      rw [show nb - b = 0 by omega] at hu
      rw [← hu] at hp; exact hp I' hF
    · rw [show nb - b = (nb - (b + 1)) + 1 by omega] at hu
      simp only [ur] at hu
      refine v_aload_n C dX4_firstUneven_96 rfl ?_
      refine g_4_3 C (by assumption) (by assumption) wt_97 dX4_firstUneven_97 ?_
      refine v_iload C dX4_firstUneven_100 rfl ?_
      first | refine v_ialdN C (by assumption) (by omega) (by omega) dX4_firstUneven_102 ?_ | refine v_iald C (by assumption) (by assumption) dX4_firstUneven_102 ?_
      rw [hI b h93]
      refine v_iload_n C dX4_firstUneven_103 rfl ?_
      first | refine v_ishlN C dX4_firstUneven_104 (by omega) hmul ?_ | refine v_ishl C dX4_firstUneven_104 ?_
      refine v_aload_n C dX4_firstUneven_105 rfl ?_
      first | refine gv_2_2 C (by assumption) (by assumption) wt_150 dX4_firstUneven_106 ?_ | refine g_2_2 C (by assumption) wt_150 dX4_firstUneven_106 ?_
      first | refine v_icmp_eqN C 120 dX4_firstUneven_109 (by omega) (by omega) (by decide) (fun h109 => ?_) (fun h109 => ?_) | refine v_icmp_eq C 120 dX4_firstUneven_109 (by decide) (fun h109 => ?_) (fun h109 => ?_)
      · rw [if_pos h109] at hu
        first | refine v_iincN 1 C dX4_firstUneven_120 rfl (by decide) ?_ | refine v_iinc C dX4_firstUneven_120 rfl rfl (by decide) ?_
        refine v_goto C 90 dX4_firstUneven_123 (by decide) ?_
        exact v_less (ih h93 I' hF hI hu) (by repeat (first | exact trivial | refine And.intro rfl ?_))
      · rw [if_neg h109] at hu
        refine v_aload_n C dX4_firstUneven_112 rfl ?_
        refine g_4_3 C (by assumption) (by assumption) wt_97 dX4_firstUneven_113 ?_
        refine v_iload C dX4_firstUneven_116 rfl ?_
        first | refine v_ialdN C (by assumption) (by omega) (by omega) dX4_firstUneven_118 ?_ | refine v_iald C (by assumption) (by assumption) dX4_firstUneven_118 ?_
        rw [hI b h93]
        refine v_iret C Q dX4_firstUneven_119 (Nat.le_of_ble_eq_true rfl) (Nat.le_of_ble_eq_true rfl) ?_
        rw [← hu] at hp; exact hp I' hF
  have loop : ∀ n : Nat, n ≤ c → ∀ I' : MI, FrS I I' (x + 9) (x + 9) → (∀ b, b < nb → I' (x + 9) b = nI (qc g b n)) → V X 0 0 z S I' J R 38 [some (.ref x), some (.ref a), some (.int (nI s)), some (.int (nI nb)), some (.int (nI n)), none] [] := by
    refine lp_up c ?_
    intro n hn ih I' hF hI
    have f1 : I' a 1 = nI p := (hF a 1 (by omega)).trans hpw
    have f2 : I' a 2 = nI c := (hF a 2 (by omega)).trans hcc
    have f3 : I' a 3 = nI d := (hF a 3 (by omega)).trans hd
    have hgl : n < c → g n < 65536 := fun q => by
      rw [← hgn]
      have := bx_lt (P := P n) (m := m) (p := p) (d := d) (fun j hj => ⟨(hm j hj).2, (hP n j q hj).2⟩)
      rw [hs0] at this
      omega
    refine v_iload C dX4_firstUneven_38 rfl ?_
    refine v_aload_n C dX4_firstUneven_40 rfl ?_
    first | refine gv_2_2 C (by assumption) (by assumption) wt_150 dX4_firstUneven_41 ?_ | refine g_2_2 C (by assumption) wt_150 dX4_firstUneven_41 ?_
    first | refine v_icmp_geN C 87 dX4_firstUneven_44 (by omega) (by omega) (by decide) (fun h44 => ?_) (fun h44 => ?_) | refine v_icmp_ge C 87 dX4_firstUneven_44 (by decide) (fun h44 => ?_) (fun h44 => ?_)
    · refine v_iconstN 0 C dX4_firstUneven_87 ?_
      refine v_istore C dX4_firstUneven_88 (by decide) ?_
      obtain rfl : n = c := by omega
      exact v_less (scan 0 (Nat.zero_le _) I' hF hI rfl) (by repeat (first | exact trivial | refine And.intro rfl ?_))
    · have hgl := hgl h44
      refine v_aload_n C dX4_firstUneven_47 rfl ?_
      refine g_4_1 C (by assumption) (by assumption) wt_95 dX4_firstUneven_48 ?_
      refine v_aload_n C dX4_firstUneven_51 rfl ?_
      refine v_iload C dX4_firstUneven_52 rfl ?_
      refine v_callV2_1 C (m_X3_boxOf T B) lk_X4_256 ⟨wt_363, wt_364⟩ 3 rfl dX4_firstUneven_54 ⟨Nat.le_of_ble_eq_true rfl, Nat.le_of_ble_eq_true rfl⟩ (Nat.le_of_ble_eq_true rfl) ⟨Nat.le_of_ble_eq_true rfl, Nat.le_of_ble_eq_true rfl⟩ (by assumption) (cTo_3 (by assumption)) ?_
      refine c_X3_boxOf (P := P n) (m := m) hT hSc0 f2 f3 hd6 h44 f1 hp8 (fun j hj => ⟨(hF (a + 4) _ (by omega)).trans (hP n j h44 hj).1, (hP n j h44 hj).2⟩) (fun j hj => ⟨(hF (x + 2 + 3) j (by omega)).trans (hm j hj).1, (hm j hj).2⟩) (by rw [hs0]; exact hsum) ?_
      rw [hgn]
      refine v_istore C dX4_firstUneven_57 (by decide) ?_
      refine v_iload C dX4_firstUneven_59 rfl ?_
      first | refine v_if_ltN C 81 dX4_firstUneven_61 (by omega) (by decide) (fun h61 => ?_) (fun h61 => ?_) | refine v_if_lt C 81 dX4_firstUneven_61 (by decide) (fun h61 => ?_) (fun h61 => ?_)
      · exact absurd h61 (fun q => q)
      · refine v_iload C dX4_firstUneven_64 rfl ?_
        refine v_iload_n C dX4_firstUneven_66 rfl ?_
        first | refine v_icmp_geN C 81 dX4_firstUneven_67 (by omega) (by omega) (by decide) (fun h67 => ?_) (fun h67 => ?_) | refine v_icmp_ge C 81 dX4_firstUneven_67 (by decide) (fun h67 => ?_) (fun h67 => ?_)
        · first | refine v_iincN 1 C dX4_firstUneven_81 rfl (by decide) ?_ | refine v_iinc C dX4_firstUneven_81 rfl rfl (by decide) ?_
          refine v_goto C 38 dX4_firstUneven_84 (by decide) ?_
          first
          | exact v_less (ih h44 _ (hF.mu (by omega) (by omega)) (hist hI)) (by repeat (first | exact trivial | refine And.intro rfl ?_))
          | exact v_less (ih h44 I' hF (fun b hb => by rw [hist_o (by omega)]; exact hI b hb)) (by repeat (first | exact trivial | refine And.intro rfl ?_))
        · refine v_aload_n C dX4_firstUneven_70 rfl ?_
          refine g_4_3 C (by assumption) (by assumption) wt_97 dX4_firstUneven_71 ?_
          refine v_iload C dX4_firstUneven_74 rfl ?_
          refine v_dup2 C dX4_firstUneven_76 rfl rfl ?_
          first | refine v_ialdN C (by assumption) (by omega) (by omega) dX4_firstUneven_77 ?_ | refine v_iald C (by assumption) (by assumption) dX4_firstUneven_77 ?_
          rw [hI _ h67]
          refine v_iconstN 1 C dX4_firstUneven_78 ?_
          first | refine v_iaddN C dX4_firstUneven_79 ?_ | refine v_iadd C dX4_firstUneven_79 ?_
          first | refine v_iastN C (by assumption) (by omega) (by omega) dX4_firstUneven_80 ?_ | refine v_iast C (by assumption) (by assumption) dX4_firstUneven_80 ?_
          first | refine v_iincN 1 C dX4_firstUneven_81 rfl (by decide) ?_ | refine v_iinc C dX4_firstUneven_81 rfl rfl (by decide) ?_
          refine v_goto C 38 dX4_firstUneven_84 (by decide) ?_
          first
          | exact v_less (ih h44 _ (hF.mu (by omega) (by omega)) (hist hI)) (by repeat (first | exact trivial | refine And.intro rfl ?_))
          | exact v_less (ih h44 I' hF (fun b hb => by rw [hist_o (by omega)]; exact hI b hb)) (by repeat (first | exact trivial | refine And.intro rfl ?_))
  have start : ∀ w : Nat, w = nb → V X 0 0 z S I J R 24 [some (.ref x), some (.ref a), some (.int (nI s)), none, none, none] [.int (nI w)] := by
    intro w hw
    subst hw
    refine v_istore_n C dX4_firstUneven_24 (by decide) ?_
    refine v_aload_n C dX4_firstUneven_25 rfl ?_
    refine g_4_3 C (by assumption) (by assumption) wt_97 dX4_firstUneven_26 ?_
    refine v_iconstN 0 C dX4_firstUneven_29 ?_
    refine v_iload_n C dX4_firstUneven_30 rfl ?_
    refine v_iconstN 0 C dX4_firstUneven_31 ?_
    refine v_callS4_0 C (m_J7_fill_fda19 T B) lk_X4_250 wt_357 dX4_firstUneven_32 ⟨Nat.le_of_ble_eq_true rfl, Nat.le_of_ble_eq_true rfl⟩ (Nat.le_of_ble_eq_true rfl) ⟨Nat.le_of_ble_eq_true rfl, Nat.le_of_ble_eq_true rfl⟩ ?_
    refine c_J7_fill_fda19 hs9 (Nat.zero_le _) (by omega) (by omega) ?_
    refine v_iconstN 0 C dX4_firstUneven_35 ?_
    refine v_istore C dX4_firstUneven_36 (by decide) ?_
    exact v_less (loop 0 (Nat.zero_le _) _ (FrS.rf.mfl (by omega) (by omega)) (fun b hb => by rw [mfl_in (Nat.zero_le _) hb]; rfl)) (by repeat (first | exact trivial | refine And.intro rfl ?_))
  refine v_aload_n C dX4_firstUneven_0 rfl ?_
  refine g_4_1 C (by assumption) (by assumption) wt_95 dX4_firstUneven_1 ?_
  refine v_aload_n C dX4_firstUneven_4 rfl ?_
  refine v_callV1_1 C (m_X3_markSum T B) lk_X4_241 ⟨wt_349, wt_350⟩ 3 rfl dX4_firstUneven_5 ⟨Nat.le_of_ble_eq_true rfl, Nat.le_of_ble_eq_true rfl⟩ (Nat.le_of_ble_eq_true rfl) ⟨Nat.le_of_ble_eq_true rfl, Nat.le_of_ble_eq_true rfl⟩ (by assumption) (cTo_3 (by assumption)) ?_
  refine c_X3_markSum (m := m) hT hs hd hd6 (fun j hj => (hm j hj).1) ?_
  rw [hs0]
  refine v_istore_n C dX4_firstUneven_8 (by decide) ?_
  refine v_iload_n C dX4_firstUneven_9 rfl ?_
  refine v_aload_n C dX4_firstUneven_10 rfl ?_
  first | refine gv_2_1 C (by assumption) (by assumption) wt_145 dX4_firstUneven_11 ?_ | refine g_2_1 C (by assumption) wt_145 dX4_firstUneven_11 ?_
  first | refine v_icmp_gtN C 23 dX4_firstUneven_14 (by omega) (by omega) (by decide) (fun h14 => ?_) (fun h14 => ?_) | refine v_icmp_gt C 23 dX4_firstUneven_14 (by decide) (fun h14 => ?_) (fun h14 => ?_)
  · refine v_iconstN 1 C dX4_firstUneven_23 ?_
    exact v_less (start _ (by rw [← hnb]; first | rw [if_pos h14] | rw [if_neg (by omega)])) (by repeat (first | exact trivial | refine And.intro rfl ?_))
  · refine v_iconstN 1 C dX4_firstUneven_17 ?_
    refine v_iload_n C dX4_firstUneven_18 rfl ?_
    first | refine v_ishlN C dX4_firstUneven_19 (by omega) (by rw [Nat.one_mul]; omega) ?_ | refine v_ishl C dX4_firstUneven_19 ?_
    rw [Nat.one_mul]
    refine v_goto C 24 dX4_firstUneven_20 (by decide) ?_
    exact v_less (start _ (by rw [← hnb]; first | rw [if_pos h14] | rw [if_neg (by omega)])) (by repeat (first | exact trivial | refine And.intro rfl ?_))
