def qB (D : SD) (m : Nat → Nat) (b : Nat) : Nat := qc (fun n => bx (prt D n) m (D 3 0) (D 2 0)) b (D 4 0)
theorem or_add {a w m : Nat} (h : w < 2 ^ m) : a * 2 ^ m ||| w = a * 2 ^ m + w := by
  rw [Nat.mul_comm, Nat.two_pow_add_eq_or_of_lt h]
theorem sh_lt {P p m : Nat} (h : P < 2 ^ p) (hm : m ≤ p) : P / 2 ^ (p - m) < 2 ^ m := by
  rw [Nat.div_lt_iff_lt_mul (Nat.two_pow_pos _), ← Nat.pow_add, show m + (p - m) = p by omega]
  exact h
def s_X5_uneven : Sp := fun av z S I J R Post => ∃ (M k : Nat), ∃ (D : SD), ∃ (m : Nat → Nat), av = [.ref M, .int (nI k)] ∧ (MoS S R M) ∧ (MsR I M k D) ∧ (k < 12) ∧ (OkD D) ∧ (D 1 0 ≠ 3) ∧ (∀ j, j < D 2 0 → I (M + 16) j = nI (m j) ∧ m j ≤ D 3 0) ∧ (sumN m (D 2 0) ≤ 16) ∧ ((∀ b, b < 2 ^ sumN m (D 2 0) → (∀ i, i < b → qB D m i * 2 ^ sumN m (D 2 0) = D 4 0) → ¬ qB D m b * 2 ^ sumN m (D 2 0) = D 4 0 → ∀ I' : MI, FrS I I' (M + 15) (M + 15) → I' (M + 15) b = nI (qB D m b) → Post (nI b) 0 none z S I' J R) ∧ ((∀ b, b < 2 ^ sumN m (D 2 0) → qB D m b * 2 ^ sumN m (D 2 0) = D 4 0) → ∀ I' : MI, FrS I I' (M + 15) (M + 15) → Post (-1) 0 none z S I' J R))
theorem c_X5_uneven {M k : Nat} {D : SD} {m : Nat → Nat} {z : Nat} {S : MS} {I : MI} {J : MJ} {R : MR} {Post : PT} (hM : MoS S R M) (hD : MsR I M k D) (hk : k < 12) (hO : OkD D) (hk3 : D 1 0 ≠ 3) (hm : ∀ j, j < D 2 0 → I (M + 16) j = nI (m j) ∧ m j ≤ D 3 0) (hs : sumN m (D 2 0) ≤ 16) (hp : (∀ b, b < 2 ^ sumN m (D 2 0) → (∀ i, i < b → qB D m i * 2 ^ sumN m (D 2 0) = D 4 0) → ¬ qB D m b * 2 ^ sumN m (D 2 0) = D 4 0 → ∀ I' : MI, FrS I I' (M + 15) (M + 15) → I' (M + 15) b = nI (qB D m b) → Post (nI b) 0 none z S I' J R) ∧ ((∀ b, b < 2 ^ sumN m (D 2 0) → qB D m b * 2 ^ sumN m (D 2 0) = D 4 0) → ∀ I' : MI, FrS I I' (M + 15) (M + 15) → Post (-1) 0 none z S I' J R)) : s_X5_uneven [.ref M, .int (nI k)] z S I J R Post := ⟨M, k, D, m, rfl, hM, hD, hk, hO, hk3, hm, hs, hp⟩
set_option maxRecDepth 100000 in
set_option maxHeartbeats 4000000 in
theorem m_X5_uneven (T : TC) (B : Nat) : Mt T B yX5_uneven cX5_uneven 6 (some .int) 1 (rmL 3 0 0) s_X5_uneven := by
  refine Mt_of rfl (by rintro _ _ _ _ _ _ _ ⟨_, _, _, _, rfl, -⟩; exact Nat.le_of_ble_eq_true rfl) ?_
  intro X av z S I J R Post h C Q hI
  obtain ⟨M, k, D, m, rfl, hM, hD, hk, hO, hk3, hm, hs, hp⟩ := h
  obtain ⟨hS0, hr1, hr2, hr3, hr4, hr5, hr6, hr7, hr8, hr9, hr10, hr11, hr12, hr14, hr15, hr16, hr17, hr18, hr19, hr20, hs1, hs2, hs3, hs4, hs5, hs6, hs7, hs8, hs9, hs10, hs11, hs12, hs13, hs14, hs15, hs16, hs17, hs18, hs19⟩ := id hM
  obtain ⟨g1, g2, g3, g4, g5, g6, g7, g8, g9⟩ := id hD
  obtain ⟨o1, o2, o3, o4, o5, o6, o7, o8, o9, o10, o11, o12⟩ := id hO
  have g3' : I (M + 3) k = nI (D 3 0) := by rw [g3]; unfold pwI; rw [if_neg hk3]
  have hPl : ∀ n j, prt D n j < 2 ^ D 3 0 := fun n j => by rw [← o7 hk3]; exact prt_lt hO n j
  have hbl : ∀ n, bx (prt D n) m (D 3 0) (D 2 0) < 2 ^ sumN m (D 2 0) := fun n => bx_lt (fun j hj => ⟨(hm j hj).2, hPl n j⟩)
  have hql : ∀ b, qB D m b ≤ 256 := fun b => Nat.le_trans (qc_le _ _ _) o6
  have hsm : ∀ j, j ≤ D 2 0 → sumN m j ≤ sumN m (D 2 0) := fun j hj => sumN_mono hj
  generalize hse : sumN m (D 2 0) = s at *
  have hs16 : 2 ^ s ≤ 65536 := Nat.le_trans (Nat.pow_le_pow_right (by decide) hs) (by decide)
  have hs1 : 1 ≤ 2 ^ s := Nat.two_pow_pos s
  have scan : ∀ b : Nat, b ≤ 2 ^ s → ∀ I' : MI, FrS I I' (M + 15) (M + 15) → (∀ i, i < 2 ^ s → I' (M + 15) i = nI (qB D m i)) → (∀ i, i < b → qB D m i * 2 ^ s = D 4 0) → V X 0 0 z S I' J R 155 [some (.ref M), some (.int (nI k)), some (.int (nI s)), some (.int (nI b)), none, none] [] := by
    refine lp_up (2 ^ s) ?_
    intro b hb ih I' hF hI hall
    have c4 : I' (M + 4) k = nI (D 4 0) := (hF _ _ (by omega)).trans g4
    have hqb := hql b
    have hmul : qB D m b * 2 ^ s < 9223372036854775808 := Nat.lt_of_le_of_lt (Nat.mul_le_mul hqb hs16) (by decide)
    refine v_iload_n C dX5_uneven_155 rfl ?_
    refine v_iconstN 1 C dX5_uneven_156 ?_
    refine v_iload_n C dX5_uneven_157 rfl ?_
    first | refine v_ishlN C dX5_uneven_158 (by omega) (by rw [Nat.one_mul]; omega) ?_ | refine v_ishl C dX5_uneven_158 ?_
    rw [Nat.one_mul]
    first | refine v_icmp_geN C 190 dX5_uneven_159 (by omega) (by omega) (by decide) (fun h159 => ?_) (fun h159 => ?_) | refine v_icmp_ge C 190 dX5_uneven_159 (by decide) (fun h159 => ?_) (fun h159 => ?_)
    · refine v_iconst (v := -1) C dX5_uneven_190 (by decide) ?_
      refine v_iret C Q dX5_uneven_191 (Nat.le_of_ble_eq_true rfl) (Nat.le_of_ble_eq_true rfl) ?_
      exact hp.2 (fun i hi => hall i (by omega)) I' hF
    · refine v_aload_n C dX5_uneven_162 rfl ?_
      refine g_5_16 C (by assumption) (by assumption) wt_549 dX5_uneven_163 ?_
      refine v_iload_n C dX5_uneven_166 rfl ?_
      first | refine v_ialdN C (by assumption) (by omega) (by omega) dX5_uneven_167 ?_ | refine v_iald C (by assumption) (by assumption) dX5_uneven_167 ?_
      rw [hI b h159]
      first | refine v_i2lN C dX5_uneven_168 (by omega) ?_ | refine v_i2l C dX5_uneven_168 ?_
      refine v_iload_n C dX5_uneven_169 rfl ?_
      refine v_lshl C dX5_uneven_170 ?_
      rw [wb_shl _ (by omega)]
      refine v_aload_n C dX5_uneven_171 rfl ?_
      refine g_5_4 C (by assumption) (by assumption) wt_537 dX5_uneven_172 ?_
      refine v_iload_n C dX5_uneven_175 rfl ?_
      first | refine v_ialdN C (by assumption) (by omega) (by omega) dX5_uneven_176 ?_ | refine v_iald C (by assumption) (by assumption) dX5_uneven_176 ?_
      rw [c4]
      first | refine v_i2lN C dX5_uneven_177 (by omega) ?_ | refine v_i2l C dX5_uneven_177 ?_
      refine v_lcmp C dX5_uneven_178 ?_
      first | refine v_lcif_eqN C 184 dX5_uneven_179 (by omega) (by omega) (by decide) (fun h179 => ?_) (fun h179 => ?_) | refine v_lcif_eq C 184 dX5_uneven_179 (by decide) (fun h179 => ?_) (fun h179 => ?_)
      · first | refine v_iincN 1 C dX5_uneven_184 rfl (by decide) ?_ | refine v_iinc C dX5_uneven_184 rfl rfl (by decide) ?_
        refine v_goto C 155 dX5_uneven_187 (by decide) ?_
        exact v_less (ih h159 I' hF hI (fun i hi => by
          by_cases e : i = b
          · subst e; exact h179
          · exact hall i (by omega))) (by repeat (first | exact trivial | refine And.intro rfl ?_))
      · refine v_iload_n C dX5_uneven_182 rfl ?_
        refine v_iret C Q dX5_uneven_183 (Nat.le_of_ble_eq_true rfl) (Nat.le_of_ble_eq_true rfl) ?_
        exact hp.1 b h159 hall h179 I' hF (hI b h159)
  have inner : ∀ n : Nat, n < D 4 0 → ∀ j : Nat, j ≤ D 2 0 → ∀ I' : MI, FrS I I' (M + 15) (M + 15) → (∀ i, i < 2 ^ s → I' (M + 15) i = nI (qc (fun n => bx (prt D n) m (D 3 0) (D 2 0)) i n)) →
      (∀ I' : MI, FrS I I' (M + 15) (M + 15) → (∀ i, i < 2 ^ s → I' (M + 15) i = nI (qc (fun n => bx (prt D n) m (D 3 0) (D 2 0)) i (n + 1))) → V X 0 0 z S I' J R 53 [some (.ref M), some (.int (nI k)), some (.int (nI s)), some (.int (nI (n + 1))), none, none] []) →
      V X 0 0 z S I' J R 69 [some (.ref M), some (.int (nI k)), some (.int (nI s)), some (.int (nI n)), some (.int (nI (bx (prt D n) m (D 3 0) j))), some (.int (nI j))] [] := by
    intro n hn
    refine lp_up (D 2 0) ?_
    intro j hj ih I' hF hI K
    have c2 : I' (M + 2) k = nI (D 2 0) := (hF _ _ (by omega)).trans g2
    have c3 : I' (M + 3) k = nI (D 3 0) := (hF _ _ (by omega)).trans g3'
    have cm := fun h : j < D 2 0 => (hF (M + 16) j (by omega)).trans (hm j h).1
    have cD : MsR I' M k D := hD.up (fun q i h1 h2 => hF q i (by omega))
    have hbj : bx (prt D n) m (D 3 0) j < 2 ^ sumN m j := bx_lt (fun i hi => ⟨(hm i (by omega)).2, hPl n i⟩)
    have hs2 : j < D 2 0 → bx (prt D n) m (D 3 0) j * 2 ^ m j < 4294967296 := fun h => by
      have q1 := hsm (j + 1) h
      have q2 : bx (prt D n) m (D 3 0) j * 2 ^ m j < 2 ^ sumN m (j + 1) := by
        simp only [sumN, Nat.pow_add]
        exact Nat.mul_lt_mul_of_pos_right hbj (Nat.two_pow_pos _)
      have q3 : 2 ^ sumN m (j + 1) ≤ 2 ^ s := Nat.pow_le_pow_right (by decide) q1
      omega
    have nx : j < D 2 0 → ∀ w : Nat, w = prt D n j / 2 ^ (D 3 0 - m j) → V X 0 0 z S I' J R 127 [some (.ref M), some (.int (nI k)), some (.int (nI s)), some (.int (nI n)), some (.int (nI (bx (prt D n) m (D 3 0) j))), some (.int (nI j))] [.int (nI w), .int (nI (bx (prt D n) m (D 3 0) j * 2 ^ m j))] := by
      intro hlt w hw
      have hwl : w < 2 ^ m j := by rw [hw]; exact sh_lt (hPl n j) (hm j hlt).2
      have hh := ih hlt I' hF hI K
      rw [show bx (prt D n) m (D 3 0) (j + 1) = (bx (prt D n) m (D 3 0) j * 2 ^ m j ||| w) from by rw [or_add hwl, hw]; rfl] at hh
      first | refine v_iorN C dX5_uneven_127 ?_ | refine v_ior C dX5_uneven_127 ?_
      refine v_istore C dX5_uneven_128 (by decide) ?_
      first | refine v_iincN 1 C dX5_uneven_130 rfl (by decide) ?_ | refine v_iinc C dX5_uneven_130 rfl rfl (by decide) ?_
      refine v_goto C 69 dX5_uneven_133 (by decide) ?_
      exact v_less hh (by repeat (first | exact trivial | refine And.intro rfl ?_))
    have hbn := hbl n
    refine v_iload C dX5_uneven_69 rfl ?_
    refine v_aload_n C dX5_uneven_71 rfl ?_
    refine g_5_2 C (by assumption) (by assumption) wt_535 dX5_uneven_72 ?_
    refine v_iload_n C dX5_uneven_75 rfl ?_
    first | refine v_ialdN C (by assumption) (by omega) (by omega) dX5_uneven_76 ?_ | refine v_iald C (by assumption) (by assumption) dX5_uneven_76 ?_
    rw [c2]
    first | refine v_icmp_geN C 136 dX5_uneven_77 (by omega) (by omega) (by decide) (fun h77 => ?_) (fun h77 => ?_) | refine v_icmp_ge C 136 dX5_uneven_77 (by decide) (fun h77 => ?_) (fun h77 => ?_)
    · refine v_aload_n C dX5_uneven_136 rfl ?_
      refine g_5_16 C (by assumption) (by assumption) wt_549 dX5_uneven_137 ?_
      refine v_iload C dX5_uneven_140 rfl ?_
      refine v_dup2 C dX5_uneven_142 rfl rfl ?_
      first | refine v_ialdN C (by assumption) (by rw [show j = D 2 0 by omega]; omega) (by rw [show j = D 2 0 by omega]; omega) dX5_uneven_143 ?_ | refine v_iald C (by assumption) (by assumption) dX5_uneven_143 ?_
      rw [hI _ (by rw [show j = D 2 0 by omega]; exact hbn)]
      refine v_iconstN 1 C dX5_uneven_144 ?_
      first | refine v_iaddN C dX5_uneven_145 ?_ | refine v_iadd C dX5_uneven_145 ?_
      first | refine v_iastN C (by assumption) (by rw [show j = D 2 0 by omega]; omega) (by rw [show j = D 2 0 by omega]; omega) dX5_uneven_146 ?_ | refine v_iast C (by assumption) (by assumption) dX5_uneven_146 ?_
      first | refine v_iincN 1 C dX5_uneven_147 rfl (by decide) ?_ | refine v_iinc C dX5_uneven_147 rfl rfl (by decide) ?_
      refine v_goto C 53 dX5_uneven_150 (by decide) ?_
      obtain rfl : j = D 2 0 := by omega
      exact v_less (K _ (hF.mu (by omega) (by omega)) (fun i hi => hist hI i hi)) (by repeat (first | exact trivial | refine And.intro rfl ?_))
    · refine v_iload C dX5_uneven_80 rfl ?_
      refine v_aload_n C dX5_uneven_82 rfl ?_
      refine g_5_17 C (by assumption) (by assumption) wt_550 dX5_uneven_83 ?_
      refine v_iload C dX5_uneven_86 rfl ?_
      first | refine v_ialdN C (by assumption) (by omega) (by omega) dX5_uneven_88 ?_ | refine v_iald C (by assumption) (by assumption) dX5_uneven_88 ?_
      rw [cm h77]
      have hmj := (hm j h77).2
      first | refine v_ishlN C dX5_uneven_89 (by omega) (hs2 h77) ?_ | refine v_ishl C dX5_uneven_89 ?_
      refine v_aload_n C dX5_uneven_90 rfl ?_
      refine g_5_17 C (by assumption) (by assumption) wt_550 dX5_uneven_91 ?_
      refine v_iload C dX5_uneven_94 rfl ?_
      first | refine v_ialdN C (by assumption) (by omega) (by omega) dX5_uneven_96 ?_ | refine v_iald C (by assumption) (by assumption) dX5_uneven_96 ?_
      rw [cm h77]
      first | refine v_if_neN C 104 dX5_uneven_97 (by omega) (by decide) (fun h97 => ?_) (fun h97 => ?_) | refine v_if_ne C 104 dX5_uneven_97 (by decide) (fun h97 => ?_) (fun h97 => ?_)
      · refine v_aload_n C dX5_uneven_104 rfl ?_
        refine v_iload_n C dX5_uneven_105 rfl ?_
        refine v_iload_n C dX5_uneven_106 rfl ?_
        refine v_iload C dX5_uneven_107 rfl ?_
        refine v_callV3_1 C (m_X5_partOf T B) lk_X5_109 ⟨wt_670, ws_23⟩ 5 rfl dX5_uneven_109 ⟨Nat.le_of_ble_eq_true rfl, Nat.le_of_ble_eq_true rfl⟩ (Nat.le_of_ble_eq_true rfl) ⟨Nat.le_of_ble_eq_true rfl, Nat.le_of_ble_eq_true rfl⟩ (by assumption) (cTo_5 (by assumption)) ?_
        refine c_X5_partOf hM cD hk hO hn (by omega) ?_
        refine v_aload_n C dX5_uneven_112 rfl ?_
        refine g_5_3 C (by assumption) (by assumption) wt_536 dX5_uneven_113 ?_
        refine v_iload_n C dX5_uneven_116 rfl ?_
        first | refine v_ialdN C (by assumption) (by omega) (by omega) dX5_uneven_117 ?_ | refine v_iald C (by assumption) (by assumption) dX5_uneven_117 ?_
        rw [c3]
        refine v_aload_n C dX5_uneven_118 rfl ?_
        refine g_5_17 C (by assumption) (by assumption) wt_550 dX5_uneven_119 ?_
        refine v_iload C dX5_uneven_122 rfl ?_
        first | refine v_ialdN C (by assumption) (by omega) (by omega) dX5_uneven_124 ?_ | refine v_iald C (by assumption) (by assumption) dX5_uneven_124 ?_
        rw [cm h77]
        first | refine v_isubN C dX5_uneven_125 (by omega) ?_ | refine v_isub C dX5_uneven_125 ?_
        have hPj := hPl n j
        have hPp : 2 ^ D 3 0 ≤ 2 ^ 8 := Nat.pow_le_pow_right (by decide) o4
        first | refine v_ishrN C dX5_uneven_126 (by omega) (by omega) ?_ | refine v_ishr C dX5_uneven_126 ?_
        first
        | exact v_less (nx h77 0 (by rw [show m j = 0 from h97, Nat.sub_zero, Nat.div_eq_of_lt (hPl n j)])) (by repeat (first | exact trivial | refine And.intro rfl ?_))
        | exact v_less (nx h77 _ rfl) (by repeat (first | exact trivial | refine And.intro rfl ?_))
      · refine v_iconstN 0 C dX5_uneven_100 ?_
        refine v_goto C 127 dX5_uneven_101 (by decide) ?_
        first
        | exact v_less (nx h77 0 (by rw [show m j = 0 from h97, Nat.sub_zero, Nat.div_eq_of_lt (hPl n j)])) (by repeat (first | exact trivial | refine And.intro rfl ?_))
        | exact v_less (nx h77 _ rfl) (by repeat (first | exact trivial | refine And.intro rfl ?_))
  have loop : ∀ n : Nat, n ≤ D 4 0 → ∀ I' : MI, FrS I I' (M + 15) (M + 15) → (∀ i, i < 2 ^ s → I' (M + 15) i = nI (qc (fun n => bx (prt D n) m (D 3 0) (D 2 0)) i n)) → V X 0 0 z S I' J R 53 [some (.ref M), some (.int (nI k)), some (.int (nI s)), some (.int (nI n)), none, none] [] := by
    refine lp_up (D 4 0) ?_
    intro n hn ih I' hF hI
    have c4 : I' (M + 4) k = nI (D 4 0) := (hF _ _ (by omega)).trans g4
    refine v_iload_n C dX5_uneven_53 rfl ?_
    refine v_aload_n C dX5_uneven_54 rfl ?_
    refine g_5_4 C (by assumption) (by assumption) wt_537 dX5_uneven_55 ?_
    refine v_iload_n C dX5_uneven_58 rfl ?_
    first | refine v_ialdN C (by assumption) (by omega) (by omega) dX5_uneven_59 ?_ | refine v_iald C (by assumption) (by assumption) dX5_uneven_59 ?_
    rw [c4]
    first | refine v_icmp_geN C 153 dX5_uneven_60 (by omega) (by omega) (by decide) (fun h60 => ?_) (fun h60 => ?_) | refine v_icmp_ge C 153 dX5_uneven_60 (by decide) (fun h60 => ?_) (fun h60 => ?_)
    · refine v_iconstN 0 C dX5_uneven_153 ?_
      refine v_istore_n C dX5_uneven_154 (by decide) ?_
      obtain rfl : n = D 4 0 := by omega
      exact v_less (scan 0 (Nat.zero_le _) I' hF hI (fun i hi => absurd hi (by omega))) (by repeat (first | exact trivial | refine And.intro rfl ?_))
    · refine v_iconstN 0 C dX5_uneven_63 ?_
      refine v_istore C dX5_uneven_64 (by decide) ?_
      refine v_iconstN 0 C dX5_uneven_66 ?_
      refine v_istore C dX5_uneven_67 (by decide) ?_
      exact v_less (inner n h60 0 (Nat.zero_le _) I' hF hI (ih h60)) (by repeat (first | exact trivial | refine And.intro rfl ?_))
  have clear : ∀ b : Nat, b ≤ 2 ^ s → ∀ I' : MI, FrS I I' (M + 15) (M + 15) → (∀ i, i < b → I' (M + 15) i = 0) → V X 0 0 z S I' J R 31 [some (.ref M), some (.int (nI k)), some (.int (nI s)), some (.int (nI b)), none, none] [] := by
    refine lp_up (2 ^ s) ?_
    intro b hb ih I' hF hI
    refine v_iload_n C dX5_uneven_31 rfl ?_
    refine v_iconstN 1 C dX5_uneven_32 ?_
    refine v_iload_n C dX5_uneven_33 rfl ?_
    first | refine v_ishlN C dX5_uneven_34 (by omega) (by rw [Nat.one_mul]; omega) ?_ | refine v_ishl C dX5_uneven_34 ?_
    rw [Nat.one_mul]
    first | refine v_icmp_geN C 51 dX5_uneven_35 (by omega) (by omega) (by decide) (fun h35 => ?_) (fun h35 => ?_) | refine v_icmp_ge C 51 dX5_uneven_35 (by decide) (fun h35 => ?_) (fun h35 => ?_)
    · refine v_iconstN 0 C dX5_uneven_51 ?_
      refine v_istore_n C dX5_uneven_52 (by decide) ?_
      exact v_less (loop 0 (Nat.zero_le _) I' hF (fun i hi => hI i (by omega))) (by repeat (first | exact trivial | refine And.intro rfl ?_))
    · refine v_aload_n C dX5_uneven_38 rfl ?_
      refine g_5_16 C (by assumption) (by assumption) wt_549 dX5_uneven_39 ?_
      refine v_iload_n C dX5_uneven_42 rfl ?_
      refine v_iconstN 0 C dX5_uneven_43 ?_
      first | refine v_iastN C (by assumption) (by omega) (by omega) dX5_uneven_44 ?_ | refine v_iast C (by assumption) (by assumption) dX5_uneven_44 ?_
      first | refine v_iincN 1 C dX5_uneven_45 rfl (by decide) ?_ | refine v_iinc C dX5_uneven_45 rfl rfl (by decide) ?_
      refine v_goto C 31 dX5_uneven_48 (by decide) ?_
      refine v_less (ih h35 _ (hF.mu (by omega) (by omega)) (fun i hi => ?_)) (by repeat (first | exact trivial | refine And.intro rfl ?_))
      by_cases e : i = b
      · subst e; rw [mu_at]; rfl
      · rw [mu_other _ _ (by omega)]; exact hI i (by omega)
  have sums : ∀ j : Nat, j ≤ D 2 0 → V X 0 0 z S I J R 4 [some (.ref M), some (.int (nI k)), some (.int (nI (sumN m j))), some (.int (nI j)), none, none] [] := by
    refine lp_up (D 2 0) ?_
    intro j hj ih
    have cm := fun h : j < D 2 0 => (hm j h).1
    refine v_iload_n C dX5_uneven_4 rfl ?_
    refine v_aload_n C dX5_uneven_5 rfl ?_
    refine g_5_2 C (by assumption) (by assumption) wt_535 dX5_uneven_6 ?_
    refine v_iload_n C dX5_uneven_9 rfl ?_
    first | refine v_ialdN C (by assumption) (by omega) (by omega) dX5_uneven_10 ?_ | refine v_iald C (by assumption) (by assumption) dX5_uneven_10 ?_
    rw [g2]
    first | refine v_icmp_geN C 29 dX5_uneven_11 (by omega) (by omega) (by decide) (fun h11 => ?_) (fun h11 => ?_) | refine v_icmp_ge C 29 dX5_uneven_11 (by decide) (fun h11 => ?_) (fun h11 => ?_)
    · refine v_iconstN 0 C dX5_uneven_29 ?_
      refine v_istore_n C dX5_uneven_30 (by decide) ?_
      obtain rfl : j = D 2 0 := by omega
      rw [hse]
      exact v_less (clear 0 (Nat.zero_le _) I FrS.rf (fun i hi => absurd hi (by omega))) (by repeat (first | exact trivial | refine And.intro rfl ?_))
    · refine v_iload_n C dX5_uneven_14 rfl ?_
      refine v_aload_n C dX5_uneven_15 rfl ?_
      refine g_5_17 C (by assumption) (by assumption) wt_550 dX5_uneven_16 ?_
      refine v_iload_n C dX5_uneven_19 rfl ?_
      first | refine v_ialdN C (by assumption) (by omega) (by omega) dX5_uneven_20 ?_ | refine v_iald C (by assumption) (by assumption) dX5_uneven_20 ?_
      rw [cm h11]
      first | refine v_iaddN C dX5_uneven_21 ?_ | refine v_iadd C dX5_uneven_21 ?_
      refine v_istore_n C dX5_uneven_22 (by decide) ?_
      first | refine v_iincN 1 C dX5_uneven_23 rfl (by decide) ?_ | refine v_iinc C dX5_uneven_23 rfl rfl (by decide) ?_
      refine v_goto C 4 dX5_uneven_26 (by decide) ?_
      exact v_less (ih h11) (by repeat (first | exact trivial | refine And.intro rfl ?_))
  refine v_iconstN 0 C dX5_uneven_0 ?_
  refine v_istore_n C dX5_uneven_1 (by decide) ?_
  refine v_iconstN 0 C dX5_uneven_2 ?_
  refine v_istore_n C dX5_uneven_3 (by decide) ?_
  exact v_less (sums 0 (Nat.zero_le _)) (by repeat (first | exact trivial | refine And.intro rfl ?_))
