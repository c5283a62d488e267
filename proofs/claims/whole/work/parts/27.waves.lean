/-- the number of the row of PARTS -/
def pl (P : Nat → Nat) (c : Nat) : Nat → Nat
  | 0 => 0
  | j + 1 => pl P c j * c + P j
theorem pl_lt {P : Nat → Nat} {c d : Nat} (h : ∀ j, j < d → P j < c) : pl P c d < c ^ d := by
  induction d with
  | zero => simp [pl]
  | succ d ih =>
    have h1 := ih (fun j hj => h j (by omega))
    have h2 := h d (by omega)
    have h3 : (pl P c d + 1) * c ≤ c ^ d * c := Nat.mul_le_mul_right c h1
    rw [Nat.add_mul, Nat.one_mul] at h3
    simp only [pl, Nat.pow_succ]
    omega
def iZ (z : Int) : Int32 := Int32.ofInt z
theorem iZ_nat (n : Nat) : nI n = iZ n := rfl
theorem iZ_add (a b : Int) : iZ a + iZ b = iZ (a + b) := (Int32.ofInt_add a b).symm
theorem iZ_sub (a b : Int) : iZ a - iZ b = iZ (a - b) := (Int32.ofInt_sub a b).symm
/-- the transform, k bits of it done -/
def wht (q : Nat → Nat) : Nat → Nat → Int
  | 0, v => (q v : Int)
  | k + 1, v => if v / 2 ^ k % 2 = 0 then wht q k v + wht q k (v + 2 ^ k) else wht q k (v - 2 ^ k) - wht q k v
def clr (k v : Nat) : Nat := if v / 2 ^ k % 2 = 0 then v else v - 2 ^ k
theorem bit_set {v k : Nat} (h : v / 2 ^ k % 2 = 0) : (v + 2 ^ k) / 2 ^ k % 2 = 1 := by
  rw [Nat.add_div_right v (Nat.two_pow_pos k)]
  omega
theorem bit_clr {v k : Nat} (h : ¬ v / 2 ^ k % 2 = 0) : 2 ^ k ≤ v ∧ (v - 2 ^ k) / 2 ^ k % 2 = 0 := by
  have h1 : 2 ^ k ≤ v := by
    rcases Nat.lt_or_ge v (2 ^ k) with q | q
    · rw [Nat.div_eq_of_lt q] at h; exact absurd rfl h
    · exact q
  refine ⟨h1, ?_⟩
  have h2 : (v - 2 ^ k + 2 ^ k) / 2 ^ k = (v - 2 ^ k) / 2 ^ k + 1 := Nat.add_div_right _ (Nat.two_pow_pos k)
  rw [Nat.sub_add_cancel h1] at h2
  omega
theorem clr_bit (k v : Nat) : clr k v / 2 ^ k % 2 = 0 := by
  unfold clr
  by_cases e : v / 2 ^ k % 2 = 0
  · rw [if_pos e]; exact e
  · rw [if_neg e]; exact (bit_clr e).2
theorem bit_room {v k N : Nat} (hk : k < N) (hv : v < 2 ^ N) (h : v / 2 ^ k % 2 = 0) : v + 2 ^ k < 2 ^ N := by
  have h1 : v + 2 ^ k = (v / 2 ^ k + 1) * 2 ^ k + v % 2 ^ k := by
    have := Nat.div_add_mod v (2 ^ k)
    rw [Nat.add_mul, Nat.one_mul, Nat.mul_comm (v / 2 ^ k)]
    omega
  have h2 : v / 2 ^ k < 2 ^ (N - k) := by
    rw [Nat.div_lt_iff_lt_mul (Nat.two_pow_pos k), ← Nat.pow_add, show N - k + k = N by omega]
    exact hv
  have h3 : v / 2 ^ k + 1 < 2 ^ (N - k) := by
    have : (2 : Nat) ^ (N - k) = 2 * 2 ^ (N - k - 1) := by rw [← Nat.pow_succ']; congr 1; omega
    omega
  have h4 : (v / 2 ^ k + 2) * 2 ^ k ≤ 2 ^ (N - k) * 2 ^ k := Nat.mul_le_mul_right _ h3
  rw [← Nat.pow_add, show N - k + k = N by omega] at h4
  have h5 := Nat.mod_lt v (Nat.two_pow_pos k)
  rw [h1]
  have h6 : (v / 2 ^ k + 2) * 2 ^ k = (v / 2 ^ k + 1) * 2 ^ k + 2 ^ k := by rw [← Nat.succ_mul]
  omega
theorem and_bit {v k : Nat} : v &&& 2 ^ k = 0 ↔ v / 2 ^ k % 2 = 0 := by
  rw [and_pow, Nat.testBit_eq_decide_div_mod_eq]
  rcases Nat.mod_two_eq_zero_or_one (v / 2 ^ k) with h | h <;> rw [h] <;> simp
def s_X4_fillWaves : Sp := fun av z S I J R Post => ∃ (x a c d b : Nat), ∃ (P : Nat → Nat → Nat), av = [.ref x, .ref a, .int (nI b)] ∧ (XS S R x) ∧ (ScS S R a c) ∧ (x + 14 < a) ∧ (I a 2 = nI c) ∧ (I a 3 = nI d) ∧ (d ≤ 6) ∧ (b ≤ 12) ∧ (c ^ d = 2 ^ b) ∧ (∀ n j, n < c → j < d → I (a + 4) (j * c + n) = nI (P n j) ∧ P n j < c) ∧ (∀ I' : MI, FrS I I' (x + 9) (x + 9) → (∀ v, v < 2 ^ b → I' (x + 9) v = iZ (wht (fun u => qc (fun n => pl (P n) c d) u c) b v)) → Post 0 0 none z S I' J R)
theorem c_X4_fillWaves {x a c d b : Nat} {P : Nat → Nat → Nat} {z : Nat} {S : MS} {I : MI} {J : MJ} {R : MR} {Post : PT} (hX : XS S R x) (hSc : ScS S R a c) (hxa : x + 14 < a) (hcc : I a 2 = nI c) (hd : I a 3 = nI d) (hd6 : d ≤ 6) (hb : b ≤ 12) (hcd : c ^ d = 2 ^ b) (hP : ∀ n j, n < c → j < d → I (a + 4) (j * c + n) = nI (P n j) ∧ P n j < c) (hp : ∀ I' : MI, FrS I I' (x + 9) (x + 9) → (∀ v, v < 2 ^ b → I' (x + 9) v = iZ (wht (fun u => qc (fun n => pl (P n) c d) u c) b v)) → Post 0 0 none z S I' J R) : s_X4_fillWaves [.ref x, .ref a, .int (nI b)] z S I J R Post := ⟨x, a, c, d, b, P, rfl, hX, hSc, hxa, hcc, hd, hd6, hb, hcd, hP, hp⟩
set_option maxRecDepth 100000 in
set_option maxHeartbeats 400000 in
theorem m_X4_fillWaves (T : TC) (B : Nat) : Mt T B yX4_fillWaves cX4_fillWaves 9 none 0 (rmL 3 0 0) s_X4_fillWaves := by
  refine Mt_of rfl (by rintro _ _ _ _ _ _ _ ⟨_, _, _, _, _, _, rfl, -⟩; exact Nat.le_of_ble_eq_true rfl) ?_
  intro X av z S I J R Post h C Q hI
  obtain ⟨x, a, c, d, b, P, rfl, hX, hSc, hxa, hcc, hd, hd6, hb, hcd, hP, hp⟩ := h
  have hX0 := hX
  have hSc0 := hSc
  obtain ⟨hx, hx0, hx1, hx2, hx3, hx4, hx5, hs1, hT, hRa, hs9, hCo, hs14⟩ := hX
  obtain ⟨hs, hr5, hr6, hr7, hr8, hsa1, hs2, hs3, hs4, hc1, hc2⟩ := hSc
  have hb12 : 2 ^ b ≤ 2 ^ 12 := Nat.pow_le_pow_right (by decide) hb
  generalize hg : (fun n => pl (P n) c d) = g at hp
  have hgn : ∀ n, pl (P n) c d = g n := fun n => by rw [← hg]
  have hgl : ∀ n, n < c → g n < 2 ^ b := fun n hn => by rw [← hgn, ← hcd]; exact pl_lt (fun j hj => (hP n j hn hj).2)
  generalize hq : (fun u => qc g u c) = q at hp
  have lp3 : ∀ k : Nat, k < b → ∀ v : Nat, v ≤ 2 ^ b → ∀ I' : MI, FrS I I' (x + 9) (x + 9) → (∀ u, u < 2 ^ b → I' (x + 9) u = iZ (if clr k u < v then wht q (k + 1) u else wht q k u)) →
      (∀ I' : MI, FrS I I' (x + 9) (x + 9) → (∀ u, u < 2 ^ b → I' (x + 9) u = iZ (wht q (k + 1) u)) → V X 0 0 z S I' J R 85 [some (.ref x), some (.ref a), some (.int (nI b)), some (.int (nI (2 ^ b))), some (.int (nI (k + 1))), none, none, none, none] []) →
      V X 0 0 z S I' J R 100 [some (.ref x), some (.ref a), some (.int (nI b)), some (.int (nI (2 ^ b))), some (.int (nI k)), some (.int (nI (2 ^ k))), some (.int (nI v)), none, none] [] := by
    intro k hk
    have hk12 : 2 ^ k ≤ 2 ^ 12 := Nat.pow_le_pow_right (by decide) (by omega)
    refine lp_up (2 ^ b) ?_
    intro v hv ih I' hF hI K
    have hand : v &&& 2 ^ k ≤ v := Nat.and_le_left
    refine v_iload C dX4_fillWaves_100 rfl ?_
    refine v_iload_n C dX4_fillWaves_102 rfl ?_
    first | refine v_icmp_geN C 168 dX4_fillWaves_103 (by omega) (by omega) (by decide) (fun h103 => ?_) (fun h103 => ?_) | refine v_icmp_ge C 168 dX4_fillWaves_103 (by decide) (fun h103 => ?_) (fun h103 => ?_)
    · obtain rfl : v = 2 ^ b := by omega
      first | refine v_iincN 1 C dX4_fillWaves_168 rfl (by decide) ?_ | refine v_iinc C dX4_fillWaves_168 rfl rfl (by decide) ?_
      refine v_goto C 85 dX4_fillWaves_171 (by decide) ?_
      exact v_less (K I' hF (fun u hu => by
        rw [hI u hu, if_pos]
        unfold clr
        by_cases eb : u / 2 ^ k % 2 = 0
        · rw [if_pos eb]; exact hu
        · rw [if_neg eb]; exact Nat.lt_of_le_of_lt (Nat.sub_le _ _) hu)) (by repeat (first | exact trivial | refine And.intro rfl ?_))
    · refine v_iload C dX4_fillWaves_106 rfl ?_
      refine v_iload C dX4_fillWaves_108 rfl ?_
      first | refine v_iandN C dX4_fillWaves_110 ?_ | refine v_iand C dX4_fillWaves_110 ?_
      first | refine v_if_neN C 162 dX4_fillWaves_111 (by omega) (by decide) (fun h111 => ?_) (fun h111 => ?_) | refine v_if_ne C 162 dX4_fillWaves_111 (by decide) (fun h111 => ?_) (fun h111 => ?_)
      · have hbt : ¬ v / 2 ^ k % 2 = 0 := fun q => h111 (and_bit.mpr q)
        first | refine v_iincN 1 C dX4_fillWaves_162 rfl (by decide) ?_ | refine v_iinc C dX4_fillWaves_162 rfl rfl (by decide) ?_
        refine v_goto C 100 dX4_fillWaves_165 (by decide) ?_
        first
        | exact v_less (ih h103 I' hF (fun u hu => by
            rw [hI u hu]
            congr 1
            have hne : clr k u ≠ v := fun e => hbt (by rw [← e]; exact clr_bit k u)
            by_cases e : clr k u < v
            · rw [if_pos e, if_pos (by omega)]
            · rw [if_neg e, if_neg (by omega)]) K) (by repeat (first | exact trivial | refine And.intro rfl ?_))
        | exact v_less (ih h103 _ ((hF.mu (by omega) (by omega)).mu (by omega) (by omega)) (fun u hu => by
            by_cases eu : u = v + 2 ^ k
            · subst eu
              rw [mu_at, hcw, if_pos (by omega)]
              simp only [wht]
              rw [if_neg (by rw [bit_set hbt]; decide), Nat.add_sub_cancel]
            · rw [mu_other _ _ (fun q => eu q.2)]
              by_cases ev : u = v
              · subst ev
                rw [mu_at, hcv, if_pos (by omega)]
                simp only [wht]
                rw [if_pos hbt]
              · rw [mu_other _ _ (fun q => ev q.2), hI u hu]
                congr 1
                have hne : clr k u ≠ v := fun e => by
                  unfold clr at e
                  by_cases eb : u / 2 ^ k % 2 = 0
                  · rw [if_pos eb] at e; exact ev e
                  · rw [if_neg eb] at e; have := (bit_clr eb).1; omega
                by_cases e : clr k u < v
                · rw [if_pos e, if_pos (by omega)]
                · rw [if_neg e, if_neg (by omega)]) K) (by repeat (first | exact trivial | refine And.intro rfl ?_))
      · have hbt : v / 2 ^ k % 2 = 0 := and_bit.mp h111
        have hroom := bit_room hk h103 hbt
        have hcv : clr k v = v := by unfold clr; rw [if_pos hbt]
        have hcw : clr k (v + 2 ^ k) = v := by unfold clr; rw [if_neg (by rw [bit_set hbt]; decide)]; omega
        have e1 := hI v h103
        have e2 := hI (v + 2 ^ k) hroom
        rw [hcv, if_neg (by omega)] at e1
        rw [hcw, if_neg (by omega)] at e2
        refine v_aload_n C dX4_fillWaves_114 rfl ?_
        refine g_4_3 C (by assumption) (by assumption) wt_97 dX4_fillWaves_115 ?_
        refine v_iload C dX4_fillWaves_118 rfl ?_
        first | refine v_ialdN C (by assumption) (by omega) (by omega) dX4_fillWaves_120 ?_ | refine v_iald C (by assumption) (by assumption) dX4_fillWaves_120 ?_
        rw [e1]
        refine v_istore C dX4_fillWaves_121 (by decide) ?_
        refine v_aload_n C dX4_fillWaves_123 rfl ?_
        refine g_4_3 C (by assumption) (by assumption) wt_97 dX4_fillWaves_124 ?_
        refine v_iload C dX4_fillWaves_127 rfl ?_
        refine v_iload C dX4_fillWaves_129 rfl ?_
        first | refine v_iaddN C dX4_fillWaves_131 ?_ | refine v_iadd C dX4_fillWaves_131 ?_
        first | refine v_ialdN C (by assumption) (by omega) (by omega) dX4_fillWaves_132 ?_ | refine v_iald C (by assumption) (by assumption) dX4_fillWaves_132 ?_
        rw [e2]
        refine v_istore C dX4_fillWaves_133 (by decide) ?_
        refine v_aload_n C dX4_fillWaves_135 rfl ?_
        refine g_4_3 C (by assumption) (by assumption) wt_97 dX4_fillWaves_136 ?_
        refine v_iload C dX4_fillWaves_139 rfl ?_
        refine v_iload C dX4_fillWaves_141 rfl ?_
        refine v_iload C dX4_fillWaves_143 rfl ?_
        refine v_iadd C dX4_fillWaves_145 ?_
        rw [iZ_add]
        first | refine v_iastN C (by assumption) (by omega) (by omega) dX4_fillWaves_146 ?_ | refine v_iast C (by assumption) (by assumption) dX4_fillWaves_146 ?_
        refine v_aload_n C dX4_fillWaves_147 rfl ?_
        refine g_4_3 C (by assumption) (by assumption) wt_97 dX4_fillWaves_148 ?_
        refine v_iload C dX4_fillWaves_151 rfl ?_
        refine v_iload C dX4_fillWaves_153 rfl ?_
        first | refine v_iaddN C dX4_fillWaves_155 ?_ | refine v_iadd C dX4_fillWaves_155 ?_
        refine v_iload C dX4_fillWaves_156 rfl ?_
        refine v_iload C dX4_fillWaves_158 rfl ?_
        refine v_isub C dX4_fillWaves_160 ?_
        rw [iZ_sub]
        first | refine v_iastN C (by assumption) (by omega) (by omega) dX4_fillWaves_161 ?_ | refine v_iast C (by assumption) (by assumption) dX4_fillWaves_161 ?_
        first | refine v_iincN 1 C dX4_fillWaves_162 rfl (by decide) ?_ | refine v_iinc C dX4_fillWaves_162 rfl rfl (by decide) ?_
        refine v_goto C 100 dX4_fillWaves_165 (by decide) ?_
        first
        | exact v_less (ih h103 I' hF (fun u hu => by
            rw [hI u hu]
            congr 1
            have hne : clr k u ≠ v := fun e => hbt (by rw [← e]; exact clr_bit k u)
            by_cases e : clr k u < v
            · rw [if_pos e, if_pos (by omega)]
            · rw [if_neg e, if_neg (by omega)]) K) (by repeat (first | exact trivial | refine And.intro rfl ?_))
        | exact v_less (ih h103 _ ((hF.mu (by omega) (by omega)).mu (by omega) (by omega)) (fun u hu => by
            by_cases eu : u = v + 2 ^ k
            · subst eu
              rw [mu_at, hcw, if_pos (by omega)]
              simp only [wht]
              rw [if_neg (by rw [bit_set hbt]; decide), Nat.add_sub_cancel]
            · rw [mu_other _ _ (fun q => eu q.2)]
              by_cases ev : u = v
              · subst ev
                rw [mu_at, hcv, if_pos (by omega)]
                simp only [wht]
                rw [if_pos hbt]
              · rw [mu_other _ _ (fun q => ev q.2), hI u hu]
                congr 1
                have hne : clr k u ≠ v := fun e => by
                  unfold clr at e
                  by_cases eb : u / 2 ^ k % 2 = 0
                  · rw [if_pos eb] at e; exact ev e
                  · rw [if_neg eb] at e; have := (bit_clr eb).1; omega
                by_cases e : clr k u < v
                · rw [if_pos e, if_pos (by omega)]
                · rw [if_neg e, if_neg (by omega)]) K) (by repeat (first | exact trivial | refine And.intro rfl ?_))
  have lp2 : ∀ k : Nat, k ≤ b → ∀ I' : MI, FrS I I' (x + 9) (x + 9) → (∀ u, u < 2 ^ b → I' (x + 9) u = iZ (wht q k u)) → V X 0 0 z S I' J R 85 [some (.ref x), some (.ref a), some (.int (nI b)), some (.int (nI (2 ^ b))), some (.int (nI k)), none, none, none, none] [] := by
    refine lp_up b ?_
    intro k hk ih I' hF hI
    have hk12 : 2 ^ k ≤ 2 ^ 12 := Nat.pow_le_pow_right (by decide) (by omega)
    refine v_iload C dX4_fillWaves_85 rfl ?_
    refine v_iload_n C dX4_fillWaves_87 rfl ?_
    first | refine v_icmp_geN C 174 dX4_fillWaves_88 (by omega) (by omega) (by decide) (fun h88 => ?_) (fun h88 => ?_) | refine v_icmp_ge C 174 dX4_fillWaves_88 (by decide) (fun h88 => ?_) (fun h88 => ?_)
    · refine v_ret C Q dX4_fillWaves_174 (Nat.le_of_ble_eq_true rfl) (Nat.le_of_ble_eq_true rfl) ?_
      obtain rfl : k = b := by omega
      exact hp I' hF hI
    · refine v_iconstN 1 C dX4_fillWaves_91 ?_
      refine v_iload C dX4_fillWaves_92 rfl ?_
      first | refine v_ishlN C dX4_fillWaves_94 (by omega) (by rw [Nat.one_mul]; omega) ?_ | refine v_ishl C dX4_fillWaves_94 ?_
      rw [Nat.one_mul]
      refine v_istore C dX4_fillWaves_95 (by decide) ?_
      refine v_iconstN 0 C dX4_fillWaves_97 ?_
      refine v_istore C dX4_fillWaves_98 (by decide) ?_
      exact v_less (lp3 k h88 0 (Nat.zero_le _) I' hF (fun u hu => by rw [hI u hu, if_neg (by omega)]) (ih h88)) (by repeat (first | exact trivial | refine And.intro rfl ?_))
  have in1 : ∀ n : Nat, n < c → ∀ j : Nat, j ≤ d → ∀ I' : MI, FrS I I' (x + 9) (x + 9) → (∀ u, u < 2 ^ b → I' (x + 9) u = nI (qc g u n)) →
      (∀ I' : MI, FrS I I' (x + 9) (x + 9) → (∀ u, u < 2 ^ b → I' (x + 9) u = nI (qc g u (n + 1))) → V X 0 0 z S I' J R 17 [some (.ref x), some (.ref a), some (.int (nI b)), some (.int (nI (2 ^ b))), some (.int (nI (n + 1))), none, none, none, none] []) →
      V X 0 0 z S I' J R 32 [some (.ref x), some (.ref a), some (.int (nI b)), some (.int (nI (2 ^ b))), some (.int (nI n)), some (.int (nI (pl (P n) c j))), some (.int (nI j)), none, none] [] := by
    intro n hn
    refine lp_up d ?_
    intro j hj ih I' hF hI K
    have f2 : I' a 2 = nI c := (hF a 2 (by omega)).trans hcc
    have f3 : I' a 3 = nI d := (hF a 3 (by omega)).trans hd
    have hgb := hgl n hn
    refine v_iload C dX4_fillWaves_32 rfl ?_
    refine v_aload_n C dX4_fillWaves_34 rfl ?_
    first | refine gv_2_3 C (by assumption) (by assumption) wt_156 dX4_fillWaves_35 ?_ | refine g_2_3 C (by assumption) wt_156 dX4_fillWaves_35 ?_
    first | refine v_icmp_geN C 65 dX4_fillWaves_38 (by omega) (by omega) (by decide) (fun h38 => ?_) (fun h38 => ?_) | refine v_icmp_ge C 65 dX4_fillWaves_38 (by decide) (fun h38 => ?_) (fun h38 => ?_)
    · obtain rfl : j = d := by omega
      rw [hgn n]
      refine v_aload_n C dX4_fillWaves_65 rfl ?_
      refine g_4_3 C (by assumption) (by assumption) wt_97 dX4_fillWaves_66 ?_
      refine v_iload C dX4_fillWaves_69 rfl ?_
      refine v_dup2 C dX4_fillWaves_71 rfl rfl ?_
      first | refine v_ialdN C (by assumption) (by omega) (by omega) dX4_fillWaves_72 ?_ | refine v_iald C (by assumption) (by assumption) dX4_fillWaves_72 ?_
      rw [hI _ hgb]
      refine v_iconstN 1 C dX4_fillWaves_73 ?_
      first | refine v_iaddN C dX4_fillWaves_74 ?_ | refine v_iadd C dX4_fillWaves_74 ?_
      first | refine v_iastN C (by assumption) (by omega) (by omega) dX4_fillWaves_75 ?_ | refine v_iast C (by assumption) (by assumption) dX4_fillWaves_75 ?_
      first | refine v_iincN 1 C dX4_fillWaves_76 rfl (by decide) ?_ | refine v_iinc C dX4_fillWaves_76 rfl rfl (by decide) ?_
      refine v_goto C 17 dX4_fillWaves_79 (by decide) ?_
      exact v_less (K _ (hF.mu (by omega) (by omega)) (hist hI)) (by repeat (first | exact trivial | refine And.intro rfl ?_))
    · obtain ⟨p1, p2⟩ := hP n j hn h38
      refine v_iload C dX4_fillWaves_41 rfl ?_
      refine v_aload_n C dX4_fillWaves_43 rfl ?_
      first | refine gv_2_2 C (by assumption) (by assumption) wt_150 dX4_fillWaves_44 ?_ | refine g_2_2 C (by assumption) wt_150 dX4_fillWaves_44 ?_
      first | refine v_imulN C dX4_fillWaves_47 ?_ | refine v_imul C dX4_fillWaves_47 ?_
      refine v_aload_n C dX4_fillWaves_48 rfl ?_
      refine v_iload C dX4_fillWaves_49 rfl ?_
      refine v_iload C dX4_fillWaves_51 rfl ?_
      refine v_callV2_1 C (m_X2_partAt T B) lk_X4_131 ⟨wt_295, wt_296⟩ 2 rfl dX4_fillWaves_53 ⟨Nat.le_of_ble_eq_true rfl, Nat.le_of_ble_eq_true rfl⟩ (Nat.le_of_ble_eq_true rfl) ⟨Nat.le_of_ble_eq_true rfl, Nat.le_of_ble_eq_true rfl⟩ (by assumption) (cTo_2 (by assumption)) ?_
      refine c_X2_partAt hSc0 f2 hn (by omega) ?_
      rw [hF (a + 4) _ (by omega), p1]
      first | refine v_iaddN C dX4_fillWaves_56 ?_ | refine v_iadd C dX4_fillWaves_56 ?_
      refine v_istore C dX4_fillWaves_57 (by decide) ?_
      first | refine v_iincN 1 C dX4_fillWaves_59 rfl (by decide) ?_ | refine v_iinc C dX4_fillWaves_59 rfl rfl (by decide) ?_
      refine v_goto C 32 dX4_fillWaves_62 (by decide) ?_
      exact v_less (ih h38 I' hF hI K) (by repeat (first | exact trivial | refine And.intro rfl ?_))
  have lp1 : ∀ n : Nat, n ≤ c → ∀ I' : MI, FrS I I' (x + 9) (x + 9) → (∀ u, u < 2 ^ b → I' (x + 9) u = nI (qc g u n)) → V X 0 0 z S I' J R 17 [some (.ref x), some (.ref a), some (.int (nI b)), some (.int (nI (2 ^ b))), some (.int (nI n)), none, none, none, none] [] := by
    refine lp_up c ?_
    intro n hn ih I' hF hI
    have f2 : I' a 2 = nI c := (hF a 2 (by omega)).trans hcc
    refine v_iload C dX4_fillWaves_17 rfl ?_
    refine v_aload_n C dX4_fillWaves_19 rfl ?_
    first | refine gv_2_2 C (by assumption) (by assumption) wt_150 dX4_fillWaves_20 ?_ | refine g_2_2 C (by assumption) wt_150 dX4_fillWaves_20 ?_
    first | refine v_icmp_geN C 82 dX4_fillWaves_23 (by omega) (by omega) (by decide) (fun h23 => ?_) (fun h23 => ?_) | refine v_icmp_ge C 82 dX4_fillWaves_23 (by decide) (fun h23 => ?_) (fun h23 => ?_)
    · refine v_iconstN 0 C dX4_fillWaves_82 ?_
      refine v_istore C dX4_fillWaves_83 (by decide) ?_
      obtain rfl : n = c := by omega
      exact v_less (lp2 0 (Nat.zero_le _) I' hF (fun u hu => by rw [hI u hu, iZ_nat, ← hq]; rfl)) (by repeat (first | exact trivial | refine And.intro rfl ?_))
    · refine v_iconstN 0 C dX4_fillWaves_26 ?_
      refine v_istore C dX4_fillWaves_27 (by decide) ?_
      refine v_iconstN 0 C dX4_fillWaves_29 ?_
      refine v_istore C dX4_fillWaves_30 (by decide) ?_
      exact v_less (in1 n h23 0 (Nat.zero_le _) I' hF hI (ih h23)) (by repeat (first | exact trivial | refine And.intro rfl ?_))
  refine v_iconstN 1 C dX4_fillWaves_0 ?_
  refine v_iload_n C dX4_fillWaves_1 rfl ?_
  first | refine v_ishlN C dX4_fillWaves_2 (by omega) (by rw [Nat.one_mul]; omega) ?_ | refine v_ishl C dX4_fillWaves_2 ?_
  rw [Nat.one_mul]
  refine v_istore_n C dX4_fillWaves_3 (by decide) ?_
  refine v_aload_n C dX4_fillWaves_4 rfl ?_
  refine g_4_3 C (by assumption) (by assumption) wt_97 dX4_fillWaves_5 ?_
  refine v_iconstN 0 C dX4_fillWaves_8 ?_
  refine v_iload_n C dX4_fillWaves_9 rfl ?_
  refine v_iconstN 0 C dX4_fillWaves_10 ?_
  refine v_callS4_0 C (m_J7_fill_fda19 T B) lk_X4_250 wt_357 dX4_fillWaves_11 ⟨Nat.le_of_ble_eq_true rfl, Nat.le_of_ble_eq_true rfl⟩ (Nat.le_of_ble_eq_true rfl) ⟨Nat.le_of_ble_eq_true rfl, Nat.le_of_ble_eq_true rfl⟩ ?_
  refine c_J7_fill_fda19 hs9 (Nat.zero_le _) (by omega) (by omega) ?_
  refine v_iconstN 0 C dX4_fillWaves_14 ?_
  refine v_istore C dX4_fillWaves_15 (by decide) ?_
  exact v_less (lp1 0 (Nat.zero_le _) _ (FrS.rf.mfl (by omega) (by omega)) (fun u hu => by rw [mfl_in (Nat.zero_le _) hu]; rfl)) (by repeat (first | exact trivial | refine And.intro rfl ?_))
