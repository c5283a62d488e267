def wsq (F : Nat) : Nat → Nat
  | 0 => F
  | t + 1 => (wsq F t * 6364136223846793005 + 1442695040888963407) % 2 ^ 64
theorem wsq_s (F t : Nat) : wsq F (t + 1) = (wsq F t * 6364136223846793005 + 1442695040888963407) % 2 ^ 64 := rfl
theorem wsq_lt {F : Nat} (h : F < 18446744073709551616) : ∀ t, wsq F t < 18446744073709551616
  | 0 => h
  | t + 1 => Nat.mod_lt _ (by decide)
def lotV (F p d n j : Nat) : Nat := wsq F (n * d + j + 1) / 2 ^ (64 - p)
theorem lot_cut {W p : Nat} (hp : p ≤ 8) : W / 2 ^ 1 / 2 ^ (63 - p) = W / 2 ^ (64 - p) := by
  rw [Nat.div_div_eq_div_mul, ← Nat.pow_add]
  congr 2
  omega
theorem lotV_lt {F p d n j : Nat} (h : F < 18446744073709551616) (hp : p ≤ 8) : lotV F p d n j < 2 ^ p := by
  unfold lotV
  rw [Nat.div_lt_iff_lt_mul (Nat.two_pow_pos _), ← Nat.pow_add, show p + (64 - p) = 64 by omega]
  exact wsq_lt h _
theorem jc_inj {j n j' n' c : Nat} (hn : n < c) (hn' : n' < c) (h : j * c + n = j' * c + n') : j = j' ∧ n = n' := by
  have e1 : (j * c + n) / c = j := by rw [Nat.mul_comm, Nat.mul_add_div (by omega), Nat.div_eq_of_lt hn, Nat.add_zero]
  have e2 : (j' * c + n') / c = j' := by rw [Nat.mul_comm, Nat.mul_add_div (by omega), Nat.div_eq_of_lt hn', Nat.add_zero]
  have : j = j' := by rw [← e1, ← e2, h]
  subst this
  exact ⟨rfl, by omega⟩
def s_X2_fillFromSeed : Sp := fun av z S I J R Post => ∃ (a c p d F : Nat), av = [.ref a, .long (lN F)] ∧ (ScS S R a c) ∧ (I a 1 = nI p) ∧ (I a 2 = nI c) ∧ (p ≤ 8) ∧ (I a 3 = nI d) ∧ (d ≤ 6) ∧ (F < 18446744073709551616) ∧ (∀ I' : MI, Fr I I' (a + 4) 0 (6 * c) → (∀ n j, n < c → j < d → I' (a + 4) (j * c + n) = nI (lotV F p d n j)) → Post 0 0 none z S I' J R)
theorem c_X2_fillFromSeed {a c p d F : Nat} {z : Nat} {S : MS} {I : MI} {J : MJ} {R : MR} {Post : PT} (hSc : ScS S R a c) (hpw : I a 1 = nI p) (hcc : I a 2 = nI c) (hp8 : p ≤ 8) (hd : I a 3 = nI d) (hd6 : d ≤ 6) (hF : F < 18446744073709551616) (hp : ∀ I' : MI, Fr I I' (a + 4) 0 (6 * c) → (∀ n j, n < c → j < d → I' (a + 4) (j * c + n) = nI (lotV F p d n j)) → Post 0 0 none z S I' J R) : s_X2_fillFromSeed [.ref a, .long (lN F)] z S I J R Post := ⟨a, c, p, d, F, rfl, hSc, hpw, hcc, hp8, hd, hd6, hF, hp⟩
set_option maxRecDepth 100000 in
set_option maxHeartbeats 400000 in
theorem m_X2_fillFromSeed (T : TC) (B : Nat) : Mt T B yX2_fillFromSeed cX2_fillFromSeed 7 none 0 (rmL 1 0 0) s_X2_fillFromSeed := by
  refine Mt_of rfl (by rintro _ _ _ _ _ _ _ ⟨_, _, _, _, _, rfl, -⟩; exact Nat.le_of_ble_eq_true rfl) ?_
  intro X av z S I J R Post h C Q hI
  obtain ⟨a, c, p, d, F, rfl, hSc, hpw, hcc, hp8, hd, hd6, hF, hp⟩ := h
  obtain ⟨hs, hr5, hr6, hr7, hr8, hs1, hs2, hs3, hs4, hc1, hc2⟩ := hSc
  have inner : ∀ n : Nat, n < c → ∀ j : Nat, j ≤ d → ∀ I' : MI, Fr I I' (a + 4) 0 (6 * c) → (∀ n' j', n' < n → j' < d → I' (a + 4) (j' * c + n') = nI (lotV F p d n' j')) → (∀ j', j' < j → I' (a + 4) (j' * c + n) = nI (lotV F p d n j')) →
      (∀ I' : MI, Fr I I' (a + 4) 0 (6 * c) → (∀ n' j', n' < n + 1 → j' < d → I' (a + 4) (j' * c + n') = nI (lotV F p d n' j')) → V X 0 0 z S I' J R 5 [some (.ref a), none, none, some (.long (lN (wsq F ((n + 1) * d)))), none, some (.int (nI (n + 1))), none] []) →
      V X 0 0 z S I' J R 17 [some (.ref a), none, none, some (.long (lN (wsq F (n * d + j)))), none, some (.int (nI n)), some (.int (nI j))] [] := by
    intro n hn
    refine lp_up d ?_
    intro j hj ih I' hFr h1 h2 K
    have f1 : I' a 1 = nI p := (hFr a 1 (by omega)).trans hpw
    have f2 : I' a 2 = nI c := (hFr a 2 (by omega)).trans hcc
    have f3 : I' a 3 = nI d := (hFr a 3 (by omega)).trans hd
    have hW := wsq_lt hF (n * d + j + 1)
    have hW2 : wsq F (n * d + j + 1) / 2 ^ 1 < 18446744073709551616 := Nat.lt_of_le_of_lt (Nat.div_le_self _ _) hW
    refine v_iload C dX2_fillFromSeed_17 rfl ?_
    refine v_aload_n C dX2_fillFromSeed_19 rfl ?_
    first | refine gv_2_3 C (by assumption) (by assumption) wt_152 dX2_fillFromSeed_20 ?_ | refine g_2_3 C (by assumption) wt_152 dX2_fillFromSeed_20 ?_
    first | refine v_icmp_geN C 69 dX2_fillFromSeed_23 (by omega) (by omega) (by decide) (fun h23 => ?_) (fun h23 => ?_) | refine v_icmp_ge C 69 dX2_fillFromSeed_23 (by decide) (fun h23 => ?_) (fun h23 => ?_)
    · first | refine v_iincN 1 C dX2_fillFromSeed_69 rfl (by decide) ?_ | refine v_iinc C dX2_fillFromSeed_69 rfl rfl (by decide) ?_
      refine v_goto C 5 dX2_fillFromSeed_72 (by decide) ?_
      obtain rfl : j = d := by omega
      have hK := K I' hFr (fun n' j' e1 e2 => by
        by_cases e : n' = n
        · subst e; exact h2 j' e2
        · exact h1 n' j' (by omega) e2)
      rw [Nat.add_mul, Nat.one_mul] at hK
      exact v_less hK (by repeat (first | exact trivial | refine And.intro rfl ?_))
    · have hlt := jc_lt (c := c) (show j < 6 by omega) hn
      refine v_lload_n C dX2_fillFromSeed_26 rfl ?_
      refine v_ldc2 C dX2_fillFromSeed_27 wt_284 ?_
      refine v_eql (x' := lN 6364136223846793005) (by decide +kernel) ?_
      first | refine v_lmulN C dX2_fillFromSeed_30 ?_ | refine v_lmul C dX2_fillFromSeed_30 ?_
      refine v_ldc2 C dX2_fillFromSeed_31 wt_285 ?_
      refine v_eql (x' := lN 1442695040888963407) (by decide +kernel) ?_
      first | refine v_laddN C dX2_fillFromSeed_34 ?_ | refine v_ladd C dX2_fillFromSeed_34 ?_
      rw [wb_mod (wsq F (n * d + j) * 6364136223846793005 + 1442695040888963407), ← wsq_s]
      refine v_lstore_n C dX2_fillFromSeed_35 (by decide) ?_
      refine v_aload_n C dX2_fillFromSeed_36 rfl ?_
      refine g_2_8 C (by assumption) (by assumption) wt_164 dX2_fillFromSeed_37 ?_
      refine v_iload C dX2_fillFromSeed_40 rfl ?_
      refine v_aload_n C dX2_fillFromSeed_42 rfl ?_
      first | refine gv_2_2 C (by assumption) (by assumption) wt_148 dX2_fillFromSeed_43 ?_ | refine g_2_2 C (by assumption) wt_148 dX2_fillFromSeed_43 ?_
      first | refine v_imulN C dX2_fillFromSeed_46 ?_ | refine v_imul C dX2_fillFromSeed_46 ?_
      refine v_iload C dX2_fillFromSeed_47 rfl ?_
      first | refine v_iaddN C dX2_fillFromSeed_49 ?_ | refine v_iadd C dX2_fillFromSeed_49 ?_
      refine v_lload_n C dX2_fillFromSeed_50 rfl ?_
      refine v_iconstN 1 C dX2_fillFromSeed_51 ?_
      refine v_lushr C dX2_fillFromSeed_52 ?_
      rw [wb_shr hW (by decide)]
      refine v_bipushN 63 (by decide) C dX2_fillFromSeed_53 ?_
      refine v_aload_n C dX2_fillFromSeed_55 rfl ?_
      first | refine gv_2_1 C (by assumption) (by assumption) wt_144 dX2_fillFromSeed_56 ?_ | refine g_2_1 C (by assumption) wt_144 dX2_fillFromSeed_56 ?_
      first | refine v_isubN C dX2_fillFromSeed_59 (by omega) ?_ | refine v_isub C dX2_fillFromSeed_59 ?_
      refine v_lushr C dX2_fillFromSeed_60 ?_
      rw [wb_shr hW2 (by omega)]
      first | refine v_l2iN C dX2_fillFromSeed_61 ?_ | refine v_l2i C dX2_fillFromSeed_61 ?_
      rw [lot_cut hp8]
      first | refine v_iastN C (by assumption) hlt (by omega) dX2_fillFromSeed_62 ?_ | refine v_iast C (by assumption) (by assumption) dX2_fillFromSeed_62 ?_
      first | refine v_iincN 1 C dX2_fillFromSeed_63 rfl (by decide) ?_ | refine v_iinc C dX2_fillFromSeed_63 rfl rfl (by decide) ?_
      refine v_goto C 17 dX2_fillFromSeed_66 (by decide) ?_
      exact v_less (ih h23 _ (hFr.mu (by omega) hlt) (fun n' j' e1 e2 => by
        rw [mu_other _ _ (fun e => by have := (jc_inj (by omega) hn e.2).2; omega)]; exact h1 n' j' e1 e2) (fun j' e1 => by
        by_cases e : j' = j
        · subst e; exact mu_at _ _ _ _
        · rw [mu_other _ _ (fun e3 => e (jc_inj hn hn e3.2).1)]; exact h2 j' (by omega)) K) (by repeat (first | exact trivial | refine And.intro rfl ?_))
  have loop : ∀ n : Nat, n ≤ c → ∀ I' : MI, Fr I I' (a + 4) 0 (6 * c) → (∀ n' j', n' < n → j' < d → I' (a + 4) (j' * c + n') = nI (lotV F p d n' j')) → V X 0 0 z S I' J R 5 [some (.ref a), none, none, some (.long (lN (wsq F (n * d)))), none, some (.int (nI n)), none] [] := by
    refine lp_up c ?_
    intro n hn ih I' hFr h1
    have f2 : I' a 2 = nI c := (hFr a 2 (by omega)).trans hcc
    refine v_iload C dX2_fillFromSeed_5 rfl ?_
    refine v_aload_n C dX2_fillFromSeed_7 rfl ?_
    first | refine gv_2_2 C (by assumption) (by assumption) wt_148 dX2_fillFromSeed_8 ?_ | refine g_2_2 C (by assumption) wt_148 dX2_fillFromSeed_8 ?_
    first | refine v_icmp_geN C 75 dX2_fillFromSeed_11 (by omega) (by omega) (by decide) (fun h11 => ?_) (fun h11 => ?_) | refine v_icmp_ge C 75 dX2_fillFromSeed_11 (by decide) (fun h11 => ?_) (fun h11 => ?_)
    · refine v_ret C Q dX2_fillFromSeed_75 (Nat.le_of_ble_eq_true rfl) (Nat.le_of_ble_eq_true rfl) ?_
      obtain rfl : n = c := by omega
      exact hp I' hFr h1
    · refine v_iconstN 0 C dX2_fillFromSeed_14 ?_
      refine v_istore C dX2_fillFromSeed_15 (by decide) ?_
      exact v_less (inner n h11 0 (Nat.zero_le _) I' hFr h1 (fun j' e => absurd e (by omega)) (ih h11)) (by repeat (first | exact trivial | refine And.intro rfl ?_))
  have h0 := loop 0 (Nat.zero_le _) I Fr.rf (fun n' j' e => absurd e (by omega))
  rw [Nat.zero_mul] at h0
  refine v_lload_n C dX2_fillFromSeed_0 rfl ?_
  refine v_lstore_n C dX2_fillFromSeed_1 (by decide) ?_
  refine v_iconstN 0 C dX2_fillFromSeed_2 ?_
  refine v_istore C dX2_fillFromSeed_3 (by decide) ?_
  exact v_less h0 (by repeat (first | exact trivial | refine And.intro rfl ?_))
def s_X2_init : Sp := fun av z S I J R Post => ∃ (a c : Nat), ∃ (kd d p : Int32), av = [.ref a, .int kd, .int d, .int p, .int (nI c)] ∧ (z = a + 1) ∧ (S a = (3, 0)) ∧ (1 ≤ c) ∧ (c ≤ 256) ∧ (∀ (S' : MS) (I' : MI) (R' : MR), ScS S' R' a c → (∀ b, ¬ (a < b ∧ b ≤ a + 4) → S' b = S b) → I' a 0 = kd → I' a 1 = p → I' a 2 = nI c → I' a 3 = d → I' a 4 = nI 0 → (∀ b k, a < b → b ≤ a + 4 → I' b k = 0) → FrS I I' a (a + 4) → (∀ b k, b ≠ a → R' b k = R b k) → Post 0 0 none (a + 5) S' I' J R')
theorem c_X2_init {a c : Nat} {kd d p : Int32} {z : Nat} {S : MS} {I : MI} {J : MJ} {R : MR} {Post : PT} (hz : z = a + 1) (hs : S a = (3, 0)) (hc1 : 1 ≤ c) (hc2 : c ≤ 256) (hp : ∀ (S' : MS) (I' : MI) (R' : MR), ScS S' R' a c → (∀ b, ¬ (a < b ∧ b ≤ a + 4) → S' b = S b) → I' a 0 = kd → I' a 1 = p → I' a 2 = nI c → I' a 3 = d → I' a 4 = nI 0 → (∀ b k, a < b → b ≤ a + 4 → I' b k = 0) → FrS I I' a (a + 4) → (∀ b k, b ≠ a → R' b k = R b k) → Post 0 0 none (a + 5) S' I' J R') : s_X2_init [.ref a, .int kd, .int d, .int p, .int (nI c)] z S I J R Post := ⟨a, c, kd, d, p, rfl, hz, hs, hc1, hc2, hp⟩
set_option maxRecDepth 100000 in
set_option maxHeartbeats 1000000 in
theorem m_X2_init (T : TC) (B : Nat) : Mt T B yX2_init cX2_init 5 none 0 (rmL 2 4 1596) s_X2_init := by
  refine Mt_of rfl (by rintro _ _ _ _ _ _ _ ⟨_, _, _, _, _, rfl, -⟩; exact Nat.le_of_ble_eq_true rfl) ?_
  intro X av z S I J R Post h C Q hI
  obtain ⟨a, c, kd, d, p, rfl, hz, hs, hc1, hc2, hp⟩ := h
  have hI := hI rfl
  subst hz
  have e1 : su S (a + 1) 7 48 a = (3, 0) := (su_ne _ (by omega)).trans hs
  have e2 : su (su S (a + 1) 7 48) (a + 1 + 1) 7 6 a = (3, 0) := (su_ne _ (by omega)).trans e1
  have e3 : su (su (su S (a + 1) 7 48) (a + 1 + 1) 7 6) (a + 1 + 1 + 1) 7 6 a = (3, 0) := (su_ne _ (by omega)).trans e2
  have e4 : su (su (su (su S (a + 1) 7 48) (a + 1 + 1) 7 6) (a + 1 + 1 + 1) 7 6) (a + 1 + 1 + 1 + 1) 7 (6 * c) a = (3, 0) := (su_ne _ (by omega)).trans e3
  refine v_aload_n C dX2_init_0 rfl ?_
  refine v_objInit C wt_135 (Nat.le_of_ble_eq_true rfl) (Nat.le_of_ble_eq_true rfl) dX2_init_1 ?_
  refine v_aload_n C dX2_init_4 rfl ?_
  refine v_bipushN 48 (by decide) C dX2_init_5 ?_
  refine v_newI C (by omega) (by decide) (by decide) dX2_init_7 ?_
  refine p_2_5 C hI (by assumption) wt_159 dX2_init_9 rfl ?_
  refine v_aload_n C dX2_init_12 rfl ?_
  refine v_bipushN 6 (by decide) C dX2_init_13 ?_
  refine v_newI C (by omega) (by decide) (by decide) dX2_init_15 ?_
  refine p_2_6 C hI (by assumption) wt_160 dX2_init_17 rfl ?_
  refine v_aload_n C dX2_init_20 rfl ?_
  refine v_bipushN 6 (by decide) C dX2_init_21 ?_
  refine v_newI C (by omega) (by decide) (by decide) dX2_init_23 ?_
  refine p_2_7 C hI (by assumption) wt_162 dX2_init_25 rfl ?_
  refine v_aload_n C dX2_init_28 rfl ?_
  refine v_iload_n C dX2_init_29 rfl ?_
  refine p_2_0 C hI (by assumption) wt_142 dX2_init_30 rfl ?_
  refine v_aload_n C dX2_init_33 rfl ?_
  refine v_iload_n C dX2_init_34 rfl ?_
  refine p_2_3 C (by assumption) wt_152 dX2_init_35 ?_
  refine v_aload_n C dX2_init_38 rfl ?_
  refine v_iload_n C dX2_init_39 rfl ?_
  refine p_2_1 C hI (by assumption) wt_144 dX2_init_40 rfl ?_
  refine v_aload_n C dX2_init_43 rfl ?_
  refine v_iconstN 1 C dX2_init_44 ?_
  refine v_iload C dX2_init_45 rfl ?_
  refine v_sipushN 256 (by decide +kernel) C dX2_init_47 ?_
  refine v_mmin C wt_136 wt_137 wt_138 (Nat.le_of_ble_eq_true rfl) (Nat.le_of_ble_eq_true rfl) (Nat.le_of_ble_eq_true rfl) (Nat.le_of_ble_eq_true rfl) dX2_init_50 ?_
  rw [if_neg (nI_nlt hc2 (by decide))]
  refine v_mmax C wt_139 wt_140 wt_141 (Nat.le_of_ble_eq_true rfl) (Nat.le_of_ble_eq_true rfl) (Nat.le_of_ble_eq_true rfl) (Nat.le_of_ble_eq_true rfl) dX2_init_53 ?_
  refine v_eqi (x' := nI c) (by
    by_cases e : c = 1
    · subst e; rfl
    · rw [if_pos (nI_lt (by omega) (by omega))]) ?_
  refine p_2_2 C hI (by assumption) wt_148 dX2_init_56 rfl ?_
  refine v_aload_n C dX2_init_59 rfl ?_
  refine v_iconstN 0 C dX2_init_60 ?_
  refine p_2_4 C (by assumption) wt_157 dX2_init_61 ?_
  refine v_aload_n C dX2_init_64 rfl ?_
  refine v_bipushN 6 (by decide) C dX2_init_65 ?_
  refine v_aload_n C dX2_init_67 rfl ?_
  first | refine gv_2_2 C (by assumption) ((mu_other _ _ (by omega)).trans (mu_at _ _ _ _)) wt_148 dX2_init_68 ?_ | refine g_2_2 C (by assumption) wt_148 dX2_init_68 ?_
  first | refine v_imulN C dX2_init_71 ?_ | refine v_imul C dX2_init_71 ?_
  refine v_newI C (by omega) (by decide) (by show 0 + 48 + 6 + 6 + 6 * c ≤ 1596; omega) dX2_init_72 ?_
  refine p_2_8 C hI (by assumption) wt_164 dX2_init_74 rfl ?_
  refine v_ret C Q dX2_init_77 (Nat.le_of_ble_eq_true rfl) (by show 0 + 48 + 6 + 6 + 6 * c ≤ 1596; omega) ?_
  refine hp _ _ _ ⟨e4, by simp [mu], by simp [mu], by simp [mu], by simp [mu], (su_ne _ (by omega)).trans ((su_ne _ (by omega)).trans ((su_ne _ (by omega)).trans (su_at _ _ _ _))), (su_ne _ (by omega)).trans ((su_ne _ (by omega)).trans (su_at _ _ _ _)), (su_ne _ (by omega)).trans (su_at _ _ _ _), su_at _ _ _ _, hc1, hc2⟩ (fun b hb => ?_) ?_ ?_ ?_ ?_ ?_ (fun b k h1 h2 => ?_) (fun b k hb => ?_) (fun b k hb => ?_)
  · rw [su_ne _ (by omega), su_ne _ (by omega), su_ne _ (by omega), su_ne _ (by omega)]
  · rw [mz_ne _ _ (by omega)]; simp [mu]
  · rw [mz_ne _ _ (by omega)]; simp [mu]
  · rw [mz_ne _ _ (by omega)]; simp [mu]
  · rw [mz_ne _ _ (by omega)]; simp [mu]
  · rw [mz_ne _ _ (by omega)]; simp [mu]
  · rcases (show b = a + 4 ∨ b = a + 3 ∨ b = a + 2 ∨ b = a + 1 by omega) with rfl | rfl | rfl | rfl
    · exact mz_at _ _ _ _
    · rw [mz_ne _ _ (by omega), mu_ne _ _ (by omega), mu_ne _ _ (by omega), mu_ne _ _ (by omega), mu_ne _ _ (by omega), mu_ne _ _ (by omega)]; exact mz_at _ _ _ _
    · rw [mz_ne _ _ (by omega), mu_ne _ _ (by omega), mu_ne _ _ (by omega), mu_ne _ _ (by omega), mu_ne _ _ (by omega), mu_ne _ _ (by omega), mz_ne _ _ (by omega)]; exact mz_at _ _ _ _
    · rw [mz_ne _ _ (by omega), mu_ne _ _ (by omega), mu_ne _ _ (by omega), mu_ne _ _ (by omega), mu_ne _ _ (by omega), mu_ne _ _ (by omega), mz_ne _ _ (by omega), mz_ne _ _ (by omega)]; exact mz_at _ _ _ _
  · rw [mz_ne _ _ (by omega), mu_ne _ _ (by omega), mu_ne _ _ (by omega), mu_ne _ _ (by omega), mu_ne _ _ (by omega), mu_ne _ _ (by omega), mz_ne _ _ (by omega), mz_ne _ _ (by omega), mz_ne _ _ (by omega)]
  · rw [mu_ne _ _ hb, mu_ne _ _ hb, mu_ne _ _ hb, mu_ne _ _ hb]
