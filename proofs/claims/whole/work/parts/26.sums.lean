def ptS (P : Nat → Nat → Nat) (c d n : Nat) : Nat := prodN (fun j => c * c - P n j * P n j) d
def prS (P : Nat → Nat → Nat) (c d n m : Nat) : Nat := prodN (fun j => c - max (P n j) (P m j)) d
theorem mmaxN {a b : Nat} (ha : a < 2147483648) (hb : b < 2147483648) : (if nI a < nI b then nI b else nI a) = nI (max a b) := by
  by_cases h : a < b
  · rw [if_pos (nI_lt h hb), Nat.max_eq_right (by omega)]
  · rw [if_neg (nI_nlt (by omega) ha), Nat.max_eq_left (by omega)]
def s_X4_pointSum : Sp := fun av z S I J R Post => ∃ (a c d : Nat), ∃ (P : Nat → Nat → Nat), av = [.ref a] ∧ (ScS S R a c) ∧ (I a 2 = nI c) ∧ (I a 3 = nI d) ∧ (d ≤ 6) ∧ (∀ n j, n < c → j < d → I (a + 4) (j * c + n) = nI (P n j) ∧ P n j < c) ∧ (Post 0 (lN (sumN (ptS P c d) c)) none z S I J R)
theorem c_X4_pointSum {a c d : Nat} {P : Nat → Nat → Nat} {z : Nat} {S : MS} {I : MI} {J : MJ} {R : MR} {Post : PT} (hSc : ScS S R a c) (hcc : I a 2 = nI c) (hd : I a 3 = nI d) (hd6 : d ≤ 6) (hP : ∀ n j, n < c → j < d → I (a + 4) (j * c + n) = nI (P n j) ∧ P n j < c) (hp : Post 0 (lN (sumN (ptS P c d) c)) none z S I J R) : s_X4_pointSum [.ref a] z S I J R Post := ⟨a, c, d, P, rfl, hSc, hcc, hd, hd6, hP, hp⟩
set_option maxRecDepth 100000 in
set_option maxHeartbeats 400000 in
theorem m_X4_pointSum (T : TC) (B : Nat) : Mt T B yX4_pointSum cX4_pointSum 11 (some .long) 2 (rmL 2 0 0) s_X4_pointSum := by
  refine Mt_of rfl (by rintro _ _ _ _ _ _ _ ⟨_, _, _, _, rfl, -⟩; exact Nat.le_of_ble_eq_true rfl) ?_
  intro X av z S I J R Post h C Q hI
  obtain ⟨a, c, d, P, rfl, hSc, hcc, hd, hd6, hP, hp⟩ := h
  have hSc0 := hSc
  obtain ⟨hs, hr5, hr6, hr7, hr8, hsa1, hs2, hs3, hs4, hc1, hc2⟩ := hSc
  have inner : ∀ n : Nat, n < c → ∀ j : Nat, j ≤ d →
      V X 0 0 z S I J R 17 [some (.ref a), some (.long (lN (sumN (ptS P c d) (n + 1)))), none, some (.long (lN (c * c))), none, some (.int (nI (n + 1))), none, none, none, none, none] [] →
      V X 0 0 z S I J R 32 [some (.ref a), some (.long (lN (sumN (ptS P c d) n))), none, some (.long (lN (c * c))), none, some (.int (nI n)), some (.long (lN (prodN (fun j => c * c - P n j * P n j) j))), none, some (.int (nI j)), none, none] [] := by
    intro n hn
    refine lp_up d ?_
    intro j hj ih K
    refine v_iload C dX4_pointSum_32 rfl ?_
    refine v_aload_n C dX4_pointSum_34 rfl ?_
    first | refine gv_2_3 C (by assumption) (by assumption) wt_156 dX4_pointSum_35 ?_ | refine g_2_3 C (by assumption) wt_156 dX4_pointSum_35 ?_
    first | refine v_icmp_geN C 70 dX4_pointSum_38 (by omega) (by omega) (by decide) (fun h38 => ?_) (fun h38 => ?_) | refine v_icmp_ge C 70 dX4_pointSum_38 (by decide) (fun h38 => ?_) (fun h38 => ?_)
    · refine v_lload_n C dX4_pointSum_70 rfl ?_
      refine v_lload C dX4_pointSum_71 rfl ?_
      first | refine v_laddN C dX4_pointSum_73 ?_ | refine v_ladd C dX4_pointSum_73 ?_
      refine v_lstore_n C dX4_pointSum_74 (by decide) ?_
      first | refine v_iincN 1 C dX4_pointSum_75 rfl (by decide) ?_ | refine v_iinc C dX4_pointSum_75 rfl rfl (by decide) ?_
      refine v_goto C 17 dX4_pointSum_78 (by decide) ?_
      obtain rfl : j = d := by omega
      exact v_less K (by repeat (first | exact trivial | refine And.intro rfl ?_))
    · obtain ⟨p1, p2⟩ := hP n j hn h38
      have hsq : P n j * P n j ≤ c * c := Nat.mul_le_mul (by omega) (by omega)
      refine v_aload_n C dX4_pointSum_41 rfl ?_
      refine v_iload C dX4_pointSum_42 rfl ?_
      refine v_iload C dX4_pointSum_44 rfl ?_
      refine v_callV2_1 C (m_X2_partAt T B) lk_X4_131 ⟨wt_295, wt_296⟩ 2 rfl dX4_pointSum_46 ⟨Nat.le_of_ble_eq_true rfl, Nat.le_of_ble_eq_true rfl⟩ (Nat.le_of_ble_eq_true rfl) ⟨Nat.le_of_ble_eq_true rfl, Nat.le_of_ble_eq_true rfl⟩ (by assumption) (cTo_2 (by assumption)) ?_
      refine c_X2_partAt hSc0 hcc hn (by omega) ?_
      rw [p1]
      first | refine v_i2lN C dX4_pointSum_49 (by omega) ?_ | refine v_i2l C dX4_pointSum_49 ?_
      refine v_lstore C dX4_pointSum_50 (by decide) ?_
      refine v_lload C dX4_pointSum_52 rfl ?_
      refine v_lload_n C dX4_pointSum_54 rfl ?_
      refine v_lload C dX4_pointSum_55 rfl ?_
      refine v_lload C dX4_pointSum_57 rfl ?_
      first | refine v_lmulN C dX4_pointSum_59 ?_ | refine v_lmul C dX4_pointSum_59 ?_
      refine v_lsub C dX4_pointSum_60 ?_
      rw [lN_sub hsq]
      first | refine v_lmulN C dX4_pointSum_61 ?_ | refine v_lmul C dX4_pointSum_61 ?_
      refine v_lstore C dX4_pointSum_62 (by decide) ?_
      first | refine v_iincN 1 C dX4_pointSum_64 rfl (by decide) ?_ | refine v_iinc C dX4_pointSum_64 rfl rfl (by decide) ?_
      refine v_goto C 32 dX4_pointSum_67 (by decide) ?_
      exact v_less (ih h38 K) (by repeat (first | exact trivial | refine And.intro rfl ?_))
  have loop : ∀ n : Nat, n ≤ c → V X 0 0 z S I J R 17 [some (.ref a), some (.long (lN (sumN (ptS P c d) n))), none, some (.long (lN (c * c))), none, some (.int (nI n)), none, none, none, none, none] [] := by
    refine lp_up c ?_
    intro n hn ih
    refine v_iload C dX4_pointSum_17 rfl ?_
    refine v_aload_n C dX4_pointSum_19 rfl ?_
    first | refine gv_2_2 C (by assumption) (by assumption) wt_150 dX4_pointSum_20 ?_ | refine g_2_2 C (by assumption) wt_150 dX4_pointSum_20 ?_
    first | refine v_icmp_geN C 81 dX4_pointSum_23 (by omega) (by omega) (by decide) (fun h23 => ?_) (fun h23 => ?_) | refine v_icmp_ge C 81 dX4_pointSum_23 (by decide) (fun h23 => ?_) (fun h23 => ?_)
    · refine v_lload_n C dX4_pointSum_81 rfl ?_
      refine v_lret C Q dX4_pointSum_82 (Nat.le_of_ble_eq_true rfl) (Nat.le_of_ble_eq_true rfl) ?_
      obtain rfl : n = c := by omega
      exact hp
    · refine v_lconst (v := lN 1) C dX4_pointSum_26 rfl ?_
      refine v_lstore C dX4_pointSum_27 (by decide) ?_
      refine v_iconstN 0 C dX4_pointSum_29 ?_
      refine v_istore C dX4_pointSum_30 (by decide) ?_
      exact v_less (inner n h23 0 (Nat.zero_le _) (ih h23)) (by repeat (first | exact trivial | refine And.intro rfl ?_))
  refine v_lconst (v := lN 0) C dX4_pointSum_0 rfl ?_
  refine v_lstore_n C dX4_pointSum_1 (by decide) ?_
  refine v_aload_n C dX4_pointSum_2 rfl ?_
  first | refine gv_2_2 C (by assumption) (by assumption) wt_150 dX4_pointSum_3 ?_ | refine g_2_2 C (by assumption) wt_150 dX4_pointSum_3 ?_
  first | refine v_i2lN C dX4_pointSum_6 (by omega) ?_ | refine v_i2l C dX4_pointSum_6 ?_
  refine v_aload_n C dX4_pointSum_7 rfl ?_
  first | refine gv_2_2 C (by assumption) (by assumption) wt_150 dX4_pointSum_8 ?_ | refine g_2_2 C (by assumption) wt_150 dX4_pointSum_8 ?_
  first | refine v_i2lN C dX4_pointSum_11 (by omega) ?_ | refine v_i2l C dX4_pointSum_11 ?_
  first | refine v_lmulN C dX4_pointSum_12 ?_ | refine v_lmul C dX4_pointSum_12 ?_
  refine v_lstore_n C dX4_pointSum_13 (by decide) ?_
  refine v_iconstN 0 C dX4_pointSum_14 ?_
  refine v_istore C dX4_pointSum_15 (by decide) ?_
  exact v_less (loop 0 (Nat.zero_le _)) (by repeat (first | exact trivial | refine And.intro rfl ?_))
def s_X4_pairSum : Sp := fun av z S I J R Post => ∃ (a c d : Nat), ∃ (P : Nat → Nat → Nat), av = [.ref a] ∧ (ScS S R a c) ∧ (I a 2 = nI c) ∧ (I a 3 = nI d) ∧ (d ≤ 6) ∧ (∀ n j, n < c → j < d → I (a + 4) (j * c + n) = nI (P n j) ∧ P n j < c) ∧ (Post 0 (lN (sumN (fun n => sumN (prS P c d n) c) c)) none z S I J R)
theorem c_X4_pairSum {a c d : Nat} {P : Nat → Nat → Nat} {z : Nat} {S : MS} {I : MI} {J : MJ} {R : MR} {Post : PT} (hSc : ScS S R a c) (hcc : I a 2 = nI c) (hd : I a 3 = nI d) (hd6 : d ≤ 6) (hP : ∀ n j, n < c → j < d → I (a + 4) (j * c + n) = nI (P n j) ∧ P n j < c) (hp : Post 0 (lN (sumN (fun n => sumN (prS P c d n) c) c)) none z S I J R) : s_X4_pairSum [.ref a] z S I J R Post := ⟨a, c, d, P, rfl, hSc, hcc, hd, hd6, hP, hp⟩
set_option maxRecDepth 100000 in
set_option maxHeartbeats 400000 in
theorem m_X4_pairSum (T : TC) (B : Nat) : Mt T B yX4_pairSum cX4_pairSum 8 (some .long) 2 (rmL 2 0 0) s_X4_pairSum := by
  refine Mt_of rfl (by rintro _ _ _ _ _ _ _ ⟨_, _, _, _, rfl, -⟩; exact Nat.le_of_ble_eq_true rfl) ?_
  intro X av z S I J R Post h C Q hI
  obtain ⟨a, c, d, P, rfl, hSc, hcc, hd, hd6, hP, hp⟩ := h
  have hSc0 := hSc
  obtain ⟨hs, hr5, hr6, hr7, hr8, hsa1, hs2, hs3, hs4, hc1, hc2⟩ := hSc
  have in2 : ∀ n m : Nat, n < c → m < c → ∀ j : Nat, j ≤ d →
      V X 0 0 z S I J R 15 [some (.ref a), some (.long (lN (sumN (fun n => sumN (prS P c d n) c) n + sumN (prS P c d n) (m + 1)))), none, some (.int (nI n)), some (.int (nI (m + 1))), none, none, none] [] →
      V X 0 0 z S I J R 30 [some (.ref a), some (.long (lN (sumN (fun n => sumN (prS P c d n) c) n + sumN (prS P c d n) m))), none, some (.int (nI n)), some (.int (nI m)), some (.long (lN (prodN (fun j => c - max (P n j) (P m j)) j))), none, some (.int (nI j))] [] := by
    intro n m hn hm
    refine lp_up d ?_
    intro j hj ih K
    refine v_iload C dX4_pairSum_30 rfl ?_
    refine v_aload_n C dX4_pairSum_32 rfl ?_
    first | refine gv_2_3 C (by assumption) (by assumption) wt_156 dX4_pairSum_33 ?_ | refine g_2_3 C (by assumption) wt_156 dX4_pairSum_33 ?_
    first | refine v_icmp_geN C 74 dX4_pairSum_36 (by omega) (by omega) (by decide) (fun h36 => ?_) (fun h36 => ?_) | refine v_icmp_ge C 74 dX4_pairSum_36 (by decide) (fun h36 => ?_) (fun h36 => ?_)
    · refine v_lload_n C dX4_pairSum_74 rfl ?_
      refine v_lload C dX4_pairSum_75 rfl ?_
      first | refine v_laddN C dX4_pairSum_77 ?_ | refine v_ladd C dX4_pairSum_77 ?_
      refine v_lstore_n C dX4_pairSum_78 (by decide) ?_
      first | refine v_iincN 1 C dX4_pairSum_79 rfl (by decide) ?_ | refine v_iinc C dX4_pairSum_79 rfl rfl (by decide) ?_
      refine v_goto C 15 dX4_pairSum_82 (by decide) ?_
      obtain rfl : j = d := by omega
      simp only [sumN] at K
      rw [← Nat.add_assoc] at K
      exact v_less K (by repeat (first | exact trivial | refine And.intro rfl ?_))
    · obtain ⟨p1, p2⟩ := hP n j hn h36
      obtain ⟨q1, q2⟩ := hP m j hm h36
      have hmx : max (P n j) (P m j) ≤ c := Nat.max_le.mpr ⟨by omega, by omega⟩
      refine v_lload C dX4_pairSum_39 rfl ?_
      refine v_aload_n C dX4_pairSum_41 rfl ?_
      first | refine gv_2_2 C (by assumption) (by assumption) wt_150 dX4_pairSum_42 ?_ | refine g_2_2 C (by assumption) wt_150 dX4_pairSum_42 ?_
      refine v_aload_n C dX4_pairSum_45 rfl ?_
      refine v_iload_n C dX4_pairSum_46 rfl ?_
      refine v_iload C dX4_pairSum_47 rfl ?_
      refine v_callV2_1 C (m_X2_partAt T B) lk_X4_131 ⟨wt_295, wt_296⟩ 2 rfl dX4_pairSum_49 ⟨Nat.le_of_ble_eq_true rfl, Nat.le_of_ble_eq_true rfl⟩ (Nat.le_of_ble_eq_true rfl) ⟨Nat.le_of_ble_eq_true rfl, Nat.le_of_ble_eq_true rfl⟩ (by assumption) (cTo_2 (by assumption)) ?_
      refine c_X2_partAt hSc0 hcc hn (by omega) ?_
      rw [p1]
      refine v_aload_n C dX4_pairSum_52 rfl ?_
      refine v_iload C dX4_pairSum_53 rfl ?_
      refine v_iload C dX4_pairSum_55 rfl ?_
      refine v_callV2_1 C (m_X2_partAt T B) lk_X4_131 ⟨wt_295, wt_296⟩ 2 rfl dX4_pairSum_57 ⟨Nat.le_of_ble_eq_true rfl, Nat.le_of_ble_eq_true rfl⟩ (Nat.le_of_ble_eq_true rfl) ⟨Nat.le_of_ble_eq_true rfl, Nat.le_of_ble_eq_true rfl⟩ (by assumption) (cTo_2 (by assumption)) ?_
      refine c_X2_partAt hSc0 hcc hm (by omega) ?_
      rw [q1]
      refine v_mmax C wt_485 wt_140 wt_141 (Nat.le_of_ble_eq_true rfl) (Nat.le_of_ble_eq_true rfl) (Nat.le_of_ble_eq_true rfl) (Nat.le_of_ble_eq_true rfl) dX4_pairSum_60 ?_
      rw [mmaxN (by omega) (by omega)]
      first | refine v_isubN C dX4_pairSum_63 hmx ?_ | refine v_isub C dX4_pairSum_63 ?_
      first | refine v_i2lN C dX4_pairSum_64 (by omega) ?_ | refine v_i2l C dX4_pairSum_64 ?_
      first | refine v_lmulN C dX4_pairSum_65 ?_ | refine v_lmul C dX4_pairSum_65 ?_
      refine v_lstore C dX4_pairSum_66 (by decide) ?_
      first | refine v_iincN 1 C dX4_pairSum_68 rfl (by decide) ?_ | refine v_iinc C dX4_pairSum_68 rfl rfl (by decide) ?_
      refine v_goto C 30 dX4_pairSum_71 (by decide) ?_
      exact v_less (ih h36 K) (by repeat (first | exact trivial | refine And.intro rfl ?_))
  have in1 : ∀ n : Nat, n < c → ∀ m : Nat, m ≤ c →
      V X 0 0 z S I J R 4 [some (.ref a), some (.long (lN (sumN (fun n => sumN (prS P c d n) c) (n + 1)))), none, some (.int (nI (n + 1))), none, none, none, none] [] →
      V X 0 0 z S I J R 15 [some (.ref a), some (.long (lN (sumN (fun n => sumN (prS P c d n) c) n + sumN (prS P c d n) m))), none, some (.int (nI n)), some (.int (nI m)), none, none, none] [] := by
    intro n hn
    refine lp_up c ?_
    intro m hm ih K
    refine v_iload C dX4_pairSum_15 rfl ?_
    refine v_aload_n C dX4_pairSum_17 rfl ?_
    first | refine gv_2_2 C (by assumption) (by assumption) wt_150 dX4_pairSum_18 ?_ | refine g_2_2 C (by assumption) wt_150 dX4_pairSum_18 ?_
    first | refine v_icmp_geN C 85 dX4_pairSum_21 (by omega) (by omega) (by decide) (fun h21 => ?_) (fun h21 => ?_) | refine v_icmp_ge C 85 dX4_pairSum_21 (by decide) (fun h21 => ?_) (fun h21 => ?_)
    · first | refine v_iincN 1 C dX4_pairSum_85 rfl (by decide) ?_ | refine v_iinc C dX4_pairSum_85 rfl rfl (by decide) ?_
      refine v_goto C 4 dX4_pairSum_88 (by decide) ?_
      obtain rfl : m = c := by omega
      exact v_less K (by repeat (first | exact trivial | refine And.intro rfl ?_))
    · refine v_lconst (v := lN 1) C dX4_pairSum_24 rfl ?_
      refine v_lstore C dX4_pairSum_25 (by decide) ?_
      refine v_iconstN 0 C dX4_pairSum_27 ?_
      refine v_istore C dX4_pairSum_28 (by decide) ?_
      exact v_less (in2 n m hn h21 0 (Nat.zero_le _) (ih h21 K)) (by repeat (first | exact trivial | refine And.intro rfl ?_))
  have loop : ∀ n : Nat, n ≤ c → V X 0 0 z S I J R 4 [some (.ref a), some (.long (lN (sumN (fun n => sumN (prS P c d n) c) n))), none, some (.int (nI n)), none, none, none, none] [] := by
    refine lp_up c ?_
    intro n hn ih
    refine v_iload_n C dX4_pairSum_4 rfl ?_
    refine v_aload_n C dX4_pairSum_5 rfl ?_
    first | refine gv_2_2 C (by assumption) (by assumption) wt_150 dX4_pairSum_6 ?_ | refine g_2_2 C (by assumption) wt_150 dX4_pairSum_6 ?_
    first | refine v_icmp_geN C 91 dX4_pairSum_9 (by omega) (by omega) (by decide) (fun h9 => ?_) (fun h9 => ?_) | refine v_icmp_ge C 91 dX4_pairSum_9 (by decide) (fun h9 => ?_) (fun h9 => ?_)
    · refine v_lload_n C dX4_pairSum_91 rfl ?_
      refine v_lret C Q dX4_pairSum_92 (Nat.le_of_ble_eq_true rfl) (Nat.le_of_ble_eq_true rfl) ?_
      obtain rfl : n = c := by omega
      exact hp
    · refine v_iconstN 0 C dX4_pairSum_12 ?_
      refine v_istore C dX4_pairSum_13 (by decide) ?_
      exact v_less (in1 n h9 0 (Nat.zero_le _) (ih h9)) (by repeat (first | exact trivial | refine And.intro rfl ?_))
  refine v_lconst (v := lN 0) C dX4_pairSum_0 rfl ?_
  refine v_lstore_n C dX4_pairSum_1 (by decide) ?_
  refine v_iconstN 0 C dX4_pairSum_2 ?_
  refine v_istore_n C dX4_pairSum_3 (by decide) ?_
  exact v_less (loop 0 (Nat.zero_le _)) (by repeat (first | exact trivial | refine And.intro rfl ?_))
