/-- I' is I outside the cells lo .. hi -/
def FrS (I I' : MI) (lo hi : Nat) : Prop := ∀ q k, ¬ (lo ≤ q ∧ q ≤ hi) → I' q k = I q k
theorem FrS.rf {I : MI} {lo hi : Nat} : FrS I I lo hi := fun _ _ _ => rfl
theorem FrS.mu {I I' : MI} {lo hi b k : Nat} {x : Int32} (h : FrS I I' lo hi) (h1 : lo ≤ b) (h2 : b ≤ hi) : FrS I (mu I' b k x) lo hi := by
  intro q i hq
  rw [mu_ne I' x (by omega)]
  exact h q i hq
theorem FrS.tr {I I' I'' : MI} {lo hi : Nat} (h : FrS I I' lo hi) (h' : FrS I' I'' lo hi) : FrS I I'' lo hi := fun q k hq => (h' q k hq).trans (h q k hq)
theorem FrS.wide {I I' : MI} {lo hi lo' hi' : Nat} (h : FrS I I' lo hi) (h1 : lo' ≤ lo) (h2 : hi ≤ hi') : FrS I I' lo' hi' := fun q k hq => h q k (by omega)
theorem Fr.s {I I' : MI} {b k1 k2 lo hi : Nat} (h : Fr I I' b k1 k2) (h1 : lo ≤ b) (h2 : b ≤ hi) : FrS I I' lo hi := fun q k hq => h q k (by omega)
theorem FrS.mfl {I I' : MI} {lo hi b k1 k2 : Nat} {x : Int32} (h : FrS I I' lo hi) (h1 : lo ≤ b) (h2 : b ≤ hi) : FrS I (mfl I' b k1 k2 x) lo hi := fun q k hq => by
  rw [mfl_ne (by omega)]
  exact h q k hq
def gr (ro : Nat → Nat → Nat) (p : Nat) (cho : Nat → Nat) (ch : Nat) : Nat := p + 1 - wk ro p cho ch 0 (fun _ => 0) 0 (p + 1)
def s_X1_gradeOfChosen : Sp := fun av z S I J R Post => ∃ (r a c p ch : Nat), ∃ (cho : Nat → Nat), ∃ (ro : Nat → Nat → Nat), av = [.ref r, .ref a] ∧ (RaS S R r) ∧ (ScS S R a c) ∧ (r + 2 < a ∨ a + 4 < r) ∧ (I a 1 = nI p) ∧ (p ≤ 8) ∧ (I r 2 = nI ch) ∧ (ch ≤ 6) ∧ (∀ q, q < ch → I (r + 1) q = nI (cho q) ∧ cho q < 6) ∧ (∀ j i, j < 6 → i < p → I (a + 1) (j * 8 + i) = nI (ro j i) ∧ ro j i < 256) ∧ (∀ I' : MI, FrS I I' r (r + 2) → Post (nI (gr ro p cho ch)) 0 none z S I' J R)
theorem c_X1_gradeOfChosen {r a c p ch : Nat} {cho : Nat → Nat} {ro : Nat → Nat → Nat} {z : Nat} {S : MS} {I : MI} {J : MJ} {R : MR} {Post : PT} (hR : RaS S R r) (hSc : ScS S R a c) (hra : r + 2 < a ∨ a + 4 < r) (hpw : I a 1 = nI p) (hp8 : p ≤ 8) (hch : I r 2 = nI ch) (hch6 : ch ≤ 6) (hcho : ∀ q, q < ch → I (r + 1) q = nI (cho q) ∧ cho q < 6) (hro : ∀ j i, j < 6 → i < p → I (a + 1) (j * 8 + i) = nI (ro j i) ∧ ro j i < 256) (hp : ∀ I' : MI, FrS I I' r (r + 2) → Post (nI (gr ro p cho ch)) 0 none z S I' J R) : s_X1_gradeOfChosen [.ref r, .ref a] z S I J R Post := ⟨r, a, c, p, ch, cho, ro, rfl, hR, hSc, hra, hpw, hp8, hch, hch6, hcho, hro, hp⟩
set_option maxRecDepth 100000 in
set_option maxHeartbeats 400000 in
theorem m_X1_gradeOfChosen (T : TC) (B : Nat) : Mt T B yX1_gradeOfChosen cX1_gradeOfChosen 2 (some .int) 1 (rmL 10 0 0) s_X1_gradeOfChosen := by
  refine Mt_of rfl (by rintro _ _ _ _ _ _ _ ⟨_, _, _, _, _, _, _, rfl, -⟩; exact Nat.le_of_ble_eq_true rfl) ?_
  intro X av z S I J R Post h C Q hI
  obtain ⟨r, a, c, p, ch, cho, ro, rfl, hR, hSc, hra, hpw, hp8, hch, hch6, hcho, hro, hp⟩ := h
  have hR0 := hR
  have hSc0 := hSc
  obtain ⟨hs, hr0, hr1, hs1, hs2⟩ := hR
  obtain ⟨hsa, hr5, hr6, hr7, hr8, hsa1, hsa2, hsa3, hsa4, hc1, hc2⟩ := hSc
  obtain ⟨g1, g2⟩ := wk_in (ro := ro) (p := p) (cho := cho) ch 0 (fun _ => 0) 0 (p + 1) (by omega)
  refine v_aload_n C dX1_gradeOfChosen_0 rfl ?_
  refine v_iconstN 0 C dX1_gradeOfChosen_1 ?_
  refine p_1_3 C (by assumption) wt_50 dX1_gradeOfChosen_2 ?_
  refine v_aload_n C dX1_gradeOfChosen_5 rfl ?_
  refine v_aload_n C dX1_gradeOfChosen_6 rfl ?_
  first | refine gv_2_1 C (by assumption) ((congrFun (mu_ne _ _ (by omega)) 1).trans hpw) wt_146 dX1_gradeOfChosen_7 ?_ | refine g_2_1 C (by assumption) wt_146 dX1_gradeOfChosen_7 ?_
  refine v_iconstN 1 C dX1_gradeOfChosen_10 ?_
  first | refine v_iaddN C dX1_gradeOfChosen_11 ?_ | refine v_iadd C dX1_gradeOfChosen_11 ?_
  refine p_1_4 C (by assumption) wt_51 dX1_gradeOfChosen_12 ?_
  refine v_aload_n C dX1_gradeOfChosen_15 rfl ?_
  refine v_aload_n C dX1_gradeOfChosen_16 rfl ?_
  refine v_iconstN 0 C dX1_gradeOfChosen_17 ?_
  refine v_callV2_0 C (m_X1_walk T B ch) lk_X1_40 ⟨wt_384, ws_8⟩ 1 rfl dX1_gradeOfChosen_18 ⟨(by show ch + 3 + 1 ≤ 10; omega), (by show 8 + (5 + 11) + 64 * (ch + 3) ≤ 64 * 10; omega)⟩ (Nat.le_of_ble_eq_true rfl) ⟨Nat.le_of_ble_eq_true rfl, Nat.le_of_ble_eq_true rfl⟩ (by assumption) (cTo_1 (by assumption)) ?_
  refine ⟨r, a, c, p, 0, p + 1, 0, ch, cho, ro, fun _ => 0, rfl, hR0, hSc0, by omega, by omega, ?_, hp8, ?_, hch6, by omega, fun q hq => ⟨?_, (hcho q hq).2⟩, fun j i hj hi => ⟨?_, (hro j i hj hi).2⟩, ?_, fun i hi => absurd hi (by omega), mu_at _ _ _ _, by omega, by omega, fun I2 hF2 h42 => ?_⟩
  · rw [mu_ne _ _ (by omega), mu_ne _ _ (by omega)]; exact hpw
  · rw [mu_other _ _ (by omega), mu_other _ _ (by omega)]; exact hch
  · rw [mu_ne _ _ (by omega), mu_ne _ _ (by omega)]; exact (hcho q hq).1
  · rw [mu_ne _ _ (by omega), mu_ne _ _ (by omega)]; exact (hro j i hj hi).1
  · rw [mu_other _ _ (by omega), mu_at]
  have hF : FrS I I2 r (r + 2) := fun q k hq => (hF2 q k (by omega) (by omega)).trans (by rw [mu_ne _ _ (by omega), mu_ne _ _ (by omega)])
  have w1 : I2 a 1 = nI p := (hF a 1 (by omega)).trans hpw
  refine v_aload_n C dX1_gradeOfChosen_21 rfl ?_
  first | refine gv_2_1 C (by assumption) (by assumption) wt_146 dX1_gradeOfChosen_22 ?_ | refine g_2_1 C (by assumption) wt_146 dX1_gradeOfChosen_22 ?_
  refine v_iconstN 1 C dX1_gradeOfChosen_25 ?_
  first | refine v_iaddN C dX1_gradeOfChosen_26 ?_ | refine v_iadd C dX1_gradeOfChosen_26 ?_
  refine v_aload_n C dX1_gradeOfChosen_27 rfl ?_
  first | refine gv_1_4 C (by assumption) (by assumption) wt_51 dX1_gradeOfChosen_28 ?_ | refine g_1_4 C (by assumption) wt_51 dX1_gradeOfChosen_28 ?_
  first | refine v_isubN C dX1_gradeOfChosen_31 (by omega) ?_ | refine v_isub C dX1_gradeOfChosen_31 ?_
  refine v_iret C Q dX1_gradeOfChosen_32 (Nat.le_of_ble_eq_true rfl) (Nat.le_of_ble_eq_true rfl) ?_
  exact hp I2 hF
def s_X1_gradeOfAll : Sp := fun av z S I J R Post => ∃ (r a c p d : Nat), ∃ (ro : Nat → Nat → Nat), av = [.ref r, .ref a] ∧ (RaS S R r) ∧ (ScS S R a c) ∧ (r + 2 < a ∨ a + 4 < r) ∧ (I a 1 = nI p) ∧ (p ≤ 8) ∧ (I a 3 = nI d) ∧ (d ≤ 6) ∧ (∀ j i, j < 6 → i < p → I (a + 1) (j * 8 + i) = nI (ro j i) ∧ ro j i < 256) ∧ (∀ I' : MI, FrS I I' r (r + 2) → Post (nI (gr ro p (fun q => q) d)) 0 none z S I' J R)
theorem c_X1_gradeOfAll {r a c p d : Nat} {ro : Nat → Nat → Nat} {z : Nat} {S : MS} {I : MI} {J : MJ} {R : MR} {Post : PT} (hR : RaS S R r) (hSc : ScS S R a c) (hra : r + 2 < a ∨ a + 4 < r) (hpw : I a 1 = nI p) (hp8 : p ≤ 8) (hd : I a 3 = nI d) (hd6 : d ≤ 6) (hro : ∀ j i, j < 6 → i < p → I (a + 1) (j * 8 + i) = nI (ro j i) ∧ ro j i < 256) (hp : ∀ I' : MI, FrS I I' r (r + 2) → Post (nI (gr ro p (fun q => q) d)) 0 none z S I' J R) : s_X1_gradeOfAll [.ref r, .ref a] z S I J R Post := ⟨r, a, c, p, d, ro, rfl, hR, hSc, hra, hpw, hp8, hd, hd6, hro, hp⟩
set_option maxRecDepth 100000 in
set_option maxHeartbeats 400000 in
theorem m_X1_gradeOfAll (T : TC) (B : Nat) : Mt T B yX1_gradeOfAll cX1_gradeOfAll 3 (some .int) 1 (rmL 11 0 0) s_X1_gradeOfAll := by
  refine Mt_of rfl (by rintro _ _ _ _ _ _ _ ⟨_, _, _, _, _, _, rfl, -⟩; exact Nat.le_of_ble_eq_true rfl) ?_
  intro X av z S I J R Post h C Q hI
  obtain ⟨r, a, c, p, d, ro, rfl, hR, hSc, hra, hpw, hp8, hd, hd6, hro, hp⟩ := h
  have hR0 := hR
  have hSc0 := hSc
  obtain ⟨hs, hr0, hr1, hs1, hs2⟩ := hR
  obtain ⟨hsa, hr5, hr6, hr7, hr8, hsa1, hsa2, hsa3, hsa4, hc1, hc2⟩ := hSc
  have loop : ∀ i : Nat, i ≤ d → ∀ I' : MI, FrS I I' r (r + 2) → I' r 2 = nI d → (∀ q, q < i → I' (r + 1) q = nI q) → V X 0 0 z S I' J R 10 [some (.ref r), some (.ref a), some (.int (nI i))] [] := by
    refine lp_up d ?_
    intro i hi ih I' hF h2 hq
    refine v_iload_n C dX1_gradeOfAll_10 rfl ?_
    refine v_aload_n C dX1_gradeOfAll_11 rfl ?_
    first | refine gv_1_2 C (by assumption) (by assumption) wt_49 dX1_gradeOfAll_12 ?_ | refine g_1_2 C (by assumption) wt_49 dX1_gradeOfAll_12 ?_
    first | refine v_icmp_geN C 31 dX1_gradeOfAll_15 (by omega) (by omega) (by decide) (fun h15 => ?_) (fun h15 => ?_) | refine v_icmp_ge C 31 dX1_gradeOfAll_15 (by decide) (fun h15 => ?_) (fun h15 => ?_)
    · refine v_aload_n C dX1_gradeOfAll_31 rfl ?_
      refine v_aload_n C dX1_gradeOfAll_32 rfl ?_
      refine v_callV1_1 C (m_X1_gradeOfChosen T B) lk_X1_27 ⟨wt_380, ws_7⟩ 1 rfl dX1_gradeOfAll_33 ⟨Nat.le_of_ble_eq_true rfl, Nat.le_of_ble_eq_true rfl⟩ (Nat.le_of_ble_eq_true rfl) ⟨Nat.le_of_ble_eq_true rfl, Nat.le_of_ble_eq_true rfl⟩ (by assumption) (cTo_1 (by assumption)) ?_
      refine c_X1_gradeOfChosen hR0 hSc0 hra ((hF a 1 (by omega)).trans hpw) hp8 h2 hd6 (fun q hq' => ⟨hq q (by omega), by omega⟩) (fun j k hj hk => ⟨(hF (a + 1) _ (by omega)).trans (hro j k hj hk).1, (hro j k hj hk).2⟩) (fun I2 hF2 => ?_)
      refine v_iret C Q dX1_gradeOfAll_36 (Nat.le_of_ble_eq_true rfl) (Nat.le_of_ble_eq_true rfl) ?_
      exact hp I2 (hF.tr hF2)
    · refine v_aload_n C dX1_gradeOfAll_18 rfl ?_
      refine g_1_0 C (by assumption) (by assumption) wt_47 dX1_gradeOfAll_19 ?_
      refine v_iload_n C dX1_gradeOfAll_22 rfl ?_
      refine v_iload_n C dX1_gradeOfAll_23 rfl ?_
      first | refine v_iastN C (by assumption) (by omega) (by omega) dX1_gradeOfAll_24 ?_ | refine v_iast C (by assumption) (by assumption) dX1_gradeOfAll_24 ?_
      first | refine v_iincN 1 C dX1_gradeOfAll_25 rfl (by decide) ?_ | refine v_iinc C dX1_gradeOfAll_25 rfl rfl (by decide) ?_
      refine v_goto C 10 dX1_gradeOfAll_28 (by decide) ?_
      exact v_less (ih h15 _ (hF.mu (by omega) (by omega)) (by rw [mu_ne _ _ (by omega)]; exact h2) (fun q hq' => by
        by_cases e : q = i
        · subst e; rw [mu_at]
        · rw [mu_other _ _ (by omega)]; exact hq q (by omega))) (by repeat (first | exact trivial | refine And.intro rfl ?_))
  refine v_aload_n C dX1_gradeOfAll_0 rfl ?_
  refine v_aload_n C dX1_gradeOfAll_1 rfl ?_
  first | refine gv_2_3 C (by assumption) (by assumption) wt_153 dX1_gradeOfAll_2 ?_ | refine g_2_3 C (by assumption) wt_153 dX1_gradeOfAll_2 ?_
  refine p_1_2 C (by assumption) wt_49 dX1_gradeOfAll_5 ?_
  refine v_iconstN 0 C dX1_gradeOfAll_8 ?_
  refine v_istore_n C dX1_gradeOfAll_9 (by decide) ?_
  exact v_less (loop 0 (Nat.zero_le _) _ (FrS.rf.mu (by omega) (by omega)) (mu_at _ _ _ _) (fun q hq => absurd hq (by omega))) (by repeat (first | exact trivial | refine And.intro rfl ?_))
def s_X1_gradeOfTwo : Sp := fun av z S I J R Post => ∃ (r a c p j k : Nat), ∃ (ro : Nat → Nat → Nat), av = [.ref r, .ref a, .int (nI j), .int (nI k)] ∧ (RaS S R r) ∧ (ScS S R a c) ∧ (r + 2 < a ∨ a + 4 < r) ∧ (I a 1 = nI p) ∧ (p ≤ 8) ∧ (j < 6) ∧ (k < 6) ∧ (∀ j i, j < 6 → i < p → I (a + 1) (j * 8 + i) = nI (ro j i) ∧ ro j i < 256) ∧ (∀ I' : MI, FrS I I' r (r + 2) → Post (nI (gr ro p (fun q => if q = 0 then j else k) 2)) 0 none z S I' J R)
theorem c_X1_gradeOfTwo {r a c p j k : Nat} {ro : Nat → Nat → Nat} {z : Nat} {S : MS} {I : MI} {J : MJ} {R : MR} {Post : PT} (hR : RaS S R r) (hSc : ScS S R a c) (hra : r + 2 < a ∨ a + 4 < r) (hpw : I a 1 = nI p) (hp8 : p ≤ 8) (hj : j < 6) (hk : k < 6) (hro : ∀ j i, j < 6 → i < p → I (a + 1) (j * 8 + i) = nI (ro j i) ∧ ro j i < 256) (hp : ∀ I' : MI, FrS I I' r (r + 2) → Post (nI (gr ro p (fun q => if q = 0 then j else k) 2)) 0 none z S I' J R) : s_X1_gradeOfTwo [.ref r, .ref a, .int (nI j), .int (nI k)] z S I J R Post := ⟨r, a, c, p, j, k, ro, rfl, hR, hSc, hra, hpw, hp8, hj, hk, hro, hp⟩
set_option maxRecDepth 100000 in
set_option maxHeartbeats 400000 in
theorem m_X1_gradeOfTwo (T : TC) (B : Nat) : Mt T B yX1_gradeOfTwo cX1_gradeOfTwo 4 (some .int) 1 (rmL 11 0 0) s_X1_gradeOfTwo := by
  refine Mt_of rfl (by rintro _ _ _ _ _ _ _ ⟨_, _, _, _, _, _, _, rfl, -⟩; exact Nat.le_of_ble_eq_true rfl) ?_
  intro X av z S I J R Post h C Q hI
  obtain ⟨r, a, c, p, j, k, ro, rfl, hR, hSc, hra, hpw, hp8, hj, hk, hro, hp⟩ := h
  have hR0 := hR
  have hSc0 := hSc
  obtain ⟨hs, hr0, hr1, hs1, hs2⟩ := hR
  obtain ⟨hsa, hr5, hr6, hr7, hr8, hsa1, hsa2, hsa3, hsa4, hc1, hc2⟩ := hSc
  have key : ∀ I' : MI, FrS I I' r (r + 2) → I' r 2 = nI 2 → I' (r + 1) 0 = nI j → I' (r + 1) 1 = nI k → V X 0 0 z S I' J R 19 [some (.ref r), some (.ref a), none, none] [] := by
    intro I' hF h2 h3 h4
    refine v_aload_n C dX1_gradeOfTwo_19 rfl ?_
    refine v_aload_n C dX1_gradeOfTwo_20 rfl ?_
    refine v_callV1_1 C (m_X1_gradeOfChosen T B) lk_X1_27 ⟨wt_380, ws_7⟩ 1 rfl dX1_gradeOfTwo_21 ⟨Nat.le_of_ble_eq_true rfl, Nat.le_of_ble_eq_true rfl⟩ (Nat.le_of_ble_eq_true rfl) ⟨Nat.le_of_ble_eq_true rfl, Nat.le_of_ble_eq_true rfl⟩ (by assumption) (cTo_1 (by assumption)) ?_
    refine c_X1_gradeOfChosen (cho := fun q => if q = 0 then j else k) hR0 hSc0 hra ((hF a 1 (by omega)).trans hpw) hp8 h2 (by omega) (fun q hq => by
      rcases (show q = 0 ∨ q = 1 by omega) with rfl | rfl
      · exact ⟨h3, hj⟩
      · exact ⟨h4, hk⟩) (fun j i hj hi => ⟨(hF (a + 1) _ (by omega)).trans (hro j i hj hi).1, (hro j i hj hi).2⟩) (fun I2 hF2 => ?_)
    refine v_iret C Q dX1_gradeOfTwo_24 (Nat.le_of_ble_eq_true rfl) (Nat.le_of_ble_eq_true rfl) ?_
    exact hp I2 (hF.tr hF2)
  refine v_aload_n C dX1_gradeOfTwo_0 rfl ?_
  refine v_iconstN 2 C dX1_gradeOfTwo_1 ?_
  refine p_1_2 C (by assumption) wt_49 dX1_gradeOfTwo_2 ?_
  refine v_aload_n C dX1_gradeOfTwo_5 rfl ?_
  refine g_1_0 C (by assumption) (by assumption) wt_47 dX1_gradeOfTwo_6 ?_
  refine v_iconstN 0 C dX1_gradeOfTwo_9 ?_
  refine v_iload_n C dX1_gradeOfTwo_10 rfl ?_
  first | refine v_iastN C (by assumption) (by omega) (by omega) dX1_gradeOfTwo_11 ?_ | refine v_iast C (by assumption) (by assumption) dX1_gradeOfTwo_11 ?_
  refine v_aload_n C dX1_gradeOfTwo_12 rfl ?_
  refine g_1_0 C (by assumption) (by assumption) wt_47 dX1_gradeOfTwo_13 ?_
  refine v_iconstN 1 C dX1_gradeOfTwo_16 ?_
  refine v_iload_n C dX1_gradeOfTwo_17 rfl ?_
  first | refine v_iastN C (by assumption) (by omega) (by omega) dX1_gradeOfTwo_18 ?_ | refine v_iast C (by assumption) (by assumption) dX1_gradeOfTwo_18 ?_
  exact v_less (key _ (((FrS.rf.mu (by omega) (by omega)).mu (by omega) (by omega)).mu (by omega) (by omega)) (by rw [mu_ne _ _ (by omega), mu_ne _ _ (by omega), mu_at]) (by rw [mu_other _ _ (by omega), mu_at]) (mu_at _ _ _ _)) (by repeat (first | exact trivial | refine And.intro rfl ?_))
