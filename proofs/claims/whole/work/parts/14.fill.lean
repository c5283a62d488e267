def s_X2_columnAt : Sp := fun av z S I J R Post => ∃ (a c p j k : Nat), ∃ (ro : Nat → Nat), av = [.ref a, .int (nI j), .int (nI k)] ∧ (ScS S R a c) ∧ (I a 1 = nI p) ∧ (p ≤ 8) ∧ (j < 6) ∧ (k < 8) ∧ (∀ i, i < p → I (a + 1) (j * 8 + i) = nI (ro i) ∧ ro i < 256) ∧ (Post (nI (col ro p k)) 0 none z S I J R)
theorem c_X2_columnAt {a c p j k : Nat} {ro : Nat → Nat} {z : Nat} {S : MS} {I : MI} {J : MJ} {R : MR} {Post : PT} (hSc : ScS S R a c) (hpw : I a 1 = nI p) (hp8 : p ≤ 8) (hj : j < 6) (hk : k < 8) (hrw : ∀ i, i < p → I (a + 1) (j * 8 + i) = nI (ro i) ∧ ro i < 256) (hp : Post (nI (col ro p k)) 0 none z S I J R) : s_X2_columnAt [.ref a, .int (nI j), .int (nI k)] z S I J R Post := ⟨a, c, p, j, k, ro, rfl, hSc, hpw, hp8, hj, hk, hrw, hp⟩
set_option maxRecDepth 100000 in
set_option maxHeartbeats 400000 in
theorem m_X2_columnAt (T : TC) (B : Nat) : Mt T B yX2_columnAt cX2_columnAt 5 (some .int) 1 (rmL 2 0 0) s_X2_columnAt := by
  refine Mt_of rfl (by rintro _ _ _ _ _ _ _ ⟨_, _, _, _, _, _, rfl, -⟩; exact Nat.le_of_ble_eq_true rfl) ?_
  intro X av z S I J R Post h C Q hI
  obtain ⟨a, c, p, j, k, ro, rfl, hSc, hpw, hp8, hj, hk, hrw, hp⟩ := h
  have hSc0 := hSc
  obtain ⟨hs, hr5, hr6, hr7, hr8, hs1, hs2, hs3, hs4, hc1, hc2⟩ := hSc
  have loop : ∀ i : Nat, i ≤ p → V X 0 0 z S I J R 5 [some (.ref a), some (.int (nI j)), some (.int (nI k)), some (.int (nI (col ro i k))), some (.int (nI i))] [] := by
    refine lp_up p ?_
    intro i hi ih
    refine v_iload C dX2_columnAt_5 rfl ?_
    refine v_aload_n C dX2_columnAt_7 rfl ?_
    first | refine gv_2_1 C (by assumption) (by assumption) wt_144 dX2_columnAt_8 ?_ | refine g_2_1 C (by assumption) wt_144 dX2_columnAt_8 ?_
    first | refine v_icmp_geN C 36 dX2_columnAt_11 (by omega) (by omega) (by decide) (fun h11 => ?_) (fun h11 => ?_) | refine v_icmp_ge C 36 dX2_columnAt_11 (by decide) (fun h11 => ?_) (fun h11 => ?_)
    · refine v_iload_n C dX2_columnAt_36 rfl ?_
      refine v_iret C Q dX2_columnAt_37 (Nat.le_of_ble_eq_true rfl) (Nat.le_of_ble_eq_true rfl) ?_
      obtain rfl : i = p := by omega
      exact hp
    · obtain ⟨e1, e2⟩ := hrw i h11
      refine v_iconstN 2 C dX2_columnAt_14 ?_
      refine v_iload_n C dX2_columnAt_15 rfl ?_
      first | refine v_imulN C dX2_columnAt_16 ?_ | refine v_imul C dX2_columnAt_16 ?_
      refine v_aload_n C dX2_columnAt_17 rfl ?_
      refine v_iload_n C dX2_columnAt_18 rfl ?_
      refine v_iload C dX2_columnAt_19 rfl ?_
      refine v_callV2_1 C (m_X2_rowAt T B) lk_X2_62 ⟨wt_201, wt_202⟩ 2 rfl dX2_columnAt_21 ⟨Nat.le_of_ble_eq_true rfl, Nat.le_of_ble_eq_true rfl⟩ (Nat.le_of_ble_eq_true rfl) ⟨Nat.le_of_ble_eq_true rfl, Nat.le_of_ble_eq_true rfl⟩ (by assumption) (cTo_2 (by assumption)) ?_
      refine c_X2_rowAt hSc0 hj (by omega) ?_
      rw [e1]
      refine v_iload_n C dX2_columnAt_24 rfl ?_
      first | refine v_ishrN C dX2_columnAt_25 (by omega) (by omega) ?_ | refine v_ishr C dX2_columnAt_25 ?_
      refine v_iconstN 1 C dX2_columnAt_26 ?_
      first | refine v_iandN C dX2_columnAt_27 ?_ | refine v_iand C dX2_columnAt_27 ?_
      rw [show ro i / 2 ^ k &&& 1 = ro i / 2 ^ k % 2 from Nat.and_one_is_mod _]
      first | refine v_iaddN C dX2_columnAt_28 ?_ | refine v_iadd C dX2_columnAt_28 ?_
      refine v_istore_n C dX2_columnAt_29 (by decide) ?_
      first | refine v_iincN 1 C dX2_columnAt_30 rfl (by decide) ?_ | refine v_iinc C dX2_columnAt_30 rfl rfl (by decide) ?_
      refine v_goto C 5 dX2_columnAt_33 (by decide) ?_
      exact v_less (ih h11) (by repeat (first | exact trivial | refine And.intro rfl ?_))
  refine v_iconstN 0 C dX2_columnAt_0 ?_
  refine v_istore_n C dX2_columnAt_1 (by decide) ?_
  refine v_iconstN 0 C dX2_columnAt_2 ?_
  refine v_istore C dX2_columnAt_3 (by decide) ?_
  exact loop 0 (by omega)
/-- memory I' is I but for the places k1 .. k2 - 1 of the row b -/
def Fr (I I' : MI) (b k1 k2 : Nat) : Prop := ∀ q k, ¬ (q = b ∧ k1 ≤ k ∧ k < k2) → I' q k = I q k
theorem Fr.rf {I : MI} {b k1 k2 : Nat} : Fr I I b k1 k2 := fun _ _ _ => rfl
theorem Fr.mu {I I' : MI} {b k1 k2 k : Nat} {x : Int32} (h : Fr I I' b k1 k2) (h1 : k1 ≤ k) (h2 : k < k2) : Fr I (mu I' b k x) b k1 k2 := by
  intro q i hq
  rw [mu_other I' x (fun e => hq ⟨e.1, by omega, by omega⟩)]
  exact h q i hq
theorem Fr.wide {I I' : MI} {b k1 k2 l1 l2 : Nat} (h : Fr I I' b k1 k2) (h1 : l1 ≤ k1) (h2 : k2 ≤ l2) : Fr I I' b l1 l2 := fun q i hq => h q i (fun e => hq ⟨e.1, by omega, by omega⟩)
theorem mu_fill {I : MI} {b s N : Nat} {x : Int32} {P : Nat → Int32} (h : ∀ m, m < N → I b (s + m) = P m) (hx : x = P N) : ∀ m, m < N + 1 → mu I b (s + N) x b (s + m) = P m := by
  intro m hm
  by_cases e : m = N
  · subst e; rw [mu_at, hx]
  · rw [mu_other _ _ (by omega)]; exact h m (by omega)
def s_X2_fillFromRows : Sp := fun av z S I J R Post => ∃ (a c p j mk : Nat), ∃ (ro : Nat → Nat), av = [.ref a, .int (nI j)] ∧ (ScS S R a c) ∧ (I a 1 = nI p) ∧ (I a 2 = nI c) ∧ (p ≤ 8) ∧ (c = 2 ^ p) ∧ (j < 6) ∧ (I (a + 2) j = nI mk) ∧ (∀ i, i < p → I (a + 1) (j * 8 + i) = nI (ro i) ∧ ro i < 256) ∧ (∀ I' : MI, Fr I I' (a + 4) (j * c) (j * c + c) → (∀ n, n < c → I' (a + 4) (j * c + n) = nI (pm ro p n ^^^ mk)) → Post 0 0 none z S I' J R)
theorem c_X2_fillFromRows {a c p j mk : Nat} {ro : Nat → Nat} {z : Nat} {S : MS} {I : MI} {J : MJ} {R : MR} {Post : PT} (hSc : ScS S R a c) (hpw : I a 1 = nI p) (hcc : I a 2 = nI c) (hp8 : p ≤ 8) (hcp : c = 2 ^ p) (hj : j < 6) (hmk : I (a + 2) j = nI mk) (hrw : ∀ i, i < p → I (a + 1) (j * 8 + i) = nI (ro i) ∧ ro i < 256) (hp : ∀ I' : MI, Fr I I' (a + 4) (j * c) (j * c + c) → (∀ n, n < c → I' (a + 4) (j * c + n) = nI (pm ro p n ^^^ mk)) → Post 0 0 none z S I' J R) : s_X2_fillFromRows [.ref a, .int (nI j)] z S I J R Post := ⟨a, c, p, j, mk, ro, rfl, hSc, hpw, hcc, hp8, hcp, hj, hmk, hrw, hp⟩
set_option maxRecDepth 100000 in
set_option maxHeartbeats 400000 in
theorem m_X2_fillFromRows (T : TC) (B : Nat) : Mt T B yX2_fillFromRows cX2_fillFromRows 7 none 0 (rmL 3 0 0) s_X2_fillFromRows := by
  refine Mt_of rfl (by rintro _ _ _ _ _ _ _ ⟨_, _, _, _, _, _, rfl, -⟩; exact Nat.le_of_ble_eq_true rfl) ?_
  intro X av z S I J R Post h C Q hI
  obtain ⟨a, c, p, j, mk, ro, rfl, hSc, hpw, hcc, hp8, hcp, hj, hmk, hrw, hp⟩ := h
  have hSc0 := hSc
  obtain ⟨hs, hr5, hr6, hr7, hr8, hs1, hs2, hs3, hs4, hc1, hc2⟩ := hSc
  have hjc := jc_le (c := c) hj
  have facts : ∀ I' : MI, Fr I I' (a + 4) (j * c) (j * c + c) → I' a 1 = nI p ∧ I' a 2 = nI c ∧ (∀ i, i < p → I' (a + 1) (j * 8 + i) = nI (ro i) ∧ ro i < 256) := fun I' hF => ⟨(hF a 1 (by omega)).trans hpw, (hF a 2 (by omega)).trans hcc, fun i hi => ⟨(hF (a + 1) _ (by omega)).trans (hrw i hi).1, (hrw i hi).2⟩⟩
  have inner : ∀ k : Nat, k < p → ∀ n : Nat, n ≤ 2 ^ k → ∀ I' : MI, Fr I I' (a + 4) (j * c) (j * c + c) → (∀ m, m < 2 ^ k + n → I' (a + 4) (j * c + m) = nI (pm ro p m ^^^ mk)) →
      (∀ I'' : MI, Fr I I'' (a + 4) (j * c) (j * c + c) → (∀ m, m < 2 ^ (k + 1) → I'' (a + 4) (j * c + m) = nI (pm ro p m ^^^ mk)) → V X 0 0 z S I'' J R 21 [some (.ref a), some (.int (nI j)), some (.int (nI (j * c))), some (.int (nI (k + 1))), none, none, none] []) →
      V X 0 0 z S I' J R 45 [some (.ref a), some (.int (nI j)), some (.int (nI (j * c))), some (.int (nI k)), some (.int (nI (col ro p k))), some (.int (nI (2 ^ k))), some (.int (nI n))] [] := by
    intro k hk
    have hkp : 2 ^ (k + 1) ≤ c := by rw [hcp]; exact Nat.pow_le_pow_right (by decide) hk
    rw [Nat.pow_succ] at hkp
    refine lp_up (2 ^ k) ?_
    intro n hn ih I' hF hI K
    obtain ⟨f1, f2, f3⟩ := facts I' hF
    refine v_iload C dX2_fillFromRows_45 rfl ?_
    refine v_iload C dX2_fillFromRows_47 rfl ?_
    first | refine v_icmp_geN C 82 dX2_fillFromRows_49 (by omega) (by omega) (by decide) (fun h49 => ?_) (fun h49 => ?_) | refine v_icmp_ge C 82 dX2_fillFromRows_49 (by decide) (fun h49 => ?_) (fun h49 => ?_)
    · first | refine v_iincN 1 C dX2_fillFromRows_82 rfl (by decide) ?_ | refine v_iinc C dX2_fillFromRows_82 rfl rfl (by decide) ?_
      refine v_goto C 21 dX2_fillFromRows_85 (by decide) ?_
      obtain rfl : n = 2 ^ k := by omega
      exact v_less (K I' hF (by rw [Nat.pow_succ, Nat.mul_two]; exact hI)) (by repeat (first | exact trivial | refine And.intro rfl ?_))
    · refine v_aload_n C dX2_fillFromRows_52 rfl ?_
      refine g_2_8 C (by assumption) (by assumption) wt_164 dX2_fillFromRows_53 ?_
      refine v_iload_n C dX2_fillFromRows_56 rfl ?_
      refine v_iload C dX2_fillFromRows_57 rfl ?_
      first | refine v_iaddN C dX2_fillFromRows_59 ?_ | refine v_iadd C dX2_fillFromRows_59 ?_
      refine v_iload C dX2_fillFromRows_60 rfl ?_
      first | refine v_iaddN C dX2_fillFromRows_62 ?_ | refine v_iadd C dX2_fillFromRows_62 ?_
      refine v_aload_n C dX2_fillFromRows_63 rfl ?_
      refine g_2_8 C (by assumption) (by assumption) wt_164 dX2_fillFromRows_64 ?_
      refine v_iload_n C dX2_fillFromRows_67 rfl ?_
      refine v_iload C dX2_fillFromRows_68 rfl ?_
      first | refine v_iaddN C dX2_fillFromRows_70 ?_ | refine v_iadd C dX2_fillFromRows_70 ?_
      first | refine v_ialdN C (by assumption) (by omega) (by omega) dX2_fillFromRows_71 ?_ | refine v_iald C (by assumption) (by assumption) dX2_fillFromRows_71 ?_
      rw [hI n (by omega)]
      refine v_iload C dX2_fillFromRows_72 rfl ?_
      refine v_ixor C dX2_fillFromRows_74 ?_
      rw [show nI (pm ro p n ^^^ mk) ^^^ nI (col ro p k) = nI (pm ro p (2 ^ k + n) ^^^ mk) by rw [nI_xor, pm_col ro (by omega) h49, Nat.xor_assoc, Nat.xor_comm mk, ← Nat.xor_assoc]]
      rw [show j * c + 2 ^ k + n = j * c + (2 ^ k + n) by omega]
      first | refine v_iastN C (by assumption) (by omega) (by omega) dX2_fillFromRows_75 ?_ | refine v_iast C (by assumption) (by assumption) dX2_fillFromRows_75 ?_
      first | refine v_iincN 1 C dX2_fillFromRows_76 rfl (by decide) ?_ | refine v_iinc C dX2_fillFromRows_76 rfl rfl (by decide) ?_
      refine v_goto C 45 dX2_fillFromRows_79 (by decide) ?_
      exact v_less (ih h49 _ (hF.mu (by omega) (by omega)) (mu_fill (P := fun m => nI (pm ro p m ^^^ mk)) hI rfl) K) (by repeat (first | exact trivial | refine And.intro rfl ?_))
  have outer : ∀ k : Nat, k ≤ p → ∀ I' : MI, Fr I I' (a + 4) (j * c) (j * c + c) → (∀ m, m < 2 ^ k → I' (a + 4) (j * c + m) = nI (pm ro p m ^^^ mk)) → V X 0 0 z S I' J R 21 [some (.ref a), some (.int (nI j)), some (.int (nI (j * c))), some (.int (nI k)), none, none, none] [] := by
    refine lp_up p ?_
    intro k hk ih I' hF hI
    obtain ⟨f1, f2, f3⟩ := facts I' hF
    have hpk : 2 ^ k ≤ 2 ^ 8 := Nat.pow_le_pow_right (by decide) (by omega)
    refine v_iload_n C dX2_fillFromRows_21 rfl ?_
    refine v_aload_n C dX2_fillFromRows_22 rfl ?_
    first | refine gv_2_1 C (by assumption) (by assumption) wt_144 dX2_fillFromRows_23 ?_ | refine g_2_1 C (by assumption) wt_144 dX2_fillFromRows_23 ?_
    first | refine v_icmp_geN C 88 dX2_fillFromRows_26 (by omega) (by omega) (by decide) (fun h26 => ?_) (fun h26 => ?_) | refine v_icmp_ge C 88 dX2_fillFromRows_26 (by decide) (fun h26 => ?_) (fun h26 => ?_)
    · refine v_ret C Q dX2_fillFromRows_88 (Nat.le_of_ble_eq_true rfl) (Nat.le_of_ble_eq_true rfl) ?_
      obtain rfl : k = p := by omega
      exact hp I' hF (fun n hn => hI n (by rw [← hcp]; exact hn))
    · refine v_aload_n C dX2_fillFromRows_29 rfl ?_
      refine v_iload_n C dX2_fillFromRows_30 rfl ?_
      refine v_iload_n C dX2_fillFromRows_31 rfl ?_
      refine v_callV2_1 C (m_X2_columnAt T B) lk_X2_59 ⟨wt_214, ws_4⟩ 2 rfl dX2_fillFromRows_32 ⟨Nat.le_of_ble_eq_true rfl, Nat.le_of_ble_eq_true rfl⟩ (Nat.le_of_ble_eq_true rfl) ⟨Nat.le_of_ble_eq_true rfl, Nat.le_of_ble_eq_true rfl⟩ (by assumption) (cTo_2 (by assumption)) ?_
      refine c_X2_columnAt hSc0 f1 hp8 hj (by omega) f3 ?_
      refine v_istore C dX2_fillFromRows_35 (by decide) ?_
      refine v_iconstN 1 C dX2_fillFromRows_37 ?_
      refine v_iload_n C dX2_fillFromRows_38 rfl ?_
      first | refine v_ishlN C dX2_fillFromRows_39 (by omega) (by omega) ?_ | refine v_ishl C dX2_fillFromRows_39 ?_
      rw [Nat.one_mul]
      refine v_istore C dX2_fillFromRows_40 (by decide) ?_
      refine v_iconstN 0 C dX2_fillFromRows_42 ?_
      refine v_istore C dX2_fillFromRows_43 (by decide) ?_
      exact v_less (inner k h26 0 (Nat.zero_le _) I' hF hI (ih h26)) (by repeat (first | exact trivial | refine And.intro rfl ?_))
  have init : ∀ m, m < 2 ^ 0 → mu I (a + 4) (j * c) (nI mk) (a + 4) (j * c + m) = nI (pm ro p m ^^^ mk) := by
    intro m hm
    obtain rfl : m = 0 := by simpa using hm
    show mu I (a + 4) (j * c) (nI mk) (a + 4) (j * c) = _
    rw [mu_at, pm_0, Nat.zero_xor]
  refine v_iload_n C dX2_fillFromRows_0 rfl ?_
  refine v_aload_n C dX2_fillFromRows_1 rfl ?_
  first | refine gv_2_2 C (by assumption) (by assumption) wt_148 dX2_fillFromRows_2 ?_ | refine g_2_2 C (by assumption) wt_148 dX2_fillFromRows_2 ?_
  first | refine v_imulN C dX2_fillFromRows_5 ?_ | refine v_imul C dX2_fillFromRows_5 ?_
  refine v_istore_n C dX2_fillFromRows_6 (by decide) ?_
  refine v_aload_n C dX2_fillFromRows_7 rfl ?_
  refine g_2_8 C (by assumption) (by assumption) wt_164 dX2_fillFromRows_8 ?_
  refine v_iload_n C dX2_fillFromRows_11 rfl ?_
  refine v_aload_n C dX2_fillFromRows_12 rfl ?_
  refine g_2_6 C (by assumption) (by assumption) wt_160 dX2_fillFromRows_13 ?_
  refine v_iload_n C dX2_fillFromRows_16 rfl ?_
  first | refine v_ialdN C (by assumption) (by omega) (by omega) dX2_fillFromRows_17 ?_ | refine v_iald C (by assumption) (by assumption) dX2_fillFromRows_17 ?_
  rw [hmk]
  first | refine v_iastN C (by assumption) (by omega) (by omega) dX2_fillFromRows_18 ?_ | refine v_iast C (by assumption) (by assumption) dX2_fillFromRows_18 ?_
  refine v_iconstN 0 C dX2_fillFromRows_19 ?_
  refine v_istore_n C dX2_fillFromRows_20 (by decide) ?_
  exact v_less (outer 0 (Nat.zero_le _) _ (Fr.rf.mu (by omega) (by omega)) init) (by repeat (first | exact trivial | refine And.intro rfl ?_))
def s_X2_fillFromStep : Sp := fun av z S I J R Post => ∃ (a c j g : Nat), av = [.ref a, .int (nI j)] ∧ (ScS S R a c) ∧ (I a 2 = nI c) ∧ (j < 6) ∧ (I (a + 3) j = nI g) ∧ (g < c) ∧ (∀ I' : MI, Fr I I' (a + 4) (j * c) (j * c + c) → (∀ n, n < c → I' (a + 4) (j * c + n) = nI (n * g % c)) → Post 0 0 none z S I' J R)
theorem c_X2_fillFromStep {a c j g : Nat} {z : Nat} {S : MS} {I : MI} {J : MJ} {R : MR} {Post : PT} (hSc : ScS S R a c) (hcc : I a 2 = nI c) (hj : j < 6) (hg : I (a + 3) j = nI g) (hgc : g < c) (hp : ∀ I' : MI, Fr I I' (a + 4) (j * c) (j * c + c) → (∀ n, n < c → I' (a + 4) (j * c + n) = nI (n * g % c)) → Post 0 0 none z S I' J R) : s_X2_fillFromStep [.ref a, .int (nI j)] z S I J R Post := ⟨a, c, j, g, rfl, hSc, hcc, hj, hg, hgc, hp⟩
set_option maxRecDepth 100000 in
set_option maxHeartbeats 400000 in
theorem m_X2_fillFromStep (T : TC) (B : Nat) : Mt T B yX2_fillFromStep cX2_fillFromStep 3 none 0 (rmL 1 0 0) s_X2_fillFromStep := by
  refine Mt_of rfl (by rintro _ _ _ _ _ _ _ ⟨_, _, _, _, rfl, -⟩; exact Nat.le_of_ble_eq_true rfl) ?_
  intro X av z S I J R Post h C Q hI
  obtain ⟨a, c, j, g, rfl, hSc, hcc, hj, hg, hgc, hp⟩ := h
  obtain ⟨hs, hr5, hr6, hr7, hr8, hs1, hs2, hs3, hs4, hc1, hc2⟩ := hSc
  have hjc := jc_le (c := c) hj
  have loop : ∀ n : Nat, n ≤ c → ∀ I' : MI, Fr I I' (a + 4) (j * c) (j * c + c) → (∀ m, m < n → I' (a + 4) (j * c + m) = nI (m * g % c)) → V X 0 0 z S I' J R 2 [some (.ref a), some (.int (nI j)), some (.int (nI n))] [] := by
    refine lp_up c ?_
    intro n hn ih I' hF hI
    have f2 : I' a 2 = nI c := (hF a 2 (by omega)).trans hcc
    have f3 : I' (a + 3) j = nI g := (hF (a + 3) j (by omega)).trans hg
    have hng : n * g < 2147483648 := Nat.lt_of_le_of_lt (Nat.mul_le_mul (show n ≤ 256 by omega) (show g ≤ 256 by omega)) (by decide)
    refine v_iload_n C dX2_fillFromStep_2 rfl ?_
    refine v_aload_n C dX2_fillFromStep_3 rfl ?_
    first | refine gv_2_2 C (by assumption) (by assumption) wt_148 dX2_fillFromStep_4 ?_ | refine g_2_2 C (by assumption) wt_148 dX2_fillFromStep_4 ?_
    first | refine v_icmp_geN C 42 dX2_fillFromStep_7 (by omega) (by omega) (by decide) (fun h7 => ?_) (fun h7 => ?_) | refine v_icmp_ge C 42 dX2_fillFromStep_7 (by decide) (fun h7 => ?_) (fun h7 => ?_)
    · refine v_ret C Q dX2_fillFromStep_42 (Nat.le_of_ble_eq_true rfl) (Nat.le_of_ble_eq_true rfl) ?_
      obtain rfl : n = c := by omega
      exact hp I' hF hI
    · refine v_aload_n C dX2_fillFromStep_10 rfl ?_
      refine g_2_8 C (by assumption) (by assumption) wt_164 dX2_fillFromStep_11 ?_
      refine v_iload_n C dX2_fillFromStep_14 rfl ?_
      refine v_aload_n C dX2_fillFromStep_15 rfl ?_
      first | refine gv_2_2 C (by assumption) (by assumption) wt_148 dX2_fillFromStep_16 ?_ | refine g_2_2 C (by assumption) wt_148 dX2_fillFromStep_16 ?_
      first | refine v_imulN C dX2_fillFromStep_19 ?_ | refine v_imul C dX2_fillFromStep_19 ?_
      refine v_iload_n C dX2_fillFromStep_20 rfl ?_
      first | refine v_iaddN C dX2_fillFromStep_21 ?_ | refine v_iadd C dX2_fillFromStep_21 ?_
      refine v_iload_n C dX2_fillFromStep_22 rfl ?_
      refine v_aload_n C dX2_fillFromStep_23 rfl ?_
      refine g_2_7 C (by assumption) (by assumption) wt_162 dX2_fillFromStep_24 ?_
      refine v_iload_n C dX2_fillFromStep_27 rfl ?_
      first | refine v_ialdN C (by assumption) (by omega) (by omega) dX2_fillFromStep_28 ?_ | refine v_iald C (by assumption) (by assumption) dX2_fillFromStep_28 ?_
      rw [f3]
      first | refine v_imulN C dX2_fillFromStep_29 ?_ | refine v_imul C dX2_fillFromStep_29 ?_
      refine v_aload_n C dX2_fillFromStep_30 rfl ?_
      first | refine gv_2_2 C (by assumption) (by assumption) wt_148 dX2_fillFromStep_31 ?_ | refine g_2_2 C (by assumption) wt_148 dX2_fillFromStep_31 ?_
      first | refine v_iremN C dX2_fillFromStep_34 hng (by omega) (by omega) ?_ | refine v_irem C dX2_fillFromStep_34 (by assumption) ?_
      first | refine v_iastN C (by assumption) (by omega) (by omega) dX2_fillFromStep_35 ?_ | refine v_iast C (by assumption) (by assumption) dX2_fillFromStep_35 ?_
      first | refine v_iincN 1 C dX2_fillFromStep_36 rfl (by decide) ?_ | refine v_iinc C dX2_fillFromStep_36 rfl rfl (by decide) ?_
      refine v_goto C 2 dX2_fillFromStep_39 (by decide) ?_
      exact v_less (ih h7 _ (hF.mu (by omega) (by omega)) (mu_fill (P := fun m => nI (m * g % c)) hI rfl)) (by repeat (first | exact trivial | refine And.intro rfl ?_))
  refine v_iconstN 0 C dX2_fillFromStep_0 ?_
  refine v_istore_n C dX2_fillFromStep_1 (by decide) ?_
  exact loop 0 (Nat.zero_le _) I Fr.rf (fun m hm => absurd hm (by omega))
