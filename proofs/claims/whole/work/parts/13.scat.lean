/-! Scatter: its shape -/
def ScS (S : MS) (R : MR) (a c : Nat) : Prop := S a = (3, 0) ∧ R a 5 = some (a + 1) ∧ R a 6 = some (a + 2) ∧ R a 7 = some (a + 3) ∧ R a 8 = some (a + 4) ∧ S (a + 1) = (7, 48) ∧ S (a + 2) = (7, 6) ∧ S (a + 3) = (7, 6) ∧ S (a + 4) = (7, 6 * c) ∧ 1 ≤ c ∧ c ≤ 256
theorem jc_lt {j n c : Nat} (hj : j < 6) (hn : n < c) : j * c + n < 6 * c := by
  have : (j + 1) * c ≤ 6 * c := Nat.mul_le_mul_right c hj
  rw [Nat.add_mul, Nat.one_mul] at this
  omega
theorem jc_le {j c : Nat} (hj : j < 6) : j * c + c ≤ 6 * c := by
  have : (j + 1) * c ≤ 6 * c := Nat.mul_le_mul_right c hj
  rw [Nat.add_mul, Nat.one_mul] at this
  omega
def s_X2_hasDirection : Sp := fun av z S I J R Post => ∃ (a d : Nat), ∃ (j : Int32), av = [.ref a, .int j] ∧ (S a = (3, 0)) ∧ (I a 3 = nI d) ∧ (d ≤ 6) ∧ ((∀ k, k < d → j = nI k → Post (nI 1) 0 none z S I J R) ∧ (Oo j d → Post (nI 0) 0 none z S I J R))
theorem c_X2_hasDirection {a d : Nat} {j : Int32} {z : Nat} {S : MS} {I : MI} {J : MJ} {R : MR} {Post : PT} (hs : S a = (3, 0)) (hd : I a 3 = nI d) (hd6 : d ≤ 6) (hp : (∀ k, k < d → j = nI k → Post (nI 1) 0 none z S I J R) ∧ (Oo j d → Post (nI 0) 0 none z S I J R)) : s_X2_hasDirection [.ref a, .int j] z S I J R Post := ⟨a, d, j, rfl, hs, hd, hd6, hp⟩
set_option maxRecDepth 100000 in
set_option maxHeartbeats 400000 in
theorem m_X2_hasDirection (T : TC) (B : Nat) : Mt T B yX2_hasDirection cX2_hasDirection 2 (some .boolean) 1 (rmL 1 0 0) s_X2_hasDirection := by
  refine Mt_of rfl (by rintro _ _ _ _ _ _ _ ⟨_, _, _, rfl, -⟩; exact Nat.le_of_ble_eq_true rfl) ?_
  intro X av z S I J R Post h C Q hI
  obtain ⟨a, d, j, rfl, hs, hd, hd6, hp⟩ := h
  rcases Oo_or j d (by omega) with ho | ⟨k, hk, rfl⟩
  · refine v_iload_n C dX2_hasDirection_0 rfl ?_
    refine v_if_lt C 16 dX2_hasDirection_1 (by decide) (fun h1 => ?_) (fun h1 => ?_)
    · refine v_iconstN 0 C dX2_hasDirection_16 ?_
      refine v_zret C Q dX2_hasDirection_17 (Nat.le_of_ble_eq_true rfl) (Nat.le_of_ble_eq_true rfl) (by first | exact nz_0 | exact nz_1) ?_
      first | exact hp.2 ho | exact absurd ho (fun q => q.elim h1 h9)
    · refine v_iload_n C dX2_hasDirection_4 rfl ?_
      refine v_aload_n C dX2_hasDirection_5 rfl ?_
      first | refine gv_2_3 C (by assumption) (by assumption) wt_152 dX2_hasDirection_6 ?_ | refine g_2_3 C (by assumption) wt_152 dX2_hasDirection_6 ?_
      refine v_icmp_ge C 16 dX2_hasDirection_9 (by decide) (fun h9 => ?_) (fun h9 => ?_)
      · refine v_iconstN 0 C dX2_hasDirection_16 ?_
        refine v_zret C Q dX2_hasDirection_17 (Nat.le_of_ble_eq_true rfl) (Nat.le_of_ble_eq_true rfl) (by first | exact nz_0 | exact nz_1) ?_
        first | exact hp.2 ho | exact absurd ho (fun q => q.elim h1 h9)
      · refine v_iconstN 1 C dX2_hasDirection_12 ?_
        refine v_goto C 17 dX2_hasDirection_13 (by decide) ?_
        refine v_zret C Q dX2_hasDirection_17 (Nat.le_of_ble_eq_true rfl) (Nat.le_of_ble_eq_true rfl) (by first | exact nz_0 | exact nz_1) ?_
        first | exact hp.2 ho | exact absurd ho (fun q => q.elim h1 h9)
  · refine v_iload_n C dX2_hasDirection_0 rfl ?_
    first | refine v_if_ltN C 16 dX2_hasDirection_1 (by omega) (by decide) (fun h1 => ?_) (fun h1 => ?_) | refine v_if_lt C 16 dX2_hasDirection_1 (by decide) (fun h1 => ?_) (fun h1 => ?_)
    · exact absurd h1 (fun q => q)
    · refine v_iload_n C dX2_hasDirection_4 rfl ?_
      refine v_aload_n C dX2_hasDirection_5 rfl ?_
      first | refine gv_2_3 C (by assumption) (by assumption) wt_152 dX2_hasDirection_6 ?_ | refine g_2_3 C (by assumption) wt_152 dX2_hasDirection_6 ?_
      first | refine v_icmp_geN C 16 dX2_hasDirection_9 (by omega) (by omega) (by decide) (fun h9 => ?_) (fun h9 => ?_) | refine v_icmp_ge C 16 dX2_hasDirection_9 (by decide) (fun h9 => ?_) (fun h9 => ?_)
      · exact absurd h9 (by omega)
      · refine v_iconstN 1 C dX2_hasDirection_12 ?_
        refine v_goto C 17 dX2_hasDirection_13 (by decide) ?_
        refine v_zret C Q dX2_hasDirection_17 (Nat.le_of_ble_eq_true rfl) (Nat.le_of_ble_eq_true rfl) nz_1 ?_
        exact hp.1 k hk rfl
def s_X2_hasRows : Sp := fun av z S I J R Post => ∃ (a k : Nat), av = [.ref a] ∧ (S a = (3, 0)) ∧ (I a 0 = nI k) ∧ (k < 5) ∧ ((k < 3 → Post (nI 1) 0 none z S I J R) ∧ (3 ≤ k → Post (nI 0) 0 none z S I J R))
theorem c_X2_hasRows {a k : Nat} {z : Nat} {S : MS} {I : MI} {J : MJ} {R : MR} {Post : PT} (hs : S a = (3, 0)) (hk : I a 0 = nI k) (hk5 : k < 5) (hp : (k < 3 → Post (nI 1) 0 none z S I J R) ∧ (3 ≤ k → Post (nI 0) 0 none z S I J R)) : s_X2_hasRows [.ref a] z S I J R Post := ⟨a, k, rfl, hs, hk, hk5, hp⟩
set_option maxRecDepth 100000 in
set_option maxHeartbeats 400000 in
theorem m_X2_hasRows (T : TC) (B : Nat) : Mt T B yX2_hasRows cX2_hasRows 1 (some .boolean) 1 (rmL 1 0 0) s_X2_hasRows := by
  refine Mt_of rfl (by rintro _ _ _ _ _ _ _ ⟨_, _, rfl, -⟩; exact Nat.le_of_ble_eq_true rfl) ?_
  intro X av z S I J R Post h C Q hI
  obtain ⟨a, k, rfl, hs, hk, hk5, hp⟩ := h
  refine v_aload_n C dX2_hasRows_0 rfl ?_
  first | refine gv_2_0 C (by assumption) (by assumption) wt_142 dX2_hasRows_1 ?_ | refine g_2_0 C (by assumption) wt_142 dX2_hasRows_1 ?_
  first | refine v_if_eqN C 23 dX2_hasRows_4 (by omega) (by decide) (fun h4 => ?_) (fun h4 => ?_) | refine v_if_eq C 23 dX2_hasRows_4 (by decide) (fun h4 => ?_) (fun h4 => ?_)
  · refine v_iconstN 1 C dX2_hasRows_23 ?_
    refine v_goto C 28 dX2_hasRows_24 (by decide) ?_
    refine v_zret C Q dX2_hasRows_28 (Nat.le_of_ble_eq_true rfl) (Nat.le_of_ble_eq_true rfl) (by first | exact nz_0 | exact nz_1) ?_
    first | exact hp.1 (by omega) | exact hp.2 (by omega)
  · refine v_aload_n C dX2_hasRows_7 rfl ?_
    first | refine gv_2_0 C (by assumption) (by assumption) wt_142 dX2_hasRows_8 ?_ | refine g_2_0 C (by assumption) wt_142 dX2_hasRows_8 ?_
    refine v_iconstN 1 C dX2_hasRows_11 ?_
    first | refine v_icmp_eqN C 23 dX2_hasRows_12 (by omega) (by omega) (by decide) (fun h12 => ?_) (fun h12 => ?_) | refine v_icmp_eq C 23 dX2_hasRows_12 (by decide) (fun h12 => ?_) (fun h12 => ?_)
    · refine v_iconstN 1 C dX2_hasRows_23 ?_
      refine v_goto C 28 dX2_hasRows_24 (by decide) ?_
      refine v_zret C Q dX2_hasRows_28 (Nat.le_of_ble_eq_true rfl) (Nat.le_of_ble_eq_true rfl) (by first | exact nz_0 | exact nz_1) ?_
      first | exact hp.1 (by omega) | exact hp.2 (by omega)
    · refine v_aload_n C dX2_hasRows_15 rfl ?_
      first | refine gv_2_0 C (by assumption) (by assumption) wt_142 dX2_hasRows_16 ?_ | refine g_2_0 C (by assumption) wt_142 dX2_hasRows_16 ?_
      refine v_iconstN 2 C dX2_hasRows_19 ?_
      first | refine v_icmp_neN C 27 dX2_hasRows_20 (by omega) (by omega) (by decide) (fun h20 => ?_) (fun h20 => ?_) | refine v_icmp_ne C 27 dX2_hasRows_20 (by decide) (fun h20 => ?_) (fun h20 => ?_)
      · refine v_iconstN 0 C dX2_hasRows_27 ?_
        refine v_zret C Q dX2_hasRows_28 (Nat.le_of_ble_eq_true rfl) (Nat.le_of_ble_eq_true rfl) (by first | exact nz_0 | exact nz_1) ?_
        first | exact hp.1 (by omega) | exact hp.2 (by omega)
      · refine v_iconstN 1 C dX2_hasRows_23 ?_
        refine v_goto C 28 dX2_hasRows_24 (by decide) ?_
        refine v_zret C Q dX2_hasRows_28 (Nat.le_of_ble_eq_true rfl) (Nat.le_of_ble_eq_true rfl) (by first | exact nz_0 | exact nz_1) ?_
        first | exact hp.1 (by omega) | exact hp.2 (by omega)
def s_X2_partAt : Sp := fun av z S I J R Post => ∃ (a c n j : Nat), av = [.ref a, .int (nI n), .int (nI j)] ∧ (ScS S R a c) ∧ (I a 2 = nI c) ∧ (n < c) ∧ (j < 6) ∧ (Post (I (a + 4) (j * c + n)) 0 none z S I J R)
theorem c_X2_partAt {a c n j : Nat} {z : Nat} {S : MS} {I : MI} {J : MJ} {R : MR} {Post : PT} (hSc : ScS S R a c) (hc : I a 2 = nI c) (hn : n < c) (hj : j < 6) (hp : Post (I (a + 4) (j * c + n)) 0 none z S I J R) : s_X2_partAt [.ref a, .int (nI n), .int (nI j)] z S I J R Post := ⟨a, c, n, j, rfl, hSc, hc, hn, hj, hp⟩
set_option maxRecDepth 100000 in
set_option maxHeartbeats 400000 in
theorem m_X2_partAt (T : TC) (B : Nat) : Mt T B yX2_partAt cX2_partAt 3 (some .int) 1 (rmL 1 0 0) s_X2_partAt := by
  refine Mt_of rfl (by rintro _ _ _ _ _ _ _ ⟨_, _, _, _, rfl, -⟩; exact Nat.le_of_ble_eq_true rfl) ?_
  intro X av z S I J R Post h C Q hI
  obtain ⟨a, c, n, j, rfl, hSc, hc, hn, hj, hp⟩ := h
  obtain ⟨hs, hr5, hr6, hr7, hr8, hs1, hs2, hs3, hs4, hc1, hc2⟩ := hSc
  have hlt := jc_lt hj hn
  refine v_aload_n C dX2_partAt_0 rfl ?_
  refine g_2_8 C (by assumption) (by assumption) wt_164 dX2_partAt_1 ?_
  refine v_iload_n C dX2_partAt_4 rfl ?_
  refine v_aload_n C dX2_partAt_5 rfl ?_
  first | refine gv_2_2 C (by assumption) (by assumption) wt_148 dX2_partAt_6 ?_ | refine g_2_2 C (by assumption) wt_148 dX2_partAt_6 ?_
  first | refine v_imulN C dX2_partAt_9 ?_ | refine v_imul C dX2_partAt_9 ?_
  refine v_iload_n C dX2_partAt_10 rfl ?_
  first | refine v_iaddN C dX2_partAt_11 ?_ | refine v_iadd C dX2_partAt_11 ?_
  first | refine v_ialdN C (by assumption) hlt (by omega) dX2_partAt_12 ?_ | refine v_iald C (by assumption) (by assumption) dX2_partAt_12 ?_
  refine v_iret C Q dX2_partAt_13 (Nat.le_of_ble_eq_true rfl) (Nat.le_of_ble_eq_true rfl) ?_
  exact hp
def s_X2_rowAt : Sp := fun av z S I J R Post => ∃ (a c j i : Nat), av = [.ref a, .int (nI j), .int (nI i)] ∧ (ScS S R a c) ∧ (j < 6) ∧ (i < 8) ∧ (Post (I (a + 1) (j * 8 + i)) 0 none z S I J R)
theorem c_X2_rowAt {a c j i : Nat} {z : Nat} {S : MS} {I : MI} {J : MJ} {R : MR} {Post : PT} (hSc : ScS S R a c) (hj : j < 6) (hi : i < 8) (hp : Post (I (a + 1) (j * 8 + i)) 0 none z S I J R) : s_X2_rowAt [.ref a, .int (nI j), .int (nI i)] z S I J R Post := ⟨a, c, j, i, rfl, hSc, hj, hi, hp⟩
set_option maxRecDepth 100000 in
set_option maxHeartbeats 400000 in
theorem m_X2_rowAt (T : TC) (B : Nat) : Mt T B yX2_rowAt cX2_rowAt 3 (some .int) 1 (rmL 1 0 0) s_X2_rowAt := by
  refine Mt_of rfl (by rintro _ _ _ _ _ _ _ ⟨_, _, _, _, rfl, -⟩; exact Nat.le_of_ble_eq_true rfl) ?_
  intro X av z S I J R Post h C Q hI
  obtain ⟨a, c, j, i, rfl, hSc, hj, hi, hp⟩ := h
  obtain ⟨hs, hr5, hr6, hr7, hr8, hs1, hs2, hs3, hs4, hc1, hc2⟩ := hSc
  refine v_aload_n C dX2_rowAt_0 rfl ?_
  refine g_2_5 C (by assumption) (by assumption) wt_159 dX2_rowAt_1 ?_
  refine v_iload_n C dX2_rowAt_4 rfl ?_
  refine v_bipushN 8 (by decide) C dX2_rowAt_5 ?_
  first | refine v_imulN C dX2_rowAt_7 ?_ | refine v_imul C dX2_rowAt_7 ?_
  refine v_iload_n C dX2_rowAt_8 rfl ?_
  first | refine v_iaddN C dX2_rowAt_9 ?_ | refine v_iadd C dX2_rowAt_9 ?_
  first | refine v_ialdN C (by assumption) (by omega) (by omega) dX2_rowAt_10 ?_ | refine v_iald C (by assumption) (by assumption) dX2_rowAt_10 ?_
  refine v_iret C Q dX2_rowAt_11 (Nat.le_of_ble_eq_true rfl) (Nat.le_of_ble_eq_true rfl) ?_
  exact hp
def s_X2_setRow : Sp := fun av z S I J R Post => ∃ (a c j i : Nat), ∃ (x : Int32), av = [.ref a, .int (nI j), .int (nI i), .int x] ∧ (ScS S R a c) ∧ (j < 6) ∧ (i < 8) ∧ (Post 0 0 none z S (mu I (a + 1) (j * 8 + i) x) J R)
theorem c_X2_setRow {a c j i : Nat} {x : Int32} {z : Nat} {S : MS} {I : MI} {J : MJ} {R : MR} {Post : PT} (hSc : ScS S R a c) (hj : j < 6) (hi : i < 8) (hp : Post 0 0 none z S (mu I (a + 1) (j * 8 + i) x) J R) : s_X2_setRow [.ref a, .int (nI j), .int (nI i), .int x] z S I J R Post := ⟨a, c, j, i, x, rfl, hSc, hj, hi, hp⟩
set_option maxRecDepth 100000 in
set_option maxHeartbeats 400000 in
theorem m_X2_setRow (T : TC) (B : Nat) : Mt T B yX2_setRow cX2_setRow 4 none 0 (rmL 1 0 0) s_X2_setRow := by
  refine Mt_of rfl (by rintro _ _ _ _ _ _ _ ⟨_, _, _, _, _, rfl, -⟩; exact Nat.le_of_ble_eq_true rfl) ?_
  intro X av z S I J R Post h C Q hI
  obtain ⟨a, c, j, i, x, rfl, hSc, hj, hi, hp⟩ := h
  obtain ⟨hs, hr5, hr6, hr7, hr8, hs1, hs2, hs3, hs4, hc1, hc2⟩ := hSc
  refine v_aload_n C dX2_setRow_0 rfl ?_
  refine g_2_5 C (by assumption) (by assumption) wt_159 dX2_setRow_1 ?_
  refine v_iload_n C dX2_setRow_4 rfl ?_
  refine v_bipushN 8 (by decide) C dX2_setRow_5 ?_
  first | refine v_imulN C dX2_setRow_7 ?_ | refine v_imul C dX2_setRow_7 ?_
  refine v_iload_n C dX2_setRow_8 rfl ?_
  first | refine v_iaddN C dX2_setRow_9 ?_ | refine v_iadd C dX2_setRow_9 ?_
  refine v_iload_n C dX2_setRow_10 rfl ?_
  first | refine v_iastN C (by assumption) (by omega) (by omega) dX2_setRow_11 ?_ | refine v_iast C (by assumption) (by assumption) dX2_setRow_11 ?_
  refine v_ret C Q dX2_setRow_12 (Nat.le_of_ble_eq_true rfl) (Nat.le_of_ble_eq_true rfl) ?_
  exact hp
def s_X2_pointOfTurn : Sp := fun av z S I J R Post => ∃ (a c k t : Nat), av = [.ref a] ∧ (ScS S R a c) ∧ (I a 2 = nI c) ∧ (I a 0 = nI k) ∧ (k < 5) ∧ (I a 4 = nI t) ∧ (t ≤ 1000000) ∧ (Post (nI (if k = 3 then t % c else (t % c) ^^^ (t % c / 2))) 0 none z S I J R)
theorem c_X2_pointOfTurn {a c k t : Nat} {z : Nat} {S : MS} {I : MI} {J : MJ} {R : MR} {Post : PT} (hSc : ScS S R a c) (hc : I a 2 = nI c) (hk : I a 0 = nI k) (hk5 : k < 5) (ht : I a 4 = nI t) (ht1 : t ≤ 1000000) (hp : Post (nI (if k = 3 then t % c else (t % c) ^^^ (t % c / 2))) 0 none z S I J R) : s_X2_pointOfTurn [.ref a] z S I J R Post := ⟨a, c, k, t, rfl, hSc, hc, hk, hk5, ht, ht1, hp⟩
set_option maxRecDepth 100000 in
set_option maxHeartbeats 400000 in
theorem m_X2_pointOfTurn (T : TC) (B : Nat) : Mt T B yX2_pointOfTurn cX2_pointOfTurn 2 (some .int) 1 (rmL 1 0 0) s_X2_pointOfTurn := by
  refine Mt_of rfl (by rintro _ _ _ _ _ _ _ ⟨_, _, _, _, rfl, -⟩; exact Nat.le_of_ble_eq_true rfl) ?_
  intro X av z S I J R Post h C Q hI
  obtain ⟨a, c, k, t, rfl, hSc, hc, hk, hk5, ht, ht1, hp⟩ := h
  obtain ⟨hs, hr5, hr6, hr7, hr8, hs1, hs2, hs3, hs4, hc1, hc2⟩ := hSc
  have hm : t % c < c := Nat.mod_lt t (by omega)
  refine v_aload_n C dX2_pointOfTurn_0 rfl ?_
  first | refine gv_2_4 C (by assumption) (by assumption) wt_157 dX2_pointOfTurn_1 ?_ | refine g_2_4 C (by assumption) wt_157 dX2_pointOfTurn_1 ?_
  refine v_aload_n C dX2_pointOfTurn_4 rfl ?_
  first | refine gv_2_2 C (by assumption) (by assumption) wt_148 dX2_pointOfTurn_5 ?_ | refine g_2_2 C (by assumption) wt_148 dX2_pointOfTurn_5 ?_
  first | refine v_iremN C dX2_pointOfTurn_8 (by omega) (by omega) (by omega) ?_ | refine v_irem C dX2_pointOfTurn_8 (by assumption) ?_
  refine v_istore_n C dX2_pointOfTurn_9 (by decide) ?_
  refine v_aload_n C dX2_pointOfTurn_10 rfl ?_
  first | refine gv_2_0 C (by assumption) (by assumption) wt_142 dX2_pointOfTurn_11 ?_ | refine g_2_0 C (by assumption) wt_142 dX2_pointOfTurn_11 ?_
  refine v_iconstN 3 C dX2_pointOfTurn_14 ?_
  first | refine v_icmp_neN C 22 dX2_pointOfTurn_15 (by omega) (by omega) (by decide) (fun h15 => ?_) (fun h15 => ?_) | refine v_icmp_ne C 22 dX2_pointOfTurn_15 (by decide) (fun h15 => ?_) (fun h15 => ?_)
  · rw [if_neg h15] at hp
    refine v_iload_n C dX2_pointOfTurn_22 rfl ?_
    refine v_iload_n C dX2_pointOfTurn_23 rfl ?_
    refine v_iconstN 1 C dX2_pointOfTurn_24 ?_
    first | refine v_ishrN C dX2_pointOfTurn_25 (by omega) (by omega) ?_ | refine v_ishr C dX2_pointOfTurn_25 ?_
    first | refine v_ixorN C dX2_pointOfTurn_26 ?_ | refine v_ixor C dX2_pointOfTurn_26 ?_
    refine v_iret C Q dX2_pointOfTurn_27 (Nat.le_of_ble_eq_true rfl) (Nat.le_of_ble_eq_true rfl) ?_
    exact hp
  · rw [if_pos h15] at hp
    refine v_iload_n C dX2_pointOfTurn_18 rfl ?_
    refine v_goto C 27 dX2_pointOfTurn_19 (by decide) ?_
    refine v_iret C Q dX2_pointOfTurn_27 (Nat.le_of_ble_eq_true rfl) (Nat.le_of_ble_eq_true rfl) ?_
    exact hp
/-! the ROWS' columns -/
def pm (ro : Nat → Nat) : Nat → Nat → Nat
  | 0, _ => 0
  | p + 1, n => 2 * pm ro p n + pc (ro p &&& n) % 2
def col (ro : Nat → Nat) : Nat → Nat → Nat
  | 0, _ => 0
  | p + 1, k => 2 * col ro p k + ro p / 2 ^ k % 2
theorem pm_lt (ro : Nat → Nat) : ∀ p n, pm ro p n < 2 ^ p
  | 0, _ => Nat.one_pos
  | p + 1, n => by
    have := pm_lt ro p n
    simp only [pm, Nat.pow_succ]
    omega
theorem col_lt (ro : Nat → Nat) : ∀ p k, col ro p k < 2 ^ p
  | 0, _ => Nat.one_pos
  | p + 1, k => by
    have := col_lt ro p k
    simp only [col, Nat.pow_succ]
    omega
theorem add_xor {k n : Nat} (h : n < 2 ^ k) : 2 ^ k + n = n ^^^ 2 ^ k := by
  have h0 := Nat.two_pow_add_eq_or_of_lt h 1
  rw [Nat.mul_one] at h0
  rw [h0]
  apply Nat.eq_of_testBit_eq
  intro i
  rw [Nat.testBit_or, Nat.testBit_xor, Nat.testBit_two_pow]
  by_cases hi : k = i
  · subst hi
    rw [Nat.testBit_lt_two_pow h]
    simp
  · simp [hi]
theorem bit_xor (a b x y : Nat) (hx : x < 2) (hy : y < 2) : (2 * a + x) ^^^ (2 * b + y) = 2 * (a ^^^ b) + (x + y) % 2 := by
  have h1 : ((2 * a + x) ^^^ (2 * b + y)) / 2 = a ^^^ b := by
    rw [Nat.xor_div_two, show (2 * a + x) / 2 = a by omega, show (2 * b + y) / 2 = b by omega]
  have h2 : ((2 * a + x) ^^^ (2 * b + y)) % 2 = (x + y) % 2 := by
    have hx2 := @Nat.xor_mod_two_pow (2 * a + x) (2 * b + y) 1
    rw [Nat.pow_one] at hx2
    rw [hx2, show (2 * a + x) % 2 = x % 2 by omega, show (2 * b + y) % 2 = y % 2 by omega, x1_mod]
  omega
theorem pc_pow : ∀ k, k < 16 → pc (2 ^ k) = 1 := by decide +kernel
theorem and_pow (r k : Nat) : r &&& 2 ^ k = (r.testBit k).toNat * 2 ^ k := by
  apply Nat.eq_of_testBit_eq
  intro i
  rw [Nat.testBit_and, Nat.testBit_two_pow]
  cases hb : r.testBit k with
  | true =>
    simp only [Bool.toNat_true, Nat.one_mul, Nat.testBit_two_pow]
    by_cases hi : k = i
    · subst hi; simp [hb]
    · simp [hi]
  | false =>
    simp only [Bool.toNat_false, Nat.zero_mul, Nat.zero_testBit]
    by_cases hi : k = i
    · subst hi; simp [hb]
    · simp [hi]
theorem pc_bit {r k : Nat} (hk : k < 16) : pc (r &&& 2 ^ k) = r / 2 ^ k % 2 := by
  rw [and_pow, Nat.testBit_eq_decide_div_mod_eq]
  rcases Nat.mod_two_eq_zero_or_one (r / 2 ^ k) with h0 | h0
  · rw [h0]; simp [pc_0]
  · rw [h0]; simp [pc_pow k hk]
theorem pc_col {r k n : Nat} (hk : k < 16) (h : n < 2 ^ k) : pc (r &&& (2 ^ k + n)) % 2 = (pc (r &&& n) % 2 + r / 2 ^ k % 2) % 2 := by
  rw [add_xor h, Nat.and_xor_distrib_left, pc_xor, pc_bit hk]
  omega
theorem pm_col (ro : Nat → Nat) {k n : Nat} (hk : k < 16) (h : n < 2 ^ k) : ∀ p, pm ro p (2 ^ k + n) = pm ro p n ^^^ col ro p k
  | 0 => by simp [pm, col]
  | p + 1 => by
    simp only [pm, col]
    rw [pm_col ro hk h p, pc_col hk h, bit_xor _ _ _ _ (Nat.mod_lt _ (by decide)) (Nat.mod_lt _ (by decide))]
theorem pm_0 (ro : Nat → Nat) : ∀ p, pm ro p 0 = 0
  | 0 => rfl
  | p + 1 => by simp [pm, pm_0 ro p, pc_0]
