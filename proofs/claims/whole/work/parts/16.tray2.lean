/-- the number of the point's box -/
def bx (P m : Nat → Nat) (p : Nat) : Nat → Nat
  | 0 => 0
  | j + 1 => bx P m p j * 2 ^ m j + P j / 2 ^ (p - m j)
theorem bx_lt {P m : Nat → Nat} {p d : Nat} (h : ∀ j, j < d → m j ≤ p ∧ P j < 2 ^ p) : bx P m p d < 2 ^ sumN m d := by
  induction d with
  | zero => simp [bx, sumN]
  | succ d ih =>
    have h1 := ih (fun j hj => h j (by omega))
    obtain ⟨h2, h3⟩ := h d (by omega)
    have h4 : P d / 2 ^ (p - m d) < 2 ^ m d := by
      rw [Nat.div_lt_iff_lt_mul (Nat.two_pow_pos _), ← Nat.pow_add, Nat.add_sub_cancel' h2]
      exact h3
    have h5 : (bx P m p d + 1) * 2 ^ m d ≤ 2 ^ sumN m d * 2 ^ m d := Nat.mul_le_mul_right _ h1
    rw [Nat.add_mul, Nat.one_mul] at h5
    simp only [bx, sumN, Nat.pow_add]
    omega
theorem sumN_mono {m : Nat → Nat} {j d : Nat} (h : j ≤ d) : sumN m j ≤ sumN m d := by
  induction d with
  | zero => obtain rfl : j = 0 := by omega
            exact Nat.le_refl _
  | succ d ih =>
    by_cases e : j = d + 1
    · subst e; exact Nat.le_refl _
    · exact Nat.le_trans (ih (by omega)) (Nat.le_add_right _ _)
def s_X3_boxOf : Sp := fun av z S I J R Post => ∃ (t a c d n p : Nat), ∃ (P m : Nat → Nat), av = [.ref t, .ref a, .int (nI n)] ∧ (TrS S R t) ∧ (ScS S R a c) ∧ (I a 2 = nI c) ∧ (I a 3 = nI d) ∧ (d ≤ 6) ∧ (n < c) ∧ (I a 1 = nI p) ∧ (p ≤ 8) ∧ (∀ j, j < d → I (a + 4) (j * c + n) = nI (P j) ∧ P j < 2 ^ p) ∧ (∀ j, j < d → I (t + 3) j = nI (m j) ∧ m j ≤ p) ∧ (sumN m d ≤ 16) ∧ (Post (nI (bx P m p d)) 0 none z S I J R)
theorem c_X3_boxOf {t a c d n p : Nat} {P m : Nat → Nat} {z : Nat} {S : MS} {I : MI} {J : MJ} {R : MR} {Post : PT} (hT : TrS S R t) (hSc : ScS S R a c) (hcc : I a 2 = nI c) (hd : I a 3 = nI d) (hd6 : d ≤ 6) (hn : n < c) (hpw : I a 1 = nI p) (hp8 : p ≤ 8) (hP : ∀ j, j < d → I (a + 4) (j * c + n) = nI (P j) ∧ P j < 2 ^ p) (hm : ∀ j, j < d → I (t + 3) j = nI (m j) ∧ m j ≤ p) (hsum : sumN m d ≤ 16) (hp : Post (nI (bx P m p d)) 0 none z S I J R) : s_X3_boxOf [.ref t, .ref a, .int (nI n)] z S I J R Post := ⟨t, a, c, d, n, p, P, m, rfl, hT, hSc, hcc, hd, hd6, hn, hpw, hp8, hP, hm, hsum, hp⟩
set_option maxRecDepth 100000 in
set_option maxHeartbeats 400000 in
theorem m_X3_boxOf (T : TC) (B : Nat) : Mt T B yX3_boxOf cX3_boxOf 6 (some .int) 1 (rmL 2 0 0) s_X3_boxOf := by
  refine Mt_of rfl (by rintro _ _ _ _ _ _ _ ⟨_, _, _, _, _, _, _, _, rfl, -⟩; exact Nat.le_of_ble_eq_true rfl) ?_
  intro X av z S I J R Post h C Q hI
  obtain ⟨t, a, c, d, n, p, P, m, rfl, hT, hSc, hcc, hd, hd6, hn, hpw, hp8, hP, hm, hsum, hp⟩ := h
  have hSc0 := hSc
  obtain ⟨hs, hr5, hr6, hr7, hr8, hs1, hs2, hs3, hs4, hc1, hc2⟩ := hSc
  obtain ⟨ht, ht0, ht1, ht2, ht3, ht4, ht5⟩ := hT
  have h28 : 2 ^ p ≤ 2 ^ 8 := Nat.pow_le_pow_right (by decide) hp8
  have loop : ∀ j : Nat, j ≤ d → V X 0 0 z S I J R 5 [some (.ref t), some (.ref a), some (.int (nI n)), some (.int (nI (bx P m p j))), some (.int (nI j)), none] [] := by
    refine lp_up d ?_
    intro j hj ih
    refine v_iload C dX3_boxOf_5 rfl ?_
    refine v_aload_n C dX3_boxOf_7 rfl ?_
    first | refine gv_2_3 C (by assumption) (by assumption) wt_154 dX3_boxOf_8 ?_ | refine g_2_3 C (by assumption) wt_154 dX3_boxOf_8 ?_
    first | refine v_icmp_geN C 55 dX3_boxOf_11 (by omega) (by omega) (by decide) (fun h11 => ?_) (fun h11 => ?_) | refine v_icmp_ge C 55 dX3_boxOf_11 (by decide) (fun h11 => ?_) (fun h11 => ?_)
    · refine v_iload_n C dX3_boxOf_55 rfl ?_
      refine v_iret C Q dX3_boxOf_56 (Nat.le_of_ble_eq_true rfl) (Nat.le_of_ble_eq_true rfl) ?_
      obtain rfl : j = d := by omega
      exact hp
    · obtain ⟨p1, p2⟩ := hP j h11
      obtain ⟨m1, m2⟩ := hm j h11
      have hb : bx P m p j * 2 ^ m j < 4294967296 := by
        have q1 := bx_lt (P := P) (m := m) (p := p) (d := j) (fun i hi => ⟨(hm i (by omega)).2, (hP i (by omega)).2⟩)
        have q2 : sumN m (j + 1) ≤ 16 := Nat.le_trans (sumN_mono h11) hsum
        have q3 : (2 : Nat) ^ sumN m (j + 1) ≤ 2 ^ 16 := Nat.pow_le_pow_right (by decide) q2
        simp only [sumN, Nat.pow_add] at q3
        have q4 : bx P m p j * 2 ^ m j ≤ 2 ^ sumN m j * 2 ^ m j := Nat.mul_le_mul_right _ (Nat.le_of_lt q1)
        omega
      refine v_aload_n C dX3_boxOf_14 rfl ?_
      refine v_iload_n C dX3_boxOf_15 rfl ?_
      refine v_iload C dX3_boxOf_16 rfl ?_
      refine v_callV2_1 C (m_X2_partAt T B) lk_X3_27 ⟨wt_295, wt_296⟩ 2 rfl dX3_boxOf_18 ⟨Nat.le_of_ble_eq_true rfl, Nat.le_of_ble_eq_true rfl⟩ (Nat.le_of_ble_eq_true rfl) ⟨Nat.le_of_ble_eq_true rfl, Nat.le_of_ble_eq_true rfl⟩ (by assumption) (cTo_2 (by assumption)) ?_
      refine c_X2_partAt hSc0 hcc hn (by omega) ?_
      rw [p1]
      refine v_aload_n C dX3_boxOf_21 rfl ?_
      first | refine gv_2_1 C (by assumption) (by assumption) wt_147 dX3_boxOf_22 ?_ | refine g_2_1 C (by assumption) wt_147 dX3_boxOf_22 ?_
      refine v_aload_n C dX3_boxOf_25 rfl ?_
      refine g_3_2 C (by assumption) (by assumption) wt_31 dX3_boxOf_26 ?_
      refine v_iload C dX3_boxOf_29 rfl ?_
      first | refine v_ialdN C (by assumption) (by omega) (by omega) dX3_boxOf_31 ?_ | refine v_iald C (by assumption) (by assumption) dX3_boxOf_31 ?_
      rw [m1]
      first | refine v_isubN C dX3_boxOf_32 (by omega) ?_ | refine v_isub C dX3_boxOf_32 ?_
      first | refine v_ishrN C dX3_boxOf_33 (by omega) (by omega) ?_ | refine v_ishr C dX3_boxOf_33 ?_
      refine v_istore C dX3_boxOf_34 (by decide) ?_
      refine v_iload_n C dX3_boxOf_36 rfl ?_
      refine v_aload_n C dX3_boxOf_37 rfl ?_
      refine g_3_2 C (by assumption) (by assumption) wt_31 dX3_boxOf_38 ?_
      refine v_iload C dX3_boxOf_41 rfl ?_
      first | refine v_ialdN C (by assumption) (by omega) (by omega) dX3_boxOf_43 ?_ | refine v_iald C (by assumption) (by assumption) dX3_boxOf_43 ?_
      rw [m1]
      first | refine v_ishlN C dX3_boxOf_44 (by omega) hb ?_ | refine v_ishl C dX3_boxOf_44 ?_
      refine v_iload C dX3_boxOf_45 rfl ?_
      first | refine v_iaddN C dX3_boxOf_47 ?_ | refine v_iadd C dX3_boxOf_47 ?_
      refine v_istore_n C dX3_boxOf_48 (by decide) ?_
      first | refine v_iincN 1 C dX3_boxOf_49 rfl (by decide) ?_ | refine v_iinc C dX3_boxOf_49 rfl rfl (by decide) ?_
      refine v_goto C 5 dX3_boxOf_52 (by decide) ?_
      exact v_less (ih h11) (by repeat (first | exact trivial | refine And.intro rfl ?_))
  refine v_iconstN 0 C dX3_boxOf_0 ?_
  refine v_istore_n C dX3_boxOf_1 (by decide) ?_
  refine v_iconstN 0 C dX3_boxOf_2 ?_
  refine v_istore C dX3_boxOf_3 (by decide) ?_
  exact loop 0 (Nat.zero_le _)
/-- bits that PARTS and MARKS both have -/
def sgn (P m : Nat → Nat) (d : Nat) : Nat := sumN (fun j => pc (P j &&& m j)) d
theorem pc_le (n : Nat) : pc n ≤ 32 := pop_le 32 n
def pm1 (k : Nat) : Int32 := if k % 2 = 0 then nI 1 else -1
def s_X3_signOf : Sp := fun av z S I J R Post => ∃ (t a c d n : Nat), ∃ (P m : Nat → Nat), av = [.ref t, .ref a, .int (nI n)] ∧ (TrS S R t) ∧ (ScS S R a c) ∧ (I a 2 = nI c) ∧ (I a 3 = nI d) ∧ (d ≤ 6) ∧ (n < c) ∧ (∀ j, j < d → I (a + 4) (j * c + n) = nI (P j) ∧ P j < c) ∧ (∀ j, j < d → I (t + 3) j = nI (m j)) ∧ (Post (pm1 (sgn P m d)) 0 none z S I J R)
theorem c_X3_signOf {t a c d n : Nat} {P m : Nat → Nat} {z : Nat} {S : MS} {I : MI} {J : MJ} {R : MR} {Post : PT} (hT : TrS S R t) (hSc : ScS S R a c) (hcc : I a 2 = nI c) (hd : I a 3 = nI d) (hd6 : d ≤ 6) (hn : n < c) (hP : ∀ j, j < d → I (a + 4) (j * c + n) = nI (P j) ∧ P j < c) (hm : ∀ j, j < d → I (t + 3) j = nI (m j)) (hp : Post (pm1 (sgn P m d)) 0 none z S I J R) : s_X3_signOf [.ref t, .ref a, .int (nI n)] z S I J R Post := ⟨t, a, c, d, n, P, m, rfl, hT, hSc, hcc, hd, hd6, hn, hP, hm, hp⟩
set_option maxRecDepth 100000 in
set_option maxHeartbeats 400000 in
theorem m_X3_signOf (T : TC) (B : Nat) : Mt T B yX3_signOf cX3_signOf 5 (some .int) 1 (rmL 2 0 0) s_X3_signOf := by
  refine Mt_of rfl (by rintro _ _ _ _ _ _ _ ⟨_, _, _, _, _, _, _, rfl, -⟩; exact Nat.le_of_ble_eq_true rfl) ?_
  intro X av z S I J R Post h C Q hI
  obtain ⟨t, a, c, d, n, P, m, rfl, hT, hSc, hcc, hd, hd6, hn, hP, hm, hp⟩ := h
  have hSc0 := hSc
  obtain ⟨hs, hr5, hr6, hr7, hr8, hs1, hs2, hs3, hs4, hc1, hc2⟩ := hSc
  obtain ⟨ht, ht0, ht1, ht2, ht3, ht4, ht5⟩ := hT
  have loop : ∀ j : Nat, j ≤ d → V X 0 0 z S I J R 5 [some (.ref t), some (.ref a), some (.int (nI n)), some (.int (nI (sgn P m j))), some (.int (nI j))] [] := by
    refine lp_up d ?_
    intro j hj ih
    have hle : sgn P m j ≤ j * 32 := sumN_le (fun i _ => pc_le _)
    refine v_iload C dX3_signOf_5 rfl ?_
    refine v_aload_n C dX3_signOf_7 rfl ?_
    first | refine gv_2_3 C (by assumption) (by assumption) wt_154 dX3_signOf_8 ?_ | refine g_2_3 C (by assumption) wt_154 dX3_signOf_8 ?_
    first | refine v_icmp_geN C 41 dX3_signOf_11 (by omega) (by omega) (by decide) (fun h11 => ?_) (fun h11 => ?_) | refine v_icmp_ge C 41 dX3_signOf_11 (by decide) (fun h11 => ?_) (fun h11 => ?_)
    · refine v_iload_n C dX3_signOf_41 rfl ?_
      refine v_iconstN 2 C dX3_signOf_42 ?_
      first | refine v_iremN C dX3_signOf_43 (by omega) (by omega) (by omega) ?_ | refine v_irem C dX3_signOf_43 (by assumption) ?_
      first | refine v_if_neN C 51 dX3_signOf_44 (by omega) (by decide) (fun h44 => ?_) (fun h44 => ?_) | refine v_if_ne C 51 dX3_signOf_44 (by decide) (fun h44 => ?_) (fun h44 => ?_)
      · refine v_iconst (v := -1) C dX3_signOf_51 (by decide) ?_
        refine v_iret C Q dX3_signOf_52 (Nat.le_of_ble_eq_true rfl) (Nat.le_of_ble_eq_true rfl) ?_
        obtain rfl : j = d := by omega
        first | (rw [pm1, if_pos h44] at hp; exact hp) | (rw [pm1, if_neg h44] at hp; exact hp)
      · refine v_iconstN 1 C dX3_signOf_47 ?_
        refine v_goto C 52 dX3_signOf_48 (by decide) ?_
        refine v_iret C Q dX3_signOf_52 (Nat.le_of_ble_eq_true rfl) (Nat.le_of_ble_eq_true rfl) ?_
        obtain rfl : j = d := by omega
        first | (rw [pm1, if_pos h44] at hp; exact hp) | (rw [pm1, if_neg h44] at hp; exact hp)
    · obtain ⟨p1, p2⟩ := hP j h11
      have m1 := hm j h11
      refine v_iload_n C dX3_signOf_14 rfl ?_
      refine v_aload_n C dX3_signOf_15 rfl ?_
      refine v_iload_n C dX3_signOf_16 rfl ?_
      refine v_iload C dX3_signOf_17 rfl ?_
      refine v_callV2_1 C (m_X2_partAt T B) lk_X3_27 ⟨wt_295, wt_296⟩ 2 rfl dX3_signOf_19 ⟨Nat.le_of_ble_eq_true rfl, Nat.le_of_ble_eq_true rfl⟩ (Nat.le_of_ble_eq_true rfl) ⟨Nat.le_of_ble_eq_true rfl, Nat.le_of_ble_eq_true rfl⟩ (by assumption) (cTo_2 (by assumption)) ?_
      refine c_X2_partAt hSc0 hcc hn (by omega) ?_
      rw [p1]
      refine v_aload_n C dX3_signOf_22 rfl ?_
      refine g_3_2 C (by assumption) (by assumption) wt_31 dX3_signOf_23 ?_
      refine v_iload C dX3_signOf_26 rfl ?_
      first | refine v_ialdN C (by assumption) (by omega) (by omega) dX3_signOf_28 ?_ | refine v_iald C (by assumption) (by assumption) dX3_signOf_28 ?_
      rw [m1]
      first | refine v_iandN C dX3_signOf_29 ?_ | refine v_iand C dX3_signOf_29 ?_
      refine v_callS1_1 C (m_J6_bitCount_0f7a4 T B) lk_X3_37 wt_498 dX3_signOf_30 ⟨Nat.le_of_ble_eq_true rfl, Nat.le_of_ble_eq_true rfl⟩ (Nat.le_of_ble_eq_true rfl) ⟨Nat.le_of_ble_eq_true rfl, Nat.le_of_ble_eq_true rfl⟩ ?_
      refine c_J6_bitCount_0f7a4 (Nat.lt_of_le_of_lt Nat.and_le_left (by omega)) ?_
      first | refine v_iaddN C dX3_signOf_33 ?_ | refine v_iadd C dX3_signOf_33 ?_
      refine v_istore_n C dX3_signOf_34 (by decide) ?_
      first | refine v_iincN 1 C dX3_signOf_35 rfl (by decide) ?_ | refine v_iinc C dX3_signOf_35 rfl rfl (by decide) ?_
      refine v_goto C 5 dX3_signOf_38 (by decide) ?_
      exact v_less (ih h11) (by repeat (first | exact trivial | refine And.intro rfl ?_))
  refine v_iconstN 0 C dX3_signOf_0 ?_
  refine v_istore_n C dX3_signOf_1 (by decide) ?_
  refine v_iconstN 0 C dX3_signOf_2 ?_
  refine v_istore C dX3_signOf_3 (by decide) ?_
  exact loop 0 (Nat.zero_le _)
def prodN (f : Nat → Nat) : Nat → Nat
  | 0 => 1
  | n + 1 => prodN f n * f n
theorem prodN_congr {f g : Nat → Nat} {n : Nat} (h : ∀ i, i < n → f i = g i) : prodN f n = prodN g n := by
  induction n with
  | zero => rfl
  | succ n ih => simp [prodN, ih (fun j hj => h j (by omega)), h n (by omega)]
def s_X3_productOfPowers : Sp := fun av z S I J R Post => ∃ (t a c d n : Nat), ∃ (P m : Nat → Nat), av = [.ref t, .ref a, .int (nI n)] ∧ (TrS S R t) ∧ (ScS S R a c) ∧ (I a 2 = nI c) ∧ (I a 3 = nI d) ∧ (d ≤ 6) ∧ (n < c) ∧ (∀ j, j < d → I (a + 4) (j * c + n) = nI (P j) ∧ P j < c) ∧ (∀ j, j < d → I (t + 3) j = nI (m j) ∧ m j < 100) ∧ (Post 0 (lN (prodN (fun j => P j ^ m j) d)) none z S I J R)
theorem c_X3_productOfPowers {t a c d n : Nat} {P m : Nat → Nat} {z : Nat} {S : MS} {I : MI} {J : MJ} {R : MR} {Post : PT} (hT : TrS S R t) (hSc : ScS S R a c) (hcc : I a 2 = nI c) (hd : I a 3 = nI d) (hd6 : d ≤ 6) (hn : n < c) (hP : ∀ j, j < d → I (a + 4) (j * c + n) = nI (P j) ∧ P j < c) (hm : ∀ j, j < d → I (t + 3) j = nI (m j) ∧ m j < 100) (hp : Post 0 (lN (prodN (fun j => P j ^ m j) d)) none z S I J R) : s_X3_productOfPowers [.ref t, .ref a, .int (nI n)] z S I J R Post := ⟨t, a, c, d, n, P, m, rfl, hT, hSc, hcc, hd, hd6, hn, hP, hm, hp⟩
set_option maxRecDepth 100000 in
set_option maxHeartbeats 400000 in
theorem m_X3_productOfPowers (T : TC) (B : Nat) : Mt T B yX3_productOfPowers cX3_productOfPowers 6 (some .long) 2 (rmL 2 0 0) s_X3_productOfPowers := by
  refine Mt_of rfl (by rintro _ _ _ _ _ _ _ ⟨_, _, _, _, _, _, _, rfl, -⟩; exact Nat.le_of_ble_eq_true rfl) ?_
  intro X av z S I J R Post h C Q hI
  obtain ⟨t, a, c, d, n, P, m, rfl, hT, hSc, hcc, hd, hd6, hn, hP, hm, hp⟩ := h
  have hSc0 := hSc
  obtain ⟨hs, hr5, hr6, hr7, hr8, hs1, hs2, hs3, hs4, hc1, hc2⟩ := hSc
  obtain ⟨ht, ht0, ht1, ht2, ht3, ht4, ht5⟩ := hT
  have loop : ∀ j : Nat, j ≤ d → V X 0 0 z S I J R 5 [some (.ref t), some (.ref a), some (.int (nI n)), some (.long (lN (prodN (fun j => P j ^ m j) j))), none, some (.int (nI j))] [] := by
    refine lp_up d ?_
    intro j hj ih
    refine v_iload C dX3_productOfPowers_5 rfl ?_
    refine v_aload_n C dX3_productOfPowers_7 rfl ?_
    first | refine gv_2_3 C (by assumption) (by assumption) wt_154 dX3_productOfPowers_8 ?_ | refine g_2_3 C (by assumption) wt_154 dX3_productOfPowers_8 ?_
    first | refine v_icmp_geN C 41 dX3_productOfPowers_11 (by omega) (by omega) (by decide) (fun h11 => ?_) (fun h11 => ?_) | refine v_icmp_ge C 41 dX3_productOfPowers_11 (by decide) (fun h11 => ?_) (fun h11 => ?_)
    · refine v_lload_n C dX3_productOfPowers_41 rfl ?_
      refine v_lret C Q dX3_productOfPowers_42 (Nat.le_of_ble_eq_true rfl) (Nat.le_of_ble_eq_true rfl) ?_
      obtain rfl : j = d := by omega
      exact hp
    · obtain ⟨p1, p2⟩ := hP j h11
      obtain ⟨m1, m2⟩ := hm j h11
      refine v_lload_n C dX3_productOfPowers_14 rfl ?_
      refine v_aload_n C dX3_productOfPowers_15 rfl ?_
      refine v_iload_n C dX3_productOfPowers_16 rfl ?_
      refine v_iload C dX3_productOfPowers_17 rfl ?_
      refine v_callV2_1 C (m_X2_partAt T B) lk_X3_27 ⟨wt_295, wt_296⟩ 2 rfl dX3_productOfPowers_19 ⟨Nat.le_of_ble_eq_true rfl, Nat.le_of_ble_eq_true rfl⟩ (Nat.le_of_ble_eq_true rfl) ⟨Nat.le_of_ble_eq_true rfl, Nat.le_of_ble_eq_true rfl⟩ (by assumption) (cTo_2 (by assumption)) ?_
      refine c_X2_partAt hSc0 hcc hn (by omega) ?_
      rw [p1]
      first | refine v_i2lN C dX3_productOfPowers_22 (by omega) ?_ | refine v_i2l C dX3_productOfPowers_22 ?_
      refine v_aload_n C dX3_productOfPowers_23 rfl ?_
      refine g_3_2 C (by assumption) (by assumption) wt_31 dX3_productOfPowers_24 ?_
      refine v_iload C dX3_productOfPowers_27 rfl ?_
      first | refine v_ialdN C (by assumption) (by omega) (by omega) dX3_productOfPowers_29 ?_ | refine v_iald C (by assumption) (by assumption) dX3_productOfPowers_29 ?_
      rw [m1]
      refine v_callSN2_2 C (m_X4_powerOf T B) (fun _ h => h.2.2.2.2.2.2.2) lk_X3_43 wt_418 dX3_productOfPowers_30 ⟨Nat.le_of_ble_eq_true rfl, Nat.le_of_ble_eq_true rfl⟩ (Nat.le_of_ble_eq_true rfl) ⟨Nat.le_of_ble_eq_true rfl, Nat.le_of_ble_eq_true rfl⟩ ?_
      refine c_X4_powerOf m2 ?_
      first | refine v_lmulN C dX3_productOfPowers_33 ?_ | refine v_lmul C dX3_productOfPowers_33 ?_
      refine v_lstore_n C dX3_productOfPowers_34 (by decide) ?_
      first | refine v_iincN 1 C dX3_productOfPowers_35 rfl (by decide) ?_ | refine v_iinc C dX3_productOfPowers_35 rfl rfl (by decide) ?_
      refine v_goto C 5 dX3_productOfPowers_38 (by decide) ?_
      exact v_less (ih h11) (by repeat (first | exact trivial | refine And.intro rfl ?_))
  refine v_lconst (v := lN 1) C dX3_productOfPowers_0 rfl ?_
  refine v_lstore_n C dX3_productOfPowers_1 (by decide) ?_
  refine v_iconstN 0 C dX3_productOfPowers_2 ?_
  refine v_istore C dX3_productOfPowers_3 (by decide) ?_
  exact loop 0 (Nat.zero_le _)
