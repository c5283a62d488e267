theorem ab_abs {x : Int64} (h : x.toInt.natAbs < 9223372036854775808) : (if 0 < x then x else -x) = lN x.toInt.natAbs := by
  apply Int64.toInt_inj.mp
  rw [pk_lT h]
  by_cases h0 : 0 < x
  · rw [if_pos h0]
    have : (0 : Int) < x.toInt := by simpa using Int64.lt_iff_toInt_lt.mp h0
    omega
  · rw [if_neg h0]
    have h1 : ¬ (0 : Int) < x.toInt := fun q => h0 (Int64.lt_iff_toInt_lt.mpr (by simpa using q))
    rw [Int64.toInt_neg]
    rw [Int.bmod_eq_of_le (by omega) (by omega)]
    omega
theorem ab_neg {x : Int64} (h : x.toInt.natAbs < 9223372036854775808) (h0 : ¬ lN 0 ≤ x) : -x = lN x.toInt.natAbs := by
  have h1 : ¬ (0 : Int) ≤ x.toInt := fun q => h0 (Int64.le_iff_toInt_le.mpr (by rw [pk_lT (by decide)]; exact q))
  apply Int64.toInt_inj.mp
  rw [pk_lT h, Int64.toInt_neg, Int.bmod_eq_of_le (by omega) (by omega)]
  omega
theorem ab_pos {x : Int64} (h : x.toInt.natAbs < 9223372036854775808) (h0 : lN 0 ≤ x) : x = lN x.toInt.natAbs := by
  have h1 : (0 : Int) ≤ x.toInt := by have := Int64.le_iff_toInt_le.mp h0; rwa [pk_lT (by decide)] at this
  apply Int64.toInt_inj.mp
  rw [pk_lT h]
  omega
theorem lN_ne0 {g : Nat} (h0 : 0 < g) (hg : g < 9223372036854775808) : ¬ lN g = 0 := fun q => by
  have := (pk_lEQ (a := g) (b := 0) hg (by decide)).mp q
  omega
theorem l_div1 (x : Int64) : x / lN 1 = x := by
  apply Int64.toInt_inj.mp
  show (x / 1).toInt = _
  simp
/-- what fraction and ratio tell -/
def frc (x : Int64) (b : Nat) (den : Bool) : Int64 := (if den = true then lN b else x) / lN (Nat.gcd x.toInt.natAbs b)
def s_X5_common : Sp := fun av z S I J R Post => ∃ (x : Int64), ∃ (b : Nat), av = [.long x, .long (lN b)] ∧ (x.toInt.natAbs < 9223372036854775808) ∧ (b < 9223372036854775808) ∧ (Post 0 (lN (Nat.gcd x.toInt.natAbs b)) none z S I J R)
theorem c_X5_common {x : Int64} {b : Nat} {z : Nat} {S : MS} {I : MI} {J : MJ} {R : MR} {Post : PT} (hx : x.toInt.natAbs < 9223372036854775808) (hb : b < 9223372036854775808) (hp : Post 0 (lN (Nat.gcd x.toInt.natAbs b)) none z S I J R) : s_X5_common [.long x, .long (lN b)] z S I J R Post := ⟨x, b, rfl, hx, hb, hp⟩
set_option maxRecDepth 100000 in
set_option maxHeartbeats 400000 in
theorem m_X5_common (T : TC) (B : Nat) : Mt T B yX5_common cX5_common 10 (some .long) 2 (rmL 1 0 0) s_X5_common := by
  refine Mt_of rfl (by rintro _ _ _ _ _ _ _ ⟨_, _, rfl, -⟩; exact Nat.le_of_ble_eq_true rfl) ?_
  intro X av z S I J R Post h C Q hI
  obtain ⟨x, b, rfl, hx, hb, hp⟩ := h
  have loop : ∀ b' a' : Nat, a' < 9223372036854775808 → b' < 9223372036854775808 → Nat.gcd a' b' = Nat.gcd x.toInt.natAbs b → V X 0 0 z S I J R 17 [some (.long x), none, some (.long (lN b)), none, some (.long (lN a')), none, some (.long (lN b')), none, none, none] [] := by
    intro b'
    induction b' using Nat.strongRecOn with
    | ind b' ih =>
      intro a' h1 h2 hg
      refine v_lload C dX5_common_17 rfl ?_
      refine v_lconst (v := lN 0) C dX5_common_19 rfl ?_
      refine v_lcmp C dX5_common_20 ?_
      first | refine v_lcif_eqN C 42 dX5_common_21 (by omega) (by omega) (by decide) (fun h21 => ?_) (fun h21 => ?_) | refine v_lcif_eq C 42 dX5_common_21 (by decide) (fun h21 => ?_) (fun h21 => ?_)
      · refine v_lload C dX5_common_42 rfl ?_
        refine v_lret C Q dX5_common_44 (Nat.le_of_ble_eq_true rfl) (Nat.le_of_ble_eq_true rfl) ?_
        obtain rfl : b' = 0 := by omega
        rw [Nat.gcd_zero_right] at hg
        rw [hg]; exact hp
      · refine v_lload C dX5_common_24 rfl ?_
        refine v_lload C dX5_common_26 rfl ?_
        first | refine v_lremN C dX5_common_28 (by omega) (by omega) (by omega) ?_ | refine v_lrem C dX5_common_28 (by assumption) ?_
        refine v_lstore C dX5_common_29 (by decide) ?_
        refine v_lload C dX5_common_31 rfl ?_
        refine v_lstore C dX5_common_33 (by decide) ?_
        refine v_lload C dX5_common_35 rfl ?_
        refine v_lstore C dX5_common_37 (by decide) ?_
        refine v_goto C 17 dX5_common_39 (by decide) ?_
        exact v_less (ih (a' % b') (Nat.mod_lt a' (by omega)) b' h2 (Nat.lt_trans (Nat.mod_lt a' (by omega)) h2) (by rw [gcd_step, hg])) (by repeat (first | exact trivial | refine And.intro rfl ?_))
  refine v_lload_n C dX5_common_0 rfl ?_
  refine v_lconst (v := lN 0) C dX5_common_1 rfl ?_
  refine v_lcmp C dX5_common_2 ?_
  refine v_lcif_ge C 11 dX5_common_3 (by decide) (fun h3 => ?_) (fun h3 => ?_)
  · refine v_lload_n C dX5_common_11 rfl ?_
    refine v_eql (x' := lN x.toInt.natAbs) (by first | exact ab_pos hx h3 | rfl) ?_
    refine v_lstore C dX5_common_12 (by decide) ?_
    refine v_lload_n C dX5_common_14 rfl ?_
    refine v_lstore C dX5_common_15 (by decide) ?_
    exact v_less (loop b x.toInt.natAbs hx hb rfl) (by repeat (first | exact trivial | refine And.intro rfl ?_))
  · refine v_lload_n C dX5_common_6 rfl ?_
    refine v_lneg C dX5_common_7 ?_
    rw [ab_neg hx h3]
    refine v_goto C 12 dX5_common_8 (by decide) ?_
    refine v_eql (x' := lN x.toInt.natAbs) (by first | exact ab_pos hx h3 | rfl) ?_
    refine v_lstore C dX5_common_12 (by decide) ?_
    refine v_lload_n C dX5_common_14 rfl ?_
    refine v_lstore C dX5_common_15 (by decide) ?_
    exact v_less (loop b x.toInt.natAbs hx hb rfl) (by repeat (first | exact trivial | refine And.intro rfl ?_))
def s_X5_ratio : Sp := fun av z S I J R Post => ∃ (x : Int64), ∃ (b nm : Nat), av = [.long x, .long (lN b), .int (nI nm)] ∧ (x.toInt.natAbs < 9223372036854775808) ∧ (b < 9223372036854775808) ∧ (0 < b) ∧ (nm < 2) ∧ (Post 0 (frc x b (decide (nm = 0))) none z S I J R)
theorem c_X5_ratio {x : Int64} {b nm : Nat} {z : Nat} {S : MS} {I : MI} {J : MJ} {R : MR} {Post : PT} (hx : x.toInt.natAbs < 9223372036854775808) (hb : b < 9223372036854775808) (h0 : 0 < b) (hn : nm < 2) (hp : Post 0 (frc x b (decide (nm = 0))) none z S I J R) : s_X5_ratio [.long x, .long (lN b), .int (nI nm)] z S I J R Post := ⟨x, b, nm, rfl, hx, hb, h0, hn, hp⟩
set_option maxRecDepth 100000 in
set_option maxHeartbeats 400000 in
theorem m_X5_ratio (T : TC) (B : Nat) : Mt T B yX5_ratio cX5_ratio 7 (some .long) 2 (rmL 2 0 0) s_X5_ratio := by
  refine Mt_of rfl (by rintro _ _ _ _ _ _ _ ⟨_, _, _, rfl, -⟩; exact Nat.le_of_ble_eq_true rfl) ?_
  intro X av z S I J R Post h C Q hI
  obtain ⟨x, b, nm, rfl, hx, hb, h0, hn, hp⟩ := h
  have hg := lN_ne0 (Nat.gcd_pos_of_pos_right x.toInt.natAbs h0) (Nat.lt_of_le_of_lt (Nat.le_of_dvd h0 (Nat.gcd_dvd_right _ _)) hb)
  refine v_lload_n C dX5_ratio_0 rfl ?_
  refine v_lload_n C dX5_ratio_1 rfl ?_
  refine v_callS2_2 C (m_X5_common T B) lk_X5_132 wt_757 dX5_ratio_2 ⟨Nat.le_of_ble_eq_true rfl, Nat.le_of_ble_eq_true rfl⟩ (Nat.le_of_ble_eq_true rfl) ⟨Nat.le_of_ble_eq_true rfl, Nat.le_of_ble_eq_true rfl⟩ ?_
  refine c_X5_common hx hb ?_
  refine v_lstore C dX5_ratio_5 (by decide) ?_
  refine v_iload C dX5_ratio_7 rfl ?_
  first | refine v_if_eqN C 19 dX5_ratio_9 (by omega) (by decide) (fun h9 => ?_) (fun h9 => ?_) | refine v_if_eq C 19 dX5_ratio_9 (by decide) (fun h9 => ?_) (fun h9 => ?_)
  · refine v_lload_n C dX5_ratio_19 rfl ?_
    refine v_lload C dX5_ratio_20 rfl ?_
    refine v_ldiv C dX5_ratio_22 (by assumption) ?_
    refine v_lret C Q dX5_ratio_23 (Nat.le_of_ble_eq_true rfl) (Nat.le_of_ble_eq_true rfl) ?_
    simpa [frc, h9] using hp
  · refine v_lload_n C dX5_ratio_12 rfl ?_
    refine v_lload C dX5_ratio_13 rfl ?_
    refine v_ldiv C dX5_ratio_15 (by assumption) ?_
    refine v_goto C 23 dX5_ratio_16 (by decide) ?_
    refine v_lret C Q dX5_ratio_23 (Nat.le_of_ble_eq_true rfl) (Nat.le_of_ble_eq_true rfl) ?_
    simpa [frc, h9] using hp
def s_X4_fraction : Sp := fun av z S I J R Post => ∃ (x : Int64), ∃ (b dn : Nat), av = [.long x, .long (lN b), .int (nI dn)] ∧ (x.toInt.natAbs < 9223372036854775808) ∧ (b < 9223372036854775808) ∧ (0 < b) ∧ (dn < 2) ∧ (Post 0 (frc x b (decide (dn = 1))) none z S I J R)
theorem c_X4_fraction {x : Int64} {b dn : Nat} {z : Nat} {S : MS} {I : MI} {J : MJ} {R : MR} {Post : PT} (hx : x.toInt.natAbs < 9223372036854775808) (hb : b < 9223372036854775808) (h0 : 0 < b) (hn : dn < 2) (hp : Post 0 (frc x b (decide (dn = 1))) none z S I J R) : s_X4_fraction [.long x, .long (lN b), .int (nI dn)] z S I J R Post := ⟨x, b, dn, rfl, hx, hb, h0, hn, hp⟩
set_option maxRecDepth 100000 in
set_option maxHeartbeats 400000 in
theorem m_X4_fraction (T : TC) (B : Nat) : Mt T B yX4_fraction cX4_fraction 9 (some .long) 2 (rmL 2 0 0) s_X4_fraction := by
  refine Mt_of rfl (by rintro _ _ _ _ _ _ _ ⟨_, _, _, rfl, -⟩; exact Nat.le_of_ble_eq_true rfl) ?_
  intro X av z S I J R Post h C Q hI
  obtain ⟨x, b, dn, rfl, hx, hb, h0, hn, hp⟩ := h
  have g0 := Nat.gcd_pos_of_pos_right x.toInt.natAbs h0
  have gb := Nat.lt_of_le_of_lt (Nat.le_of_dvd h0 (Nat.gcd_dvd_right x.toInt.natAbs b)) hb
  have hg := lN_ne0 g0 gb
  unfold frc at hp
  generalize hgd : Nat.gcd x.toInt.natAbs b = g at *
  have hy : ∀ y : Int64, y = (if decide (dn = 1) = true then lN b else x) → V X 0 0 z S I J R 22 [some (.long x), none, some (.long (lN b)), none, some (.int (nI dn)), some (.long (lN g)), none, some (.long y), none] [] := by
    intro y ey
    rw [← ey] at hp
    refine v_lload C dX4_fraction_22 rfl ?_
    refine v_lconst (v := lN 1) C dX4_fraction_24 rfl ?_
    refine v_lcmp C dX4_fraction_25 ?_
    first | refine v_lcif_leN C 37 dX4_fraction_26 (by omega) (by omega) (by decide) (fun h26 => ?_) (fun h26 => ?_) | refine v_lcif_le C 37 dX4_fraction_26 (by decide) (fun h26 => ?_) (fun h26 => ?_)
    · obtain rfl : g = 1 := by omega
      rw [l_div1] at hp
      refine v_lload C dX4_fraction_37 rfl ?_
      refine v_lret C Q dX4_fraction_39 (Nat.le_of_ble_eq_true rfl) (Nat.le_of_ble_eq_true rfl) ?_
      exact hp
    · refine v_lload C dX4_fraction_29 rfl ?_
      refine v_lload C dX4_fraction_31 rfl ?_
      refine v_ldiv C dX4_fraction_33 (by assumption) ?_
      refine v_goto C 39 dX4_fraction_34 (by decide) ?_
      refine v_lret C Q dX4_fraction_39 (Nat.le_of_ble_eq_true rfl) (Nat.le_of_ble_eq_true rfl) ?_
      exact hp
  refine v_lload_n C dX4_fraction_0 rfl ?_
  refine v_mabsL C wt_420 wt_421 wt_422 (Nat.le_of_ble_eq_true rfl) (Nat.le_of_ble_eq_true rfl) (Nat.le_of_ble_eq_true rfl) (Nat.le_of_ble_eq_true rfl) dX4_fraction_1 ?_
  rw [ab_abs hx]
  refine v_lload_n C dX4_fraction_4 rfl ?_
  refine v_callS2_2 C (m_X4_commonFactor T B) lk_X4_268 wt_427 dX4_fraction_5 ⟨Nat.le_of_ble_eq_true rfl, Nat.le_of_ble_eq_true rfl⟩ (Nat.le_of_ble_eq_true rfl) ⟨Nat.le_of_ble_eq_true rfl, Nat.le_of_ble_eq_true rfl⟩ ?_
  refine c_X4_commonFactor hx hb ?_
  rw [hgd]
  refine v_lstore C dX4_fraction_8 (by decide) ?_
  refine v_iload C dX4_fraction_10 rfl ?_
  first | refine v_if_eqN C 19 dX4_fraction_12 (by omega) (by decide) (fun h12 => ?_) (fun h12 => ?_) | refine v_if_eq C 19 dX4_fraction_12 (by decide) (fun h12 => ?_) (fun h12 => ?_)
  · have hyy := hy x (by simp [h12])
    refine v_lload_n C dX4_fraction_19 rfl ?_
    refine v_lstore C dX4_fraction_20 (by decide) ?_
    exact v_less hyy (by repeat (first | exact trivial | refine And.intro rfl ?_))
  · have hyy := hy (lN b) (by rw [if_pos (by simp; omega)])
    refine v_lload_n C dX4_fraction_15 rfl ?_
    refine v_goto C 20 dX4_fraction_16 (by decide) ?_
    refine v_lstore C dX4_fraction_20 (by decide) ?_
    exact v_less hyy (by repeat (first | exact trivial | refine And.intro rfl ?_))
