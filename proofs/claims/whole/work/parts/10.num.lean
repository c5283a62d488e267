def s_X4_powerOf : Sp := fun av z S I J R Post => ∃ (b e : Nat), av = [.long (lN b), .int (nI e)] ∧ (e < 100) ∧ (Post 0 (lN (b ^ e)) none z S I J R)
theorem c_X4_powerOf {b e : Nat} {z : Nat} {S : MS} {I : MI} {J : MJ} {R : MR} {Post : PT} (he : e < 100) (hp : Post 0 (lN (b ^ e)) none z S I J R) : s_X4_powerOf [.long (lN b), .int (nI e)] z S I J R Post := ⟨b, e, rfl, he, hp⟩
set_option maxRecDepth 100000 in
set_option maxHeartbeats 400000 in
theorem m_X4_powerOf (T : TC) (B : Nat) : Mt T B yX4_powerOf cX4_powerOf 6 (some .long) 2 (rmL 1 0 0) s_X4_powerOf := by
  refine Mt_of rfl (by rintro _ _ _ _ _ _ _ ⟨_, _, rfl, -⟩; exact Nat.le_of_ble_eq_true rfl) ?_
  intro X av z S I J R Post h C Q hI
  obtain ⟨b, e, rfl, he, hp⟩ := h
  have loop : ∀ i : Nat, i ≤ e → V X 0 0 z S I J R 5 [some (.long (lN b)), none, some (.int (nI e)), some (.long (lN (b ^ i))), none, some (.int (nI i))] [] := by
    refine lp_up e ?_
    intro i hi ih
    refine v_iload C dX4_powerOf_5 rfl ?_
    refine v_iload_n C dX4_powerOf_7 rfl ?_
    first | refine v_icmp_geN C 21 dX4_powerOf_8 (by omega) (by omega) (by decide) (fun h8 => ?_) (fun h8 => ?_) | refine v_icmp_ge C 21 dX4_powerOf_8 (by decide) (fun h8 => ?_) (fun h8 => ?_)
    · refine v_lload_n C dX4_powerOf_21 rfl ?_
      refine v_lret C Q dX4_powerOf_22 (Nat.le_of_ble_eq_true rfl) (Nat.le_of_ble_eq_true rfl) ?_
      obtain rfl : i = e := by omega
      exact hp
    · refine v_lload_n C dX4_powerOf_11 rfl ?_
      refine v_lload_n C dX4_powerOf_12 rfl ?_
      first | refine v_lmulN C dX4_powerOf_13 ?_ | refine v_lmul C dX4_powerOf_13 ?_
      rw [← Nat.pow_succ]
      refine v_lstore_n C dX4_powerOf_14 (by decide) ?_
      first | refine v_iincN 1 C dX4_powerOf_15 rfl (by decide) ?_ | refine v_iinc C dX4_powerOf_15 rfl rfl (by decide) ?_
      refine v_goto C 5 dX4_powerOf_18 (by decide) ?_
      exact v_less (ih h8) (by repeat (first | exact trivial | refine And.intro rfl ?_))
  refine v_lconst (v := lN 1) C dX4_powerOf_0 rfl ?_
  refine v_lstore_n C dX4_powerOf_1 (by decide) ?_
  refine v_iconstN 0 C dX4_powerOf_2 ?_
  refine v_istore C dX4_powerOf_3 (by decide) ?_
  exact loop 0 (by omega)
def s_X5_power : Sp := fun av z S I J R Post => ∃ (b e : Nat), av = [.long (lN b), .int (nI e)] ∧ (e < 100) ∧ (Post 0 (lN (b ^ e)) none z S I J R)
theorem c_X5_power {b e : Nat} {z : Nat} {S : MS} {I : MI} {J : MJ} {R : MR} {Post : PT} (he : e < 100) (hp : Post 0 (lN (b ^ e)) none z S I J R) : s_X5_power [.long (lN b), .int (nI e)] z S I J R Post := ⟨b, e, rfl, he, hp⟩
set_option maxRecDepth 100000 in
set_option maxHeartbeats 400000 in
theorem m_X5_power (T : TC) (B : Nat) : Mt T B yX5_power cX5_power 6 (some .long) 2 (rmL 1 0 0) s_X5_power := by
  refine Mt_of rfl (by rintro _ _ _ _ _ _ _ ⟨_, _, rfl, -⟩; exact Nat.le_of_ble_eq_true rfl) ?_
  intro X av z S I J R Post h C Q hI
  obtain ⟨b, e, rfl, he, hp⟩ := h
  have loop : ∀ i : Nat, i ≤ e → V X 0 0 z S I J R 5 [some (.long (lN b)), none, some (.int (nI e)), some (.long (lN (b ^ i))), none, some (.int (nI i))] [] := by
    refine lp_up e ?_
    intro i hi ih
    refine v_iload C dX5_power_5 rfl ?_
    refine v_iload_n C dX5_power_7 rfl ?_
    first | refine v_icmp_geN C 21 dX5_power_8 (by omega) (by omega) (by decide) (fun h8 => ?_) (fun h8 => ?_) | refine v_icmp_ge C 21 dX5_power_8 (by decide) (fun h8 => ?_) (fun h8 => ?_)
    · refine v_lload_n C dX5_power_21 rfl ?_
      refine v_lret C Q dX5_power_22 (Nat.le_of_ble_eq_true rfl) (Nat.le_of_ble_eq_true rfl) ?_
      obtain rfl : i = e := by omega
      exact hp
    · refine v_lload_n C dX5_power_11 rfl ?_
      refine v_lload_n C dX5_power_12 rfl ?_
      first | refine v_lmulN C dX5_power_13 ?_ | refine v_lmul C dX5_power_13 ?_
      rw [← Nat.pow_succ]
      refine v_lstore_n C dX5_power_14 (by decide) ?_
      first | refine v_iincN 1 C dX5_power_15 rfl (by decide) ?_ | refine v_iinc C dX5_power_15 rfl rfl (by decide) ?_
      refine v_goto C 5 dX5_power_18 (by decide) ?_
      exact v_less (ih h8) (by repeat (first | exact trivial | refine And.intro rfl ?_))
  refine v_lconst (v := lN 1) C dX5_power_0 rfl ?_
  refine v_lstore_n C dX5_power_1 (by decide) ?_
  refine v_iconstN 0 C dX5_power_2 ?_
  refine v_istore C dX5_power_3 (by decide) ?_
  exact loop 0 (by omega)
theorem gcd_step (a b : Nat) : Nat.gcd b (a % b) = Nat.gcd a b := by
  rw [Nat.gcd_comm b (a % b), ← Nat.gcd_rec b a, Nat.gcd_comm]
def s_X4_commonFactor : Sp := fun av z S I J R Post => ∃ (a b : Nat), av = [.long (lN a), .long (lN b)] ∧ (a < 9223372036854775808) ∧ (b < 9223372036854775808) ∧ (Post 0 (lN (Nat.gcd a b)) none z S I J R)
theorem c_X4_commonFactor {a b : Nat} {z : Nat} {S : MS} {I : MI} {J : MJ} {R : MR} {Post : PT} (ha : a < 9223372036854775808) (hb : b < 9223372036854775808) (hp : Post 0 (lN (Nat.gcd a b)) none z S I J R) : s_X4_commonFactor [.long (lN a), .long (lN b)] z S I J R Post := ⟨a, b, rfl, ha, hb, hp⟩
set_option maxRecDepth 100000 in
set_option maxHeartbeats 400000 in
theorem m_X4_commonFactor (T : TC) (B : Nat) : Mt T B yX4_commonFactor cX4_commonFactor 11 (some .long) 2 (rmL 1 0 0) s_X4_commonFactor := by
  refine Mt_of rfl (by rintro _ _ _ _ _ _ _ ⟨_, _, rfl, -⟩; exact Nat.le_of_ble_eq_true rfl) ?_
  intro X av z S I J R Post h C Q hI
  obtain ⟨a, b, rfl, ha, hb, hp⟩ := h
  have loop : ∀ k a' b' t : Nat, b' ≤ a' → a' < 2 ^ k → k ≤ 63 → Nat.gcd a' b' = Nat.gcd a b → t + 2 * k + 1 ≤ 200 → V X 0 0 z S I J R 9 [some (.long (lN a)), none, some (.long (lN b)), none, some (.long (lN a')), none, some (.long (lN b')), none, some (.int (nI t)), none, none] [] := by
    intro k
    induction k with
    | zero =>
      intro a' b' t h1 h2 hk hg ht
      have ha0 : a' = 0 := by simpa using h2
      have hb0 : b' = 0 := by omega
      refine v_iload C dX4_commonFactor_9 rfl ?_
      refine v_sipushN 200 (by decide +kernel) C dX4_commonFactor_11 ?_
      first | refine v_icmp_geN C 45 dX4_commonFactor_14 (by omega) (by omega) (by decide) (fun h14 => ?_) (fun h14 => ?_) | refine v_icmp_ge C 45 dX4_commonFactor_14 (by decide) (fun h14 => ?_) (fun h14 => ?_)
      · exact absurd h14 (by omega)
      · refine v_lload C dX4_commonFactor_17 rfl ?_
        refine v_lconst (v := lN 0) C dX4_commonFactor_19 rfl ?_
        refine v_lcmp C dX4_commonFactor_20 ?_
        first | refine v_lcif_eqN C 45 dX4_commonFactor_21 (by omega) (by omega) (by decide) (fun h21 => ?_) (fun h21 => ?_) | refine v_lcif_eq C 45 dX4_commonFactor_21 (by decide) (fun h21 => ?_) (fun h21 => ?_)
        · refine v_lload C dX4_commonFactor_45 rfl ?_
          refine v_lret C Q dX4_commonFactor_47 (Nat.le_of_ble_eq_true rfl) (Nat.le_of_ble_eq_true rfl) ?_
          rw [← hg, hb0, Nat.gcd_zero_right] at hp; exact hp
        · exact absurd h21 (by omega)
    | succ k ih =>
      intro a' b' t h1 h2 hk hg ht
      have hp63 : (2 : Nat) ^ (k + 1) ≤ 2 ^ 63 := Nat.pow_le_pow_right (by decide) hk
      have hlt : a' < 9223372036854775808 := Nat.lt_of_lt_of_le h2 hp63
      have two : ∀ r : Nat, 0 < b' → r = a' % b' → r < b' ∧ 2 * r < 2 ^ (k + 1) ∧ Nat.gcd b' r = Nat.gcd a b := by
        intro r h0 hr
        subst hr
        have m1 := Nat.mod_lt a' h0
        have m2 : a' % b' + b' ≤ a' := by
          have q1 := Nat.mod_add_div a' b'
          have q2 : 1 ≤ a' / b' := Nat.div_pos h1 h0
          have q3 : b' * 1 ≤ b' * (a' / b') := Nat.mul_le_mul_left b' q2
          omega
        exact ⟨m1, by omega, by rw [gcd_step, hg]⟩
      refine v_iload C dX4_commonFactor_9 rfl ?_
      refine v_sipushN 200 (by decide +kernel) C dX4_commonFactor_11 ?_
      first | refine v_icmp_geN C 45 dX4_commonFactor_14 (by omega) (by omega) (by decide) (fun h14 => ?_) (fun h14 => ?_) | refine v_icmp_ge C 45 dX4_commonFactor_14 (by decide) (fun h14 => ?_) (fun h14 => ?_)
      · exact absurd h14 (by omega)
      · refine v_lload C dX4_commonFactor_17 rfl ?_
        refine v_lconst (v := lN 0) C dX4_commonFactor_19 rfl ?_
        refine v_lcmp C dX4_commonFactor_20 ?_
        first | refine v_lcif_eqN C 45 dX4_commonFactor_21 (by omega) (by omega) (by decide) (fun h21 => ?_) (fun h21 => ?_) | refine v_lcif_eq C 45 dX4_commonFactor_21 (by decide) (fun h21 => ?_) (fun h21 => ?_)
        · refine v_lload C dX4_commonFactor_45 rfl ?_
          refine v_lret C Q dX4_commonFactor_47 (Nat.le_of_ble_eq_true rfl) (Nat.le_of_ble_eq_true rfl) ?_
          obtain rfl : b' = 0 := by omega
          rw [Nat.gcd_zero_right] at hg
          rw [hg]; exact hp
        · obtain ⟨r1, r2, r3⟩ := two (a' % b') (by omega) rfl
          generalize hrr : a' % b' = r at r1 r2 r3
          have hb'0 : 0 < b' := by omega
          refine v_lload C dX4_commonFactor_24 rfl ?_
          refine v_lload C dX4_commonFactor_26 rfl ?_
          first | refine v_lremN C dX4_commonFactor_28 (by omega) (by omega) (by omega) ?_ | refine v_lrem C dX4_commonFactor_28 (by assumption) ?_
          rw [hrr]
          refine v_lstore C dX4_commonFactor_29 (by decide) ?_
          refine v_lload C dX4_commonFactor_31 rfl ?_
          refine v_lstore C dX4_commonFactor_33 (by decide) ?_
          refine v_lload C dX4_commonFactor_35 rfl ?_
          refine v_lstore C dX4_commonFactor_37 (by decide) ?_
          first | refine v_iincN 1 C dX4_commonFactor_39 rfl (by decide) ?_ | refine v_iinc C dX4_commonFactor_39 rfl rfl (by decide) ?_
          refine v_goto C 9 dX4_commonFactor_42 (by decide) ?_
          refine v_iload C dX4_commonFactor_9 rfl ?_
          refine v_sipushN 200 (by decide +kernel) C dX4_commonFactor_11 ?_
          first | refine v_icmp_geN C 45 dX4_commonFactor_14 (by omega) (by omega) (by decide) (fun h14 => ?_) (fun h14 => ?_) | refine v_icmp_ge C 45 dX4_commonFactor_14 (by decide) (fun h14 => ?_) (fun h14 => ?_)
          · exact absurd h14 (by omega)
          · refine v_lload C dX4_commonFactor_17 rfl ?_
            refine v_lconst (v := lN 0) C dX4_commonFactor_19 rfl ?_
            refine v_lcmp C dX4_commonFactor_20 ?_
            first | refine v_lcif_eqN C 45 dX4_commonFactor_21 (by omega) (by omega) (by decide) (fun h21 => ?_) (fun h21 => ?_) | refine v_lcif_eq C 45 dX4_commonFactor_21 (by decide) (fun h21 => ?_) (fun h21 => ?_)
            · refine v_lload C dX4_commonFactor_45 rfl ?_
              refine v_lret C Q dX4_commonFactor_47 (Nat.le_of_ble_eq_true rfl) (Nat.le_of_ble_eq_true rfl) ?_
              obtain rfl : r = 0 := by omega
              rw [Nat.gcd_zero_right] at r3
              rw [r3]; exact hp
            · refine v_lload C dX4_commonFactor_24 rfl ?_
              refine v_lload C dX4_commonFactor_26 rfl ?_
              first | refine v_lremN C dX4_commonFactor_28 (by omega) (by omega) (by omega) ?_ | refine v_lrem C dX4_commonFactor_28 (by assumption) ?_
              refine v_lstore C dX4_commonFactor_29 (by decide) ?_
              refine v_lload C dX4_commonFactor_31 rfl ?_
              refine v_lstore C dX4_commonFactor_33 (by decide) ?_
              refine v_lload C dX4_commonFactor_35 rfl ?_
              refine v_lstore C dX4_commonFactor_37 (by decide) ?_
              first | refine v_iincN 1 C dX4_commonFactor_39 rfl (by decide) ?_ | refine v_iinc C dX4_commonFactor_39 rfl rfl (by decide) ?_
              refine v_goto C 9 dX4_commonFactor_42 (by decide) ?_
              exact v_less (ih r (b' % r) (t + 1 + 1) (Nat.le_of_lt (Nat.mod_lt b' (by omega))) (by rw [Nat.pow_succ] at r2; omega) (by omega) (by rw [gcd_step, r3]) (by omega)) (by repeat (first | exact trivial | refine And.intro rfl ?_))
  by_cases hab : b ≤ a
  · refine v_lload_n C dX4_commonFactor_0 rfl ?_
    refine v_lstore C dX4_commonFactor_1 (by decide) ?_
    refine v_lload_n C dX4_commonFactor_3 rfl ?_
    refine v_lstore C dX4_commonFactor_4 (by decide) ?_
    refine v_iconstN 0 C dX4_commonFactor_6 ?_
    refine v_istore C dX4_commonFactor_7 (by decide) ?_
    exact loop 63 a b 0 hab ha (by omega) rfl (by omega)
  · refine v_lload_n C dX4_commonFactor_0 rfl ?_
    refine v_lstore C dX4_commonFactor_1 (by decide) ?_
    refine v_lload_n C dX4_commonFactor_3 rfl ?_
    refine v_lstore C dX4_commonFactor_4 (by decide) ?_
    refine v_iconstN 0 C dX4_commonFactor_6 ?_
    refine v_istore C dX4_commonFactor_7 (by decide) ?_
    refine v_iload C dX4_commonFactor_9 rfl ?_
    refine v_sipushN 200 (by decide +kernel) C dX4_commonFactor_11 ?_
    first | refine v_icmp_geN C 45 dX4_commonFactor_14 (by omega) (by omega) (by decide) (fun h14 => ?_) (fun h14 => ?_) | refine v_icmp_ge C 45 dX4_commonFactor_14 (by decide) (fun h14 => ?_) (fun h14 => ?_)
    · exact absurd h14 (by omega)
    · refine v_lload C dX4_commonFactor_17 rfl ?_
      refine v_lconst (v := lN 0) C dX4_commonFactor_19 rfl ?_
      refine v_lcmp C dX4_commonFactor_20 ?_
      first | refine v_lcif_eqN C 45 dX4_commonFactor_21 (by omega) (by omega) (by decide) (fun h21 => ?_) (fun h21 => ?_) | refine v_lcif_eq C 45 dX4_commonFactor_21 (by decide) (fun h21 => ?_) (fun h21 => ?_)
      · exact absurd h21 (by omega)
      · refine v_lload C dX4_commonFactor_24 rfl ?_
        refine v_lload C dX4_commonFactor_26 rfl ?_
        first | refine v_lremN C dX4_commonFactor_28 (by omega) (by omega) (by omega) ?_ | refine v_lrem C dX4_commonFactor_28 (by assumption) ?_
        refine v_lstore C dX4_commonFactor_29 (by decide) ?_
        refine v_lload C dX4_commonFactor_31 rfl ?_
        refine v_lstore C dX4_commonFactor_33 (by decide) ?_
        refine v_lload C dX4_commonFactor_35 rfl ?_
        refine v_lstore C dX4_commonFactor_37 (by decide) ?_
        first | refine v_iincN 1 C dX4_commonFactor_39 rfl (by decide) ?_ | refine v_iinc C dX4_commonFactor_39 rfl rfl (by decide) ?_
        refine v_goto C 9 dX4_commonFactor_42 (by decide) ?_
        exact v_less (loop 63 b (a % b) (0 + 1) (Nat.le_of_lt (Nat.mod_lt a (by omega))) hb (by omega) (gcd_step a b) (by omega)) (by repeat (first | exact trivial | refine And.intro rfl ?_))
