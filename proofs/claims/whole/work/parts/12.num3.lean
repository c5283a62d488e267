/-- the bits of a number, counted; f places are looked at -/
def pop : Nat → Nat → Nat
  | 0, _ => 0
  | f + 1, n => n % 2 + pop f (n / 2)
def pc (n : Nat) : Nat := pop 32 n
theorem pop_0 : ∀ f, pop f 0 = 0
  | 0 => rfl
  | f + 1 => by simp [pop, pop_0 f]
theorem pop_fix : ∀ f n, n < 2 ^ f → pop (f + 1) n = pop f n
  | 0, n, h => by
    have : n = 0 := by simpa using h
    subst this
    rfl
  | f + 1, n, h => by
    have h2 : n / 2 < 2 ^ f := by rw [Nat.pow_succ] at h; omega
    show n % 2 + pop (f + 1) (n / 2) = n % 2 + pop f (n / 2)
    rw [pop_fix f (n / 2) h2]
theorem pc_step {n : Nat} (h : n < 2147483648) : pc n = n % 2 + pc (n / 2) := by
  show n % 2 + pop 31 (n / 2) = n % 2 + pop 32 (n / 2)
  rw [pop_fix 31 (n / 2) (by omega)]
theorem pc_0 : pc 0 = 0 := pop_0 32
theorem pop_le : ∀ f n, pop f n ≤ f
  | 0, _ => Nat.le_refl 0
  | f + 1, n => by
    have := pop_le f (n / 2)
    simp only [pop]
    omega
theorem pop_xor : ∀ f a b, pop f (a ^^^ b) % 2 = (pop f a + pop f b) % 2
  | 0, _, _ => rfl
  | f + 1, a, b => by
    have ih := pop_xor f (a / 2) (b / 2)
    have h1 : (a ^^^ b) % 2 = (a % 2 + b % 2) % 2 := by
      have ha := Nat.mod_two_eq_zero_or_one a
      have hb := Nat.mod_two_eq_zero_or_one b
      have hx := @Nat.xor_mod_two_pow a b 1
      rw [Nat.pow_one] at hx
      rw [hx]
      rcases ha with ha | ha <;> rcases hb with hb | hb <;> rw [ha, hb] <;> rfl
    have h2 : (a ^^^ b) / 2 = a / 2 ^^^ b / 2 := Nat.xor_div_two
    simp only [pop, h2]
    omega
theorem pc_xor (a b : Nat) : pc (a ^^^ b) % 2 = (pc a + pc b) % 2 := pop_xor 32 a b
theorem x1_mod {s b : Nat} : (s % 2) ^^^ (b % 2) = (s + b) % 2 := by
  have ha := Nat.mod_two_eq_zero_or_one s
  have hb := Nat.mod_two_eq_zero_or_one b
  rcases ha with ha | ha <;> rcases hb with hb | hb <;> rw [ha, hb] <;> simp <;> omega
def bcF (x : Int32) : Int32 :=
  let a := x - ((x.toUInt32 >>> ((nI 1).toUInt32 &&& Int32.toUInt32 31)).toInt32 &&& nI 1431655765)
  let b := (a &&& nI 858993459) + ((a.toUInt32 >>> ((nI 2).toUInt32 &&& Int32.toUInt32 31)).toInt32 &&& nI 858993459)
  let c := (b + (b.toUInt32 >>> ((nI 4).toUInt32 &&& Int32.toUInt32 31)).toInt32) &&& nI 252645135
  let d := c + (c.toUInt32 >>> ((nI 8).toUInt32 &&& Int32.toUInt32 31)).toInt32
  let e := d + (d.toUInt32 >>> ((nI 16).toUInt32 &&& Int32.toUInt32 31)).toInt32
  e &&& nI 63
set_option maxRecDepth 100000 in
theorem bc_all : (List.range 4096).all (fun i => decide (bcF (nI i) = nI (pc i))) = true := by decide +kernel
theorem bc_ok {n : Nat} (h : n < 4096) : bcF (nI n) = nI (pc n) := co_dec bc_all h
def s_J6_bitCount_0f7a4 : Sp := fun av z S I J R Post => ∃ (n : Nat), av = [.int (nI n)] ∧ (n < 4096) ∧ (Post (nI (pc n)) 0 none z S I J R)
theorem c_J6_bitCount_0f7a4 {n : Nat} {z : Nat} {S : MS} {I : MI} {J : MJ} {R : MR} {Post : PT} (hn : n < 4096) (hp : Post (nI (pc n)) 0 none z S I J R) : s_J6_bitCount_0f7a4 [.int (nI n)] z S I J R Post := ⟨n, rfl, hn, hp⟩
set_option maxRecDepth 100000 in
set_option maxHeartbeats 400000 in
theorem m_J6_bitCount_0f7a4 (T : TC) (B : Nat) : Mt T B yJ6_bitCount_0f7a4 cJ6_bitCount_0f7a4 1 (some .int) 1 (rmL 1 0 0) s_J6_bitCount_0f7a4 := by
  refine Mt_of rfl (by rintro _ _ _ _ _ _ _ ⟨_, rfl, -⟩; exact Nat.le_of_ble_eq_true rfl) ?_
  intro X av z S I J R Post h C Q hI
  obtain ⟨n, rfl, hn, hp⟩ := h
  rw [← bc_ok hn] at hp
  refine v_iload_n C dJ6_bitCount_0f7a4_0 rfl ?_
  refine v_iload_n C dJ6_bitCount_0f7a4_1 rfl ?_
  refine v_iconstN 1 C dJ6_bitCount_0f7a4_2 ?_
  refine v_iushr C dJ6_bitCount_0f7a4_3 ?_
  refine v_ldcw C dJ6_bitCount_0f7a4_4 wt_500 ?_
  refine v_eqi (x' := nI 1431655765) (by decide +kernel) ?_
  refine v_iand C dJ6_bitCount_0f7a4_7 ?_
  refine v_isub C dJ6_bitCount_0f7a4_8 ?_
  refine v_istore_n C dJ6_bitCount_0f7a4_9 (by decide) ?_
  refine v_iload_n C dJ6_bitCount_0f7a4_10 rfl ?_
  refine v_ldcw C dJ6_bitCount_0f7a4_11 wt_501 ?_
  refine v_eqi (x' := nI 858993459) (by decide +kernel) ?_
  refine v_iand C dJ6_bitCount_0f7a4_14 ?_
  refine v_iload_n C dJ6_bitCount_0f7a4_15 rfl ?_
  refine v_iconstN 2 C dJ6_bitCount_0f7a4_16 ?_
  refine v_iushr C dJ6_bitCount_0f7a4_17 ?_
  refine v_ldcw C dJ6_bitCount_0f7a4_18 wt_501 ?_
  refine v_eqi (x' := nI 858993459) (by decide +kernel) ?_
  refine v_iand C dJ6_bitCount_0f7a4_21 ?_
  refine v_iadd C dJ6_bitCount_0f7a4_22 ?_
  refine v_istore_n C dJ6_bitCount_0f7a4_23 (by decide) ?_
  refine v_iload_n C dJ6_bitCount_0f7a4_24 rfl ?_
  refine v_iload_n C dJ6_bitCount_0f7a4_25 rfl ?_
  refine v_iconstN 4 C dJ6_bitCount_0f7a4_26 ?_
  refine v_iushr C dJ6_bitCount_0f7a4_27 ?_
  refine v_iadd C dJ6_bitCount_0f7a4_28 ?_
  refine v_ldcw C dJ6_bitCount_0f7a4_29 wt_502 ?_
  refine v_eqi (x' := nI 252645135) (by decide +kernel) ?_
  refine v_iand C dJ6_bitCount_0f7a4_32 ?_
  refine v_istore_n C dJ6_bitCount_0f7a4_33 (by decide) ?_
  refine v_iload_n C dJ6_bitCount_0f7a4_34 rfl ?_
  refine v_iload_n C dJ6_bitCount_0f7a4_35 rfl ?_
  refine v_bipushN 8 (by decide) C dJ6_bitCount_0f7a4_36 ?_
  refine v_iushr C dJ6_bitCount_0f7a4_38 ?_
  refine v_iadd C dJ6_bitCount_0f7a4_39 ?_
  refine v_istore_n C dJ6_bitCount_0f7a4_40 (by decide) ?_
  refine v_iload_n C dJ6_bitCount_0f7a4_41 rfl ?_
  refine v_iload_n C dJ6_bitCount_0f7a4_42 rfl ?_
  refine v_bipushN 16 (by decide) C dJ6_bitCount_0f7a4_43 ?_
  refine v_iushr C dJ6_bitCount_0f7a4_45 ?_
  refine v_iadd C dJ6_bitCount_0f7a4_46 ?_
  refine v_istore_n C dJ6_bitCount_0f7a4_47 (by decide) ?_
  refine v_iload_n C dJ6_bitCount_0f7a4_48 rfl ?_
  refine v_bipushN 63 (by decide) C dJ6_bitCount_0f7a4_49 ?_
  refine v_iand C dJ6_bitCount_0f7a4_51 ?_
  refine v_iret C Q dJ6_bitCount_0f7a4_52 (Nat.le_of_ble_eq_true rfl) (Nat.le_of_ble_eq_true rfl) ?_
  exact hp
def s_X5_odd : Sp := fun av z S I J R Post => ∃ (n : Nat), av = [.int (nI n)] ∧ (n < 2147483648) ∧ (Post (nI (pc n % 2)) 0 none z S I J R)
theorem c_X5_odd {n : Nat} {z : Nat} {S : MS} {I : MI} {J : MJ} {R : MR} {Post : PT} (hn : n < 2147483648) (hp : Post (nI (pc n % 2)) 0 none z S I J R) : s_X5_odd [.int (nI n)] z S I J R Post := ⟨n, rfl, hn, hp⟩
set_option maxRecDepth 100000 in
set_option maxHeartbeats 400000 in
theorem m_X5_odd (T : TC) (B : Nat) : Mt T B yX5_odd cX5_odd 3 (some .int) 1 (rmL 1 0 0) s_X5_odd := by
  refine Mt_of rfl (by rintro _ _ _ _ _ _ _ ⟨_, rfl, -⟩; exact Nat.le_of_ble_eq_true rfl) ?_
  intro X av z S I J R Post h C Q hI
  obtain ⟨n, rfl, hn, hp⟩ := h
  have loop : ∀ m s : Nat, m < 2147483648 → (s + pc m) % 2 = pc n % 2 → V X 0 0 z S I J R 4 [some (.int (nI n)), some (.int (nI (s % 2))), some (.int (nI m))] [] := by
    intro m
    induction m using Nat.strongRecOn with
    | ind m ih =>
      intro s hm hs
      refine v_iload_n C dX5_odd_4 rfl ?_
      first | refine v_if_eqN C 21 dX5_odd_5 (by omega) (by decide) (fun h5 => ?_) (fun h5 => ?_) | refine v_if_eq C 21 dX5_odd_5 (by decide) (fun h5 => ?_) (fun h5 => ?_)
      · refine v_iload_n C dX5_odd_21 rfl ?_
        refine v_iret C Q dX5_odd_22 (Nat.le_of_ble_eq_true rfl) (Nat.le_of_ble_eq_true rfl) ?_
        obtain rfl : m = 0 := by omega
        rw [pc_0, Nat.add_zero] at hs
        rw [hs]; exact hp
      · refine v_iload_n C dX5_odd_8 rfl ?_
        refine v_iload_n C dX5_odd_9 rfl ?_
        refine v_iconstN 1 C dX5_odd_10 ?_
        first | refine v_iandN C dX5_odd_11 ?_ | refine v_iand C dX5_odd_11 ?_
        first | refine v_ixorN C dX5_odd_12 ?_ | refine v_ixor C dX5_odd_12 ?_
        rw [show m &&& 1 = m % 2 from Nat.and_one_is_mod m, x1_mod]
        refine v_istore_n C dX5_odd_13 (by decide) ?_
        refine v_iload_n C dX5_odd_14 rfl ?_
        refine v_iconstN 1 C dX5_odd_15 ?_
        first | refine v_iushrN C dX5_odd_16 (by omega) (by omega) ?_ | refine v_iushr C dX5_odd_16 ?_
        refine v_istore_n C dX5_odd_17 (by decide) ?_
        refine v_goto C 4 dX5_odd_18 (by decide) ?_
        exact v_less (ih (m / 2 ^ 1) (by omega) (s + m) (by omega) (by rw [pc_step hm] at hs; rw [Nat.pow_one]; omega)) (by repeat (first | exact trivial | refine And.intro rfl ?_))
  refine v_iconstN 0 C dX5_odd_0 ?_
  refine v_istore_n C dX5_odd_1 (by decide) ?_
  refine v_iload_n C dX5_odd_2 rfl ?_
  refine v_istore_n C dX5_odd_3 (by decide) ?_
  exact loop n 0 hn (by omega)
def s_X5_ones : Sp := fun av z S I J R Post => ∃ (n : Nat), av = [.int (nI n)] ∧ (n < 2147483648) ∧ (Post (nI (pc n)) 0 none z S I J R)
theorem c_X5_ones {n : Nat} {z : Nat} {S : MS} {I : MI} {J : MJ} {R : MR} {Post : PT} (hn : n < 2147483648) (hp : Post (nI (pc n)) 0 none z S I J R) : s_X5_ones [.int (nI n)] z S I J R Post := ⟨n, rfl, hn, hp⟩
set_option maxRecDepth 100000 in
set_option maxHeartbeats 400000 in
theorem m_X5_ones (T : TC) (B : Nat) : Mt T B yX5_ones cX5_ones 3 (some .int) 1 (rmL 1 0 0) s_X5_ones := by
  refine Mt_of rfl (by rintro _ _ _ _ _ _ _ ⟨_, rfl, -⟩; exact Nat.le_of_ble_eq_true rfl) ?_
  intro X av z S I J R Post h C Q hI
  obtain ⟨n, rfl, hn, hp⟩ := h
  have loop : ∀ m s : Nat, m < 2147483648 → s + pc m = pc n → V X 0 0 z S I J R 4 [some (.int (nI n)), some (.int (nI s)), some (.int (nI m))] [] := by
    intro m
    induction m using Nat.strongRecOn with
    | ind m ih =>
      intro s hm hs
      refine v_iload_n C dX5_ones_4 rfl ?_
      first | refine v_if_eqN C 21 dX5_ones_5 (by omega) (by decide) (fun h5 => ?_) (fun h5 => ?_) | refine v_if_eq C 21 dX5_ones_5 (by decide) (fun h5 => ?_) (fun h5 => ?_)
      · refine v_iload_n C dX5_ones_21 rfl ?_
        refine v_iret C Q dX5_ones_22 (Nat.le_of_ble_eq_true rfl) (Nat.le_of_ble_eq_true rfl) ?_
        obtain rfl : m = 0 := by omega
        rw [pc_0, Nat.add_zero] at hs
        rw [← hs] at hp; exact hp
      · refine v_iload_n C dX5_ones_8 rfl ?_
        refine v_iload_n C dX5_ones_9 rfl ?_
        refine v_iconstN 1 C dX5_ones_10 ?_
        first | refine v_iandN C dX5_ones_11 ?_ | refine v_iand C dX5_ones_11 ?_
        first | refine v_iaddN C dX5_ones_12 ?_ | refine v_iadd C dX5_ones_12 ?_
        refine v_istore_n C dX5_ones_13 (by decide) ?_
        refine v_iload_n C dX5_ones_14 rfl ?_
        refine v_iconstN 1 C dX5_ones_15 ?_
        first | refine v_iushrN C dX5_ones_16 (by omega) (by omega) ?_ | refine v_iushr C dX5_ones_16 ?_
        refine v_istore_n C dX5_ones_17 (by decide) ?_
        refine v_goto C 4 dX5_ones_18 (by decide) ?_
        exact v_less (ih (m / 2 ^ 1) (by omega) (s + (m &&& 1)) (by omega) (by rw [pc_step hm] at hs; rw [show m &&& 1 = m % 2 from Nat.and_one_is_mod m, Nat.pow_one]; omega)) (by repeat (first | exact trivial | refine And.intro rfl ?_))
  refine v_iconstN 0 C dX5_ones_0 ?_
  refine v_istore_n C dX5_ones_1 (by decide) ?_
  refine v_iload_n C dX5_ones_2 rfl ?_
  refine v_istore_n C dX5_ones_3 (by decide) ?_
  exact loop n 0 hn (by omega)
def s_X5_in : Sp := fun av z S I J R Post => ∃ (v a b : Int64), av = [.long v, .long a, .long b] ∧ ((a ≤ v → v ≤ b → Post (nI 1) 0 none z S I J R) ∧ (¬ (a ≤ v ∧ v ≤ b) → Post (nI 0) 0 none z S I J R))
theorem c_X5_in {v a b : Int64} {z : Nat} {S : MS} {I : MI} {J : MJ} {R : MR} {Post : PT} (hp : (a ≤ v → v ≤ b → Post (nI 1) 0 none z S I J R) ∧ (¬ (a ≤ v ∧ v ≤ b) → Post (nI 0) 0 none z S I J R)) : s_X5_in [.long v, .long a, .long b] z S I J R Post := ⟨v, a, b, rfl, hp⟩
set_option maxRecDepth 100000 in
set_option maxHeartbeats 400000 in
theorem m_X5_in (T : TC) (B : Nat) : Mt T B yX5_in cX5_in 6 (some .boolean) 1 (rmL 1 0 0) s_X5_in := by
  refine Mt_of rfl (by rintro _ _ _ _ _ _ _ ⟨_, _, _, rfl, -⟩; exact Nat.le_of_ble_eq_true rfl) ?_
  intro X av z S I J R Post h C Q hI
  obtain ⟨v, a, b, rfl, hp⟩ := h
  refine v_lload_n C dX5_in_0 rfl ?_
  refine v_lload_n C dX5_in_1 rfl ?_
  refine v_lcmp C dX5_in_2 ?_
  refine v_lcif_lt C 17 dX5_in_3 (by decide) (fun h3 => ?_) (fun h3 => ?_)
  · refine v_iconstN 0 C dX5_in_17 ?_
    refine v_zret C Q dX5_in_18 (Nat.le_of_ble_eq_true rfl) (Nat.le_of_ble_eq_true rfl) (by first | exact nz_0 | exact nz_1) ?_
    first | exact hp.1 (Int64.not_lt.mp h3) (Int64.not_lt.mp h10) | exact hp.2 (fun q => absurd h3 (Int64.not_lt.mpr q.1)) | exact hp.2 (fun q => absurd h10 (Int64.not_lt.mpr q.2))
  · refine v_lload_n C dX5_in_6 rfl ?_
    refine v_lload C dX5_in_7 rfl ?_
    refine v_lcmp C dX5_in_9 ?_
    refine v_lcif_gt C 17 dX5_in_10 (by decide) (fun h10 => ?_) (fun h10 => ?_)
    · refine v_iconstN 0 C dX5_in_17 ?_
      refine v_zret C Q dX5_in_18 (Nat.le_of_ble_eq_true rfl) (Nat.le_of_ble_eq_true rfl) (by first | exact nz_0 | exact nz_1) ?_
      first | exact hp.1 (Int64.not_lt.mp h3) (Int64.not_lt.mp h10) | exact hp.2 (fun q => absurd h3 (Int64.not_lt.mpr q.1)) | exact hp.2 (fun q => absurd h10 (Int64.not_lt.mpr q.2))
    · refine v_iconstN 1 C dX5_in_13 ?_
      refine v_goto C 18 dX5_in_14 (by decide) ?_
      refine v_zret C Q dX5_in_18 (Nat.le_of_ble_eq_true rfl) (Nat.le_of_ble_eq_true rfl) (by first | exact nz_0 | exact nz_1) ?_
      first | exact hp.1 (Int64.not_lt.mp h3) (Int64.not_lt.mp h10) | exact hp.2 (fun q => absurd h3 (Int64.not_lt.mpr q.1)) | exact hp.2 (fun q => absurd h10 (Int64.not_lt.mpr q.2))
