theorem wb_tb (n : Nat) : (lN n).toBitVec = BitVec.ofNat 64 n := rfl
theorem wb_inj {a b : Int64} (h : a.toBitVec = b.toBitVec) : a = b := Int64.toBitVec_inj.mp h
theorem wb_tn {n : Nat} (h : n < 2 ^ 64) : (lN n).toBitVec.toNat = n := by rw [wb_tb, BitVec.toNat_ofNat, Nat.mod_eq_of_lt h]
theorem wb_of (x : Int64) : ∃ n, n < 2 ^ 64 ∧ x = lN n := ⟨x.toBitVec.toNat, x.toBitVec.isLt, wb_inj (by rw [wb_tb]; simp)⟩
theorem wb_of32 (x : Int32) : ∃ n, n < 2 ^ 32 ∧ x = nI n := ⟨x.toBitVec.toNat, x.toBitVec.isLt, Int32.toBitVec_inj.mp (by show _ = BitVec.ofNat 32 _; simp)⟩
theorem wb_c : ∀ k, k < 64 → ((nI k).toInt64 &&& 63) = lN k := by decide +kernel
theorem wb_cu : ∀ k, k < 64 → ((nI k).toInt64.toUInt64 &&& Int64.toUInt64 63) = UInt64.ofNat k := by decide +kernel
theorem wb_sm : ∀ k, k < 64 → (BitVec.ofNat 64 k).smod 64 = BitVec.ofNat 64 k := by decide +kernel
theorem wb_pw {a b : Nat} (h : a ≤ b) : 2 ^ b = 2 ^ a * 2 ^ (b - a) := by rw [← Nat.pow_add]; congr 1; omega
theorem wb_lt2 {a b : Nat} (h : a < b) : 2 ^ a < 2 ^ b := Nat.pow_lt_pow_right (by decide) h
theorem wb_mod (n : Nat) : lN n = lN (n % 2 ^ 64) := wb_inj (by rw [wb_tb, wb_tb]; apply BitVec.eq_of_toNat_eq; rw [BitVec.toNat_ofNat, BitVec.toNat_ofNat, Nat.mod_mod])
theorem wb_shr {n k : Nat} (hn : n < 2 ^ 64) (hk : k < 64) : ((lN n).toUInt64 >>> ((nI k).toInt64.toUInt64 &&& Int64.toUInt64 63)).toInt64 = lN (n / 2 ^ k) := by
  rw [wb_cu k hk]
  apply wb_inj
  apply BitVec.eq_of_toNat_eq
  show ((lN n).toUInt64 >>> UInt64.ofNat k).toNat = (BitVec.ofNat 64 _).toNat
  have h1 : (UInt64.ofNat k).toNat = k := by
    show (BitVec.ofNat 64 k).toNat = k
    rw [BitVec.toNat_ofNat, Nat.mod_eq_of_lt (by omega)]
  have h2 : (lN n).toUInt64.toNat = n := wb_tn hn
  rw [UInt64.toNat_shiftRight, h1, h2, Nat.mod_eq_of_lt hk, Nat.shiftRight_eq_div_pow, BitVec.toNat_ofNat, Nat.mod_eq_of_lt (Nat.lt_of_le_of_lt (Nat.div_le_self _ _) hn)]
theorem wb_shl (n : Nat) {k : Nat} (hk : k < 64) : lN n <<< ((nI k).toInt64 &&& 63) = lN (n * 2 ^ k) := by
  rw [wb_c k hk]
  apply wb_inj
  rw [Int64.toBitVec_shiftLeft, wb_tb, wb_tb, wb_tb, wb_sm k hk]
  apply BitVec.eq_of_toNat_eq
  rw [BitVec.shiftLeft_eq', BitVec.toNat_shiftLeft, BitVec.toNat_ofNat, BitVec.toNat_ofNat, BitVec.toNat_ofNat, Nat.mod_eq_of_lt (show k < 2 ^ 64 by omega), Nat.shiftLeft_eq, Nat.mul_mod, Nat.mod_mod, ← Nat.mul_mod]
theorem wb_and {a b : Nat} (ha : a < 2 ^ 64) (hb : b < 2 ^ 64) : lN a &&& lN b = lN (a &&& b) := by
  apply wb_inj
  rw [Int64.toBitVec_and, wb_tb, wb_tb, wb_tb]
  apply BitVec.eq_of_toNat_eq
  rw [BitVec.toNat_and, BitVec.toNat_ofNat, BitVec.toNat_ofNat, BitVec.toNat_ofNat, Nat.mod_eq_of_lt ha, Nat.mod_eq_of_lt hb, Nat.mod_eq_of_lt (Nat.and_lt_two_pow _ hb)]
theorem wb_or {a b : Nat} (ha : a < 2 ^ 64) (hb : b < 2 ^ 64) : lN a ||| lN b = lN (a ||| b) := by
  apply wb_inj
  rw [Int64.toBitVec_or, wb_tb, wb_tb, wb_tb]
  apply BitVec.eq_of_toNat_eq
  rw [BitVec.toNat_or, BitVec.toNat_ofNat, BitVec.toNat_ofNat, BitVec.toNat_ofNat, Nat.mod_eq_of_lt ha, Nat.mod_eq_of_lt hb, Nat.mod_eq_of_lt (Nat.or_lt_two_pow ha hb)]
theorem wb_mask {n k : Nat} (hn : n < 2 ^ 64) (hk : k < 64) : lN n &&& lN (2 ^ k - 1) = lN (n % 2 ^ k) := by
  rw [wb_and hn (by have := wb_lt2 hk; omega), Nat.and_two_pow_sub_one_eq_mod]
theorem wb_a1 {n : Nat} (hn : n < 2 ^ 64) : lN n &&& 1 = lN (n % 2) := wb_mask (k := 1) hn (by decide)
theorem wb_bit {n k : Nat} (hn : n < 2 ^ 64) (hk : k < 64) : ((lN n).toUInt64 >>> ((nI k).toInt64.toUInt64 &&& Int64.toUInt64 63)).toInt64 &&& 1 = lN (n / 2 ^ k % 2) := by
  rw [wb_shr hn hk, wb_a1 (Nat.lt_of_le_of_lt (Nat.div_le_self _ _) hn)]
/-- the k-th FIRST number -/
def vF (F k : Nat) : Nat := F / 2 ^ (8 * (k - 1)) % 256
def s_X4_firstOf : Sp := fun av z S I J R Post => ∃ (F k : Nat), av = [.long (lN F), .int (nI k)] ∧ (F < 18446744073709551616) ∧ (1 ≤ k) ∧ (k ≤ 8) ∧ (Post (nI (vF F k)) 0 none z S I J R)
theorem c_X4_firstOf {F k : Nat} {z : Nat} {S : MS} {I : MI} {J : MJ} {R : MR} {Post : PT} (hF : F < 18446744073709551616) (hk1 : 1 ≤ k) (hk : k ≤ 8) (hp : Post (nI (vF F k)) 0 none z S I J R) : s_X4_firstOf [.long (lN F), .int (nI k)] z S I J R Post := ⟨F, k, rfl, hF, hk1, hk, hp⟩
set_option maxRecDepth 100000 in
set_option maxHeartbeats 400000 in
theorem m_X4_firstOf (T : TC) (B : Nat) : Mt T B yX4_firstOf cX4_firstOf 3 (some .int) 1 (rmL 1 0 0) s_X4_firstOf := by
  refine Mt_of rfl (by rintro _ _ _ _ _ _ _ ⟨_, _, rfl, -⟩; exact Nat.le_of_ble_eq_true rfl) ?_
  intro X av z S I J R Post h C Q hI
  obtain ⟨F, k, rfl, hF, hk1, hk, hp⟩ := h
  have h1 : F / 2 ^ (8 * (k - 1)) < 18446744073709551616 := Nat.lt_of_le_of_lt (Nat.div_le_self _ _) hF
  refine v_lload_n C dX4_firstOf_0 rfl ?_
  refine v_bipushN 8 (by decide) C dX4_firstOf_1 ?_
  refine v_iload_n C dX4_firstOf_3 rfl ?_
  refine v_iconstN 1 C dX4_firstOf_4 ?_
  first | refine v_isubN C dX4_firstOf_5 (by omega) ?_ | refine v_isub C dX4_firstOf_5 ?_
  first | refine v_imulN C dX4_firstOf_6 ?_ | refine v_imul C dX4_firstOf_6 ?_
  refine v_lushr C dX4_firstOf_7 ?_
  rw [wb_shr hF (by omega)]
  refine v_ldc2 C dX4_firstOf_8 wt_234 ?_
  refine v_eql (x' := lN 255) (by decide +kernel) ?_
  refine v_land C dX4_firstOf_11 ?_
  rw [show lN (F / 2 ^ (8 * (k - 1))) &&& lN 255 = lN (vF F k) from wb_mask (k := 8) h1 (by decide)]
  first | refine v_l2iN C dX4_firstOf_12 ?_ | refine v_l2i C dX4_firstOf_12 ?_
  refine v_iret C Q dX4_firstOf_13 (Nat.le_of_ble_eq_true rfl) (Nat.le_of_ble_eq_true rfl) ?_
  exact hp
def fFi (F : Nat) (k : Nat) : Bool := decide (vF F (k + 1) % 2 = 1) && decide (vF F (k + 1) < 2 ^ (k + 1))
def s_X4_firstsMayBe : Sp := fun av z S I J R Post => ∃ (q F : Nat), av = [.int (nI q), .long (lN F)] ∧ (F < 18446744073709551616) ∧ (q ≤ 6) ∧ (Post (nI (b2 (allB (fFi F) q))) 0 none z S I J R)
theorem c_X4_firstsMayBe {q F : Nat} {z : Nat} {S : MS} {I : MI} {J : MJ} {R : MR} {Post : PT} (hF : F < 18446744073709551616) (hq : q ≤ 6) (hp : Post (nI (b2 (allB (fFi F) q))) 0 none z S I J R) : s_X4_firstsMayBe [.int (nI q), .long (lN F)] z S I J R Post := ⟨q, F, rfl, hF, hq, hp⟩
set_option maxRecDepth 100000 in
set_option maxHeartbeats 400000 in
theorem m_X4_firstsMayBe (T : TC) (B : Nat) : Mt T B yX4_firstsMayBe cX4_firstsMayBe 5 (some .boolean) 1 (rmL 2 0 0) s_X4_firstsMayBe := by
  refine Mt_of rfl (by rintro _ _ _ _ _ _ _ ⟨_, _, rfl, -⟩; exact Nat.le_of_ble_eq_true rfl) ?_
  intro X av z S I J R Post h C Q hI
  obtain ⟨q, F, rfl, hF, hq, hp⟩ := h
  have loop : ∀ k : Nat, k ≤ q → allB (fFi F) k = true → V X 0 0 z S I J R 2 [some (.int (nI q)), some (.long (lN F)), none, some (.int (nI (k + 1))), none] [] := by
    refine lp_up q ?_
    intro k hk ih hA
    have hv : vF F (k + 1) < 256 := Nat.mod_lt _ (by decide)
    have h2k : 2 ^ (k + 1) ≤ 2 ^ 7 := Nat.pow_le_pow_right (by decide) (by omega)
    refine v_iload_n C dX4_firstsMayBe_2 rfl ?_
    refine v_iload_n C dX4_firstsMayBe_3 rfl ?_
    first | refine v_icmp_gtN C 37 dX4_firstsMayBe_4 (by omega) (by omega) (by decide) (fun h4 => ?_) (fun h4 => ?_) | refine v_icmp_gt C 37 dX4_firstsMayBe_4 (by decide) (fun h4 => ?_) (fun h4 => ?_)
    · refine v_iconstN 1 C dX4_firstsMayBe_37 ?_
      refine v_zret C Q dX4_firstsMayBe_38 (Nat.le_of_ble_eq_true rfl) (Nat.le_of_ble_eq_true rfl) nz_1 ?_
      obtain rfl : k = q := by omega
      rw [hA] at hp; exact hp
    · refine v_lload_n C dX4_firstsMayBe_7 rfl ?_
      refine v_iload_n C dX4_firstsMayBe_8 rfl ?_
      refine v_callS2_1 C (m_X4_firstOf T B) lk_X4_264 wt_232 dX4_firstsMayBe_9 ⟨Nat.le_of_ble_eq_true rfl, Nat.le_of_ble_eq_true rfl⟩ (Nat.le_of_ble_eq_true rfl) ⟨Nat.le_of_ble_eq_true rfl, Nat.le_of_ble_eq_true rfl⟩ ?_
      refine c_X4_firstOf hF (by omega) (by omega) ?_
      refine v_istore C dX4_firstsMayBe_12 (by decide) ?_
      refine v_iload C dX4_firstsMayBe_14 rfl ?_
      refine v_iconstN 2 C dX4_firstsMayBe_16 ?_
      first | refine v_iremN C dX4_firstsMayBe_17 (by omega) (by omega) (by omega) ?_ | refine v_irem C dX4_firstsMayBe_17 (by assumption) ?_
      first | refine v_if_eqN C 29 dX4_firstsMayBe_18 (by omega) (by decide) (fun h18 => ?_) (fun h18 => ?_) | refine v_if_eq C 29 dX4_firstsMayBe_18 (by decide) (fun h18 => ?_) (fun h18 => ?_)
      · refine v_iconstN 0 C dX4_firstsMayBe_29 ?_
        refine v_zret C Q dX4_firstsMayBe_30 (Nat.le_of_ble_eq_true rfl) (Nat.le_of_ble_eq_true rfl) nz_0 ?_
        rw [allB_false (f := fFi F) (j := k) (by omega) (by simp only [fFi, Bool.and_eq_false_iff, decide_eq_false_iff_not]; omega)] at hp; exact hp
      · refine v_iload C dX4_firstsMayBe_21 rfl ?_
        refine v_iconstN 1 C dX4_firstsMayBe_23 ?_
        refine v_iload_n C dX4_firstsMayBe_24 rfl ?_
        first | refine v_ishlN C dX4_firstsMayBe_25 (by omega) (by omega) ?_ | refine v_ishl C dX4_firstsMayBe_25 ?_
        rw [Nat.one_mul]
        first | refine v_icmp_ltN C 31 dX4_firstsMayBe_26 (by omega) (by omega) (by decide) (fun h26 => ?_) (fun h26 => ?_) | refine v_icmp_lt C 31 dX4_firstsMayBe_26 (by decide) (fun h26 => ?_) (fun h26 => ?_)
        · first | refine v_iincN 1 C dX4_firstsMayBe_31 rfl (by decide) ?_ | refine v_iinc C dX4_firstsMayBe_31 rfl rfl (by decide) ?_
          refine v_goto C 2 dX4_firstsMayBe_34 (by decide) ?_
          exact v_less (ih (by omega) (by simp [allB, hA, fFi, show vF F (k + 1) % 2 = 1 by omega, h26])) (by repeat (first | exact trivial | refine And.intro rfl ?_))
        · refine v_iconstN 0 C dX4_firstsMayBe_29 ?_
          refine v_zret C Q dX4_firstsMayBe_30 (Nat.le_of_ble_eq_true rfl) (Nat.le_of_ble_eq_true rfl) nz_0 ?_
          rw [allB_false (f := fFi F) (j := k) (by omega) (by simp only [fFi, Bool.and_eq_false_iff, decide_eq_false_iff_not]; omega)] at hp; exact hp
  refine v_iconstN 1 C dX4_firstsMayBe_0 ?_
  refine v_istore_n C dX4_firstsMayBe_1 (by decide) ?_
  exact loop 0 (Nat.zero_le _) rfl
def dgF (p : Nat) : Nat → Nat
  | 0 => 0
  | i + 1 => if p / 2 ^ (i + 1) % 2 = 1 then i + 1 else dgF p i
theorem dgF_le (p : Nat) : ∀ i, dgF p i ≤ i
  | 0 => Nat.le_refl 0
  | i + 1 => by
    have := dgF_le p i
    simp only [dgF]
    split <;> omega
def s_X4_degree : Sp := fun av z S I J R Post => ∃ (p : Nat), av = [.int (nI p)] ∧ (p < 128) ∧ (Post (nI (dgF p 6)) 0 none z S I J R)
theorem c_X4_degree {p : Nat} {z : Nat} {S : MS} {I : MI} {J : MJ} {R : MR} {Post : PT} (hp7 : p < 128) (hp : Post (nI (dgF p 6)) 0 none z S I J R) : s_X4_degree [.int (nI p)] z S I J R Post := ⟨p, rfl, hp7, hp⟩
set_option maxRecDepth 100000 in
set_option maxHeartbeats 400000 in
theorem m_X4_degree (T : TC) (B : Nat) : Mt T B yX4_degree cX4_degree 3 (some .int) 1 (rmL 1 0 0) s_X4_degree := by
  refine Mt_of rfl (by rintro _ _ _ _ _ _ _ ⟨_, rfl, -⟩; exact Nat.le_of_ble_eq_true rfl) ?_
  intro X av z S I J R Post h C Q hI
  obtain ⟨p, rfl, hp7, hp⟩ := h
  have loop : ∀ i : Nat, i ≤ 6 → V X 0 0 z S I J R 4 [some (.int (nI p)), some (.int (nI (dgF p i))), some (.int (nI (i + 1)))] [] := by
    refine lp_up 6 ?_
    intro i hi ih
    refine v_iload_n C dX4_degree_4 rfl ?_
    refine v_bipushN 6 (by decide) C dX4_degree_5 ?_
    first | refine v_icmp_gtN C 27 dX4_degree_7 (by omega) (by omega) (by decide) (fun h7 => ?_) (fun h7 => ?_) | refine v_icmp_gt C 27 dX4_degree_7 (by decide) (fun h7 => ?_) (fun h7 => ?_)
    · refine v_iload_n C dX4_degree_27 rfl ?_
      refine v_iret C Q dX4_degree_28 (Nat.le_of_ble_eq_true rfl) (Nat.le_of_ble_eq_true rfl) ?_
      obtain rfl : i = 6 := by omega
      exact hp
    · refine v_iload_n C dX4_degree_10 rfl ?_
      refine v_iload_n C dX4_degree_11 rfl ?_
      first | refine v_ishrN C dX4_degree_12 (by omega) (by omega) ?_ | refine v_ishr C dX4_degree_12 ?_
      refine v_iconstN 1 C dX4_degree_13 ?_
      first | refine v_iandN C dX4_degree_14 ?_ | refine v_iand C dX4_degree_14 ?_
      rw [show p / 2 ^ (i + 1) &&& 1 = p / 2 ^ (i + 1) % 2 from Nat.and_one_is_mod _]
      refine v_iconstN 1 C dX4_degree_15 ?_
      first | refine v_icmp_neN C 21 dX4_degree_16 (by omega) (by omega) (by decide) (fun h16 => ?_) (fun h16 => ?_) | refine v_icmp_ne C 21 dX4_degree_16 (by decide) (fun h16 => ?_) (fun h16 => ?_)
      · first | refine v_iincN 1 C dX4_degree_21 rfl (by decide) ?_ | refine v_iinc C dX4_degree_21 rfl rfl (by decide) ?_
        refine v_goto C 4 dX4_degree_24 (by decide) ?_
        have hh := ih (by omega)
        simp only [dgF] at hh
        first | (rw [if_neg h16] at hh; exact v_less hh (by repeat (first | exact trivial | refine And.intro rfl ?_))) | (rw [if_pos h16] at hh; exact v_less hh (by repeat (first | exact trivial | refine And.intro rfl ?_)))
      · refine v_iload_n C dX4_degree_19 rfl ?_
        refine v_istore_n C dX4_degree_20 (by decide) ?_
        first | refine v_iincN 1 C dX4_degree_21 rfl (by decide) ?_ | refine v_iinc C dX4_degree_21 rfl rfl (by decide) ?_
        refine v_goto C 4 dX4_degree_24 (by decide) ?_
        have hh := ih (by omega)
        simp only [dgF] at hh
        first | (rw [if_neg h16] at hh; exact v_less hh (by repeat (first | exact trivial | refine And.intro rfl ?_))) | (rw [if_pos h16] at hh; exact v_less hh (by repeat (first | exact trivial | refine And.intro rfl ?_)))
  refine v_iconstN 0 C dX4_degree_0 ?_
  refine v_istore_n C dX4_degree_1 (by decide) ?_
  refine v_iconstN 1 C dX4_degree_2 ?_
  refine v_istore_n C dX4_degree_3 (by decide) ?_
  exact loop 0 (Nat.zero_le _)
/-- the numbers of a DIRECTION, as they are made one after the other -/
def xf (t : Nat → Nat) (p q k : Nat) : Nat → Nat
  | 0 => t (k - q) ^^^ t (k - q) * 2 ^ q
  | m + 1 => xf t p q k m ^^^ p / 2 ^ (q - (m + 1)) % 2 * (t (k - (m + 1)) * 2 ^ (m + 1))
def rnV (F p q : Nat) (t : Nat → Nat) (k : Nat) : Nat := if k ≤ q then vF F k else xf t p q k (q - 1)
def rnT (F p q : Nat) : Nat → Nat → Nat
  | 0 => fun _ => 0
  | k + 1 => va_up (rnT F p q k) (k + 1) (rnV F p q (rnT F p q k) (k + 1))
theorem xf_lt {t : Nat → Nat} {p q k : Nat} (hq : 1 ≤ q) (hqk : q < k) (ht : ∀ i, i < k → t i < 2 ^ i) : ∀ m, m ≤ q - 1 → xf t p q k m < 2 ^ k
  | 0, _ => by
    have h1 := ht (k - q) (by omega)
    have h2 : (2 : Nat) ^ k = 2 ^ (k - q) * 2 ^ q := by rw [← Nat.pow_add]; congr 1; omega
    have h3 : t (k - q) * 2 ^ q < 2 ^ k := by rw [h2]; exact Nat.mul_lt_mul_of_pos_right h1 (Nat.two_pow_pos q)
    have h4 : t (k - q) < 2 ^ k := Nat.lt_of_lt_of_le h1 (Nat.pow_le_pow_right (by decide) (by omega))
    exact Nat.xor_lt_two_pow h4 h3
  | m + 1, hm => by
    have ih := xf_lt (p := p) hq hqk ht m (by omega)
    have h1 := ht (k - (m + 1)) (by omega)
    have h2 : (2 : Nat) ^ k = 2 ^ (k - (m + 1)) * 2 ^ (m + 1) := by rw [← Nat.pow_add]; congr 1; omega
    have h3 : t (k - (m + 1)) * 2 ^ (m + 1) < 2 ^ k := by rw [h2]; exact Nat.mul_lt_mul_of_pos_right h1 (Nat.two_pow_pos _)
    have h4 : p / 2 ^ (q - (m + 1)) % 2 * (t (k - (m + 1)) * 2 ^ (m + 1)) < 2 ^ k := by
      rcases Nat.mod_two_eq_zero_or_one (p / 2 ^ (q - (m + 1))) with e | e
      · rw [e, Nat.zero_mul]; exact Nat.two_pow_pos k
      · rw [e, Nat.one_mul]; exact h3
    exact Nat.xor_lt_two_pow ih h4
theorem rnT_lt {F p q : Nat} (hq : 1 ≤ q) (hF : ∀ k, 1 ≤ k → k ≤ q → vF F k < 2 ^ k) : ∀ k i, rnT F p q k i < 2 ^ i
  | 0, i => Nat.two_pow_pos i
  | k + 1, i => by
    have ih := rnT_lt (p := p) hq hF k
    simp only [rnT]
    by_cases e : i = k + 1
    · subst e
      rw [va_up_self]
      simp only [rnV]
      by_cases e2 : k + 1 ≤ q
      · rw [if_pos e2]; exact hF (k + 1) (by omega) e2
      · rw [if_neg e2]; exact xf_lt hq (by omega) (fun i _ => ih i) (q - 1) (Nat.le_refl _)
    · rw [va_up_ne _ _ e]; exact ih i
