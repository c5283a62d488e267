/-- places lo .. hi - 1 of the row b filled with v -/
def mfl (I : MI) (b lo hi : Nat) (v : Int32) : MI := fun q k => if q = b ∧ lo ≤ k ∧ k < hi then v else I q k
theorem mfl_0 (I : MI) (b lo : Nat) (v : Int32) : mfl I b lo lo v = I := by
  funext q k
  simp only [mfl]
  rw [if_neg (by omega)]
theorem mfl_s {I : MI} {b lo i : Nat} {v : Int32} (h : lo ≤ i) : mu (mfl I b lo i v) b i v = mfl I b lo (i + 1) v := by
  funext q k
  simp only [mu, mfl]
  by_cases e : q = b ∧ k = i
  · rw [if_pos e, if_pos (by omega)]
  · rw [if_neg e]
    by_cases e2 : q = b ∧ lo ≤ k ∧ k < i
    · rw [if_pos e2, if_pos (by omega)]
    · rw [if_neg e2, if_neg (by omega)]
theorem mfl_in {I : MI} {b lo hi k : Nat} {v : Int32} (h1 : lo ≤ k) (h2 : k < hi) : mfl I b lo hi v b k = v := by simp [mfl, h1, h2]
theorem mfl_ne {I : MI} {b lo hi q k : Nat} {v : Int32} (h : q ≠ b) : mfl I b lo hi v q k = I q k := by simp [mfl, h]
def s_J7_fill_53178 : Sp := fun av z S I J R Post => ∃ (b n : Nat), ∃ (v : Int32), av = [.ref b, .int v] ∧ (S b = (7, n)) ∧ (n < 100000) ∧ (Post 0 0 none z S (mfl I b 0 n v) J R)
theorem c_J7_fill_53178 {b n : Nat} {v : Int32} {z : Nat} {S : MS} {I : MI} {J : MJ} {R : MR} {Post : PT} (hs : S b = (7, n)) (hn : n < 100000) (hp : Post 0 0 none z S (mfl I b 0 n v) J R) : s_J7_fill_53178 [.ref b, .int v] z S I J R Post := ⟨b, n, v, rfl, hs, hn, hp⟩
set_option maxRecDepth 100000 in
set_option maxHeartbeats 400000 in
theorem m_J7_fill_53178 (T : TC) (B : Nat) : Mt T B yJ7_fill_53178 cJ7_fill_53178 4 none 0 (rmL 1 0 0) s_J7_fill_53178 := by
  refine Mt_of rfl (by rintro _ _ _ _ _ _ _ ⟨_, _, _, rfl, -⟩; exact Nat.le_of_ble_eq_true rfl) ?_
  intro X av z S I J R Post h C Q hI
  obtain ⟨b, n, v, rfl, hs, hn, hp⟩ := h
  have loop : ∀ i : Nat, i ≤ n → V X 0 0 z S (mfl I b 0 i v) J R 5 [some (.ref b), some (.int v), some (.int (nI i)), some (.int (nI n))] [] := by
    refine lp_up n ?_
    intro i hi ih
    refine v_iload_n C dJ7_fill_53178_5 rfl ?_
    refine v_iload_n C dJ7_fill_53178_6 rfl ?_
    first | refine v_icmp_geN C 20 dJ7_fill_53178_7 (by omega) (by omega) (by decide) (fun h7 => ?_) (fun h7 => ?_) | refine v_icmp_ge C 20 dJ7_fill_53178_7 (by decide) (fun h7 => ?_) (fun h7 => ?_)
    · refine v_ret C Q dJ7_fill_53178_20 (Nat.le_of_ble_eq_true rfl) (Nat.le_of_ble_eq_true rfl) ?_
      obtain rfl : i = n := by omega
      exact hp
    · refine v_aload_n C dJ7_fill_53178_10 rfl ?_
      refine v_iload_n C dJ7_fill_53178_11 rfl ?_
      refine v_iload_n C dJ7_fill_53178_12 rfl ?_
      first | refine v_iastN C (by assumption) (by omega) (by omega) dJ7_fill_53178_13 ?_ | refine v_iast C (by assumption) (by assumption) dJ7_fill_53178_13 ?_
      rw [mfl_s (Nat.zero_le _)]
      first | refine v_iincN 1 C dJ7_fill_53178_14 rfl (by decide) ?_ | refine v_iinc C dJ7_fill_53178_14 rfl rfl (by decide) ?_
      refine v_goto C 5 dJ7_fill_53178_17 (by decide) ?_
      exact v_less (ih h7) (by repeat (first | exact trivial | refine And.intro rfl ?_))
  refine v_iconstN 0 C dJ7_fill_53178_0 ?_
  refine v_istore_n C dJ7_fill_53178_1 (by decide) ?_
  refine v_aload_n C dJ7_fill_53178_2 rfl ?_
  refine v_alen C (by assumption) dJ7_fill_53178_3 ?_
  refine v_istore_n C dJ7_fill_53178_4 (by decide) ?_
  have := loop 0 (Nat.zero_le _)
  rw [mfl_0] at this
  exact this
def s_J7_rangeCheck_23922 : Sp := fun av z S I J R Post => ∃ (n lo hi : Nat), av = [.int (nI n), .int (nI lo), .int (nI hi)] ∧ (lo ≤ hi) ∧ (hi ≤ n) ∧ (n < 100000) ∧ (Post 0 0 none z S I J R)
theorem c_J7_rangeCheck_23922 {n lo hi : Nat} {z : Nat} {S : MS} {I : MI} {J : MJ} {R : MR} {Post : PT} (h1 : lo ≤ hi) (h2 : hi ≤ n) (hn : n < 100000) (hp : Post 0 0 none z S I J R) : s_J7_rangeCheck_23922 [.int (nI n), .int (nI lo), .int (nI hi)] z S I J R Post := ⟨n, lo, hi, rfl, h1, h2, hn, hp⟩
set_option maxRecDepth 100000 in
set_option maxHeartbeats 400000 in
theorem m_J7_rangeCheck_23922 (T : TC) (B : Nat) : Mt T B yJ7_rangeCheck_23922 cJ7_rangeCheck_23922 3 none 0 (rmL 1 0 0) s_J7_rangeCheck_23922 := by
  refine Mt_of rfl (by rintro _ _ _ _ _ _ _ ⟨_, _, _, rfl, -⟩; exact Nat.le_of_ble_eq_true rfl) ?_
  intro X av z S I J R Post h C Q hI
  obtain ⟨n, lo, hi, rfl, h1, h2, hn, hp⟩ := h
  refine v_iload_n C dJ7_rangeCheck_23922_0 rfl ?_
  refine v_iload_n C dJ7_rangeCheck_23922_1 rfl ?_
  first | refine v_icmp_leN C 46 dJ7_rangeCheck_23922_2 (by omega) (by omega) (by decide) (fun h2 => ?_) (fun h2 => ?_) | refine v_icmp_le C 46 dJ7_rangeCheck_23922_2 (by decide) (fun h2 => ?_) (fun h2 => ?_)
  · refine v_iload_n C dJ7_rangeCheck_23922_46 rfl ?_
    first | refine v_if_geN C 59 dJ7_rangeCheck_23922_47 (by omega) (by decide) (fun h47 => ?_) (fun h47 => ?_) | refine v_if_ge C 59 dJ7_rangeCheck_23922_47 (by decide) (fun h47 => ?_) (fun h47 => ?_)
    · refine v_iload_n C dJ7_rangeCheck_23922_59 rfl ?_
      refine v_iload_n C dJ7_rangeCheck_23922_60 rfl ?_
      first | refine v_icmp_leN C 73 dJ7_rangeCheck_23922_61 (by omega) (by omega) (by decide) (fun h61 => ?_) (fun h61 => ?_) | refine v_icmp_le C 73 dJ7_rangeCheck_23922_61 (by decide) (fun h61 => ?_) (fun h61 => ?_)
      · refine v_ret C Q dJ7_rangeCheck_23922_73 (Nat.le_of_ble_eq_true rfl) (Nat.le_of_ble_eq_true rfl) ?_
        exact hp
      · exact absurd h61 (by omega)
    · exact absurd h47 (fun q => q)
  · exact absurd h2 (by omega)
def s_J7_fill_fda19 : Sp := fun av z S I J R Post => ∃ (b n lo hi : Nat), ∃ (v : Int32), av = [.ref b, .int (nI lo), .int (nI hi), .int v] ∧ (S b = (7, n)) ∧ (lo ≤ hi) ∧ (hi ≤ n) ∧ (n < 100000) ∧ (Post 0 0 none z S (mfl I b lo hi v) J R)
theorem c_J7_fill_fda19 {b n lo hi : Nat} {v : Int32} {z : Nat} {S : MS} {I : MI} {J : MJ} {R : MR} {Post : PT} (hs : S b = (7, n)) (h1 : lo ≤ hi) (h2 : hi ≤ n) (hn : n < 100000) (hp : Post 0 0 none z S (mfl I b lo hi v) J R) : s_J7_fill_fda19 [.ref b, .int (nI lo), .int (nI hi), .int v] z S I J R Post := ⟨b, n, lo, hi, v, rfl, hs, h1, h2, hn, hp⟩
set_option maxRecDepth 100000 in
set_option maxHeartbeats 400000 in
theorem m_J7_fill_fda19 (T : TC) (B : Nat) : Mt T B yJ7_fill_fda19 cJ7_fill_fda19 5 none 0 (rmL 2 0 0) s_J7_fill_fda19 := by
  refine Mt_of rfl (by rintro _ _ _ _ _ _ _ ⟨_, _, _, _, _, rfl, -⟩; exact Nat.le_of_ble_eq_true rfl) ?_
  intro X av z S I J R Post h C Q hI
  obtain ⟨b, n, lo, hi, v, rfl, hs, h1, h2, hn, hp⟩ := h
  have loop : ∀ i : Nat, i ≤ hi → lo ≤ i → V X 0 0 z S (mfl I b lo i v) J R 10 [some (.ref b), some (.int (nI lo)), some (.int (nI hi)), some (.int v), some (.int (nI i))] [] := by
    refine lp_up hi ?_
    intro i hii ih hl
    refine v_iload C dJ7_fill_fda19_10 rfl ?_
    refine v_iload_n C dJ7_fill_fda19_12 rfl ?_
    first | refine v_icmp_geN C 27 dJ7_fill_fda19_13 (by omega) (by omega) (by decide) (fun h13 => ?_) (fun h13 => ?_) | refine v_icmp_ge C 27 dJ7_fill_fda19_13 (by decide) (fun h13 => ?_) (fun h13 => ?_)
    · refine v_ret C Q dJ7_fill_fda19_27 (Nat.le_of_ble_eq_true rfl) (Nat.le_of_ble_eq_true rfl) ?_
      obtain rfl : i = hi := by omega
      exact hp
    · refine v_aload_n C dJ7_fill_fda19_16 rfl ?_
      refine v_iload C dJ7_fill_fda19_17 rfl ?_
      refine v_iload_n C dJ7_fill_fda19_19 rfl ?_
      first | refine v_iastN C (by assumption) (by omega) (by omega) dJ7_fill_fda19_20 ?_ | refine v_iast C (by assumption) (by assumption) dJ7_fill_fda19_20 ?_
      rw [mfl_s hl]
      first | refine v_iincN 1 C dJ7_fill_fda19_21 rfl (by decide) ?_ | refine v_iinc C dJ7_fill_fda19_21 rfl rfl (by decide) ?_
      refine v_goto C 10 dJ7_fill_fda19_24 (by decide) ?_
      exact v_less (ih h13 (by omega)) (by repeat (first | exact trivial | refine And.intro rfl ?_))
  refine v_aload_n C dJ7_fill_fda19_0 rfl ?_
  refine v_alen C (by assumption) dJ7_fill_fda19_1 ?_
  refine v_iload_n C dJ7_fill_fda19_2 rfl ?_
  refine v_iload_n C dJ7_fill_fda19_3 rfl ?_
  refine v_callS3_0 C (m_J7_rangeCheck_23922 T B) lk_J7_13 wt_360 dJ7_fill_fda19_4 ⟨Nat.le_of_ble_eq_true rfl, Nat.le_of_ble_eq_true rfl⟩ (Nat.le_of_ble_eq_true rfl) ⟨Nat.le_of_ble_eq_true rfl, Nat.le_of_ble_eq_true rfl⟩ ?_
  refine c_J7_rangeCheck_23922 h1 h2 hn ?_
  refine v_iload_n C dJ7_fill_fda19_7 rfl ?_
  refine v_istore C dJ7_fill_fda19_8 (by decide) ?_
  have := loop lo h1 (Nat.le_refl _)
  rw [mfl_0] at this
  exact this
