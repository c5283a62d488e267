def s_X2_rungNumbers : Sp := fun av z S I J R Post => ∃ (F p q : Nat), av = [.int (nI p), .int (nI q), .long (lN F)] ∧ (F < 18446744073709551616) ∧ (p < 128) ∧ (1 ≤ q) ∧ (q ≤ 6) ∧ (∀ k, 1 ≤ k → k ≤ q → vF F k < 2 ^ k) ∧ (∀ I' : MI, (∀ b k, b ≠ z → I' b k = I b k) → (∀ i, i < 9 → I' z i = nI (rnT F p q 8 i)) → Post 0 0 (some z) (z + 1) (su S z 7 9) I' J R)
theorem c_X2_rungNumbers {F p q : Nat} {z : Nat} {S : MS} {I : MI} {J : MJ} {R : MR} {Post : PT} (hF : F < 18446744073709551616) (hp7 : p < 128) (hq1 : 1 ≤ q) (hq6 : q ≤ 6) (hv : ∀ k, 1 ≤ k → k ≤ q → vF F k < 2 ^ k) (hp : ∀ I' : MI, (∀ b k, b ≠ z → I' b k = I b k) → (∀ i, i < 9 → I' z i = nI (rnT F p q 8 i)) → Post 0 0 (some z) (z + 1) (su S z 7 9) I' J R) : s_X2_rungNumbers [.int (nI p), .int (nI q), .long (lN F)] z S I J R Post := ⟨F, p, q, rfl, hF, hp7, hq1, hq6, hv, hp⟩
set_option maxRecDepth 100000 in
set_option maxHeartbeats 400000 in
theorem m_X2_rungNumbers (T : TC) (B : Nat) : Mt T B yX2_rungNumbers cX2_rungNumbers 9 (some (.array .int)) 3 (rmL 2 1 9) s_X2_rungNumbers := by
  refine Mt_of rfl (by rintro _ _ _ _ _ _ _ ⟨_, _, _, rfl, -⟩; exact Nat.le_of_ble_eq_true rfl) ?_
  intro X av z S I J R Post h C Q hI
  obtain ⟨F, p, q, rfl, hF, hp7, hq1, hq6, hv, hp⟩ := h
  have hz := su_at S z 7 9
  have upd : ∀ (k x : Nat) (I' : MI), k < 8 → (∀ i, i < 9 → I' z i = nI (rnT F p q k i)) → x = rnV F p q (rnT F p q k) (k + 1) → ∀ i, i < 9 → mu I' z (k + 1) (nI x) z i = nI (rnT F p q (k + 1) i) := by
    intro k x I' hk hI hx i hi
    simp only [rnT]
    by_cases e : i = k + 1
    · subst e; rw [mu_at, va_up_self, hx]
    · rw [mu_other _ _ (by omega), va_up_ne _ _ e]; exact hI i hi
  have inner : ∀ k : Nat, k < 8 → ¬ k + 1 ≤ q → ∀ m : Nat, m ≤ q - 1 → ∀ I' : MI, (∀ b k, b ≠ z → I' b k = I b k) → (∀ i, i < 9 → I' z i = nI (rnT F p q k i)) →
      (∀ I' : MI, (∀ b k, b ≠ z → I' b k = I b k) → (∀ i, i < 9 → I' z i = nI (rnT F p q (k + 1) i)) → V X (0 + 1) (0 + 9) (z + 1) (su S z 7 9) I' J R 9 [some (.int (nI p)), some (.int (nI q)), some (.long (lN F)), none, some (.ref z), some (.int (nI (k + 1 + 1))), none, none, none] []) →
      V X (0 + 1) (0 + 9) (z + 1) (su S z 7 9) I' J R 57 [some (.int (nI p)), some (.int (nI q)), some (.long (lN F)), none, some (.ref z), some (.int (nI (k + 1))), none, some (.int (nI (xf (rnT F p q k) p q (k + 1) m))), some (.int (nI (m + 1)))] [] := by
    intro k hk hkq
    refine lp_up (q - 1) ?_
    intro m hm ih I' hFr hI K
    have hlt := rnT_lt (p := p) hq1 hv k
    have hl1 := hlt (k + 1 - (m + 1))
    have h28 : 2 ^ (k + 1 - (m + 1)) ≤ 2 ^ 8 := Nat.pow_le_pow_right (by decide) (by omega)
    have h26 : 2 ^ (m + 1) ≤ 2 ^ 6 := Nat.pow_le_pow_right (by decide) (by omega)
    have hmul : rnT F p q k (k + 1 - (m + 1)) * 2 ^ (m + 1) < 4294967296 := Nat.lt_of_le_of_lt (Nat.mul_le_mul (show _ ≤ 256 by omega) (show _ ≤ 64 by omega)) (by decide)
    refine v_iload C dX2_rungNumbers_57 rfl ?_
    refine v_iload_n C dX2_rungNumbers_59 rfl ?_
    first | refine v_icmp_geN C 94 dX2_rungNumbers_60 (by omega) (by omega) (by decide) (fun h60 => ?_) (fun h60 => ?_) | refine v_icmp_ge C 94 dX2_rungNumbers_60 (by decide) (fun h60 => ?_) (fun h60 => ?_)
    · refine v_aload C dX2_rungNumbers_94 rfl ?_
      refine v_iload C dX2_rungNumbers_96 rfl ?_
      refine v_iload C dX2_rungNumbers_98 rfl ?_
      first | refine v_iastN C (by assumption) (by omega) (by omega) dX2_rungNumbers_100 ?_ | refine v_iast C (by assumption) (by assumption) dX2_rungNumbers_100 ?_
      first | refine v_iincN 1 C dX2_rungNumbers_101 rfl (by decide) ?_ | refine v_iinc C dX2_rungNumbers_101 rfl rfl (by decide) ?_
      refine v_goto C 9 dX2_rungNumbers_104 (by decide) ?_
      obtain rfl : m = q - 1 := by omega
      exact v_less (K _ (fun b k hb => by rw [mu_ne _ _ hb]; exact hFr b k hb) (upd k _ I' hk hI (by simp only [rnV]; rw [if_neg hkq]))) (by repeat (first | exact trivial | refine And.intro rfl ?_))
    · refine v_iload C dX2_rungNumbers_63 rfl ?_
      refine v_iload_n C dX2_rungNumbers_65 rfl ?_
      refine v_iload_n C dX2_rungNumbers_66 rfl ?_
      refine v_iload C dX2_rungNumbers_67 rfl ?_
      first | refine v_isubN C dX2_rungNumbers_69 (by omega) ?_ | refine v_isub C dX2_rungNumbers_69 ?_
      first | refine v_ishrN C dX2_rungNumbers_70 (by omega) (by omega) ?_ | refine v_ishr C dX2_rungNumbers_70 ?_
      refine v_iconstN 1 C dX2_rungNumbers_71 ?_
      skip
      first | refine v_iandN C dX2_rungNumbers_72 ?_ | refine v_iand C dX2_rungNumbers_72 ?_
      rw [show p / 2 ^ (q - (m + 1)) &&& 1 = p / 2 ^ (q - (m + 1)) % 2 from Nat.and_one_is_mod _]
      refine v_aload C dX2_rungNumbers_73 rfl ?_
      refine v_iload C dX2_rungNumbers_75 rfl ?_
      refine v_iload C dX2_rungNumbers_77 rfl ?_
      first | refine v_isubN C dX2_rungNumbers_79 (by omega) ?_ | refine v_isub C dX2_rungNumbers_79 ?_
      first | refine v_ialdN C (by assumption) (by omega) (by omega) dX2_rungNumbers_80 ?_ | refine v_iald C (by assumption) (by assumption) dX2_rungNumbers_80 ?_
      rw [hI _ (by omega)]
      refine v_iload C dX2_rungNumbers_81 rfl ?_
      first | refine v_ishlN C dX2_rungNumbers_83 (by omega) hmul ?_ | refine v_ishl C dX2_rungNumbers_83 ?_
      first | refine v_imulN C dX2_rungNumbers_84 ?_ | refine v_imul C dX2_rungNumbers_84 ?_
      first | refine v_ixorN C dX2_rungNumbers_85 ?_ | refine v_ixor C dX2_rungNumbers_85 ?_
      refine v_istore C dX2_rungNumbers_86 (by decide) ?_
      first | refine v_iincN 1 C dX2_rungNumbers_88 rfl (by decide) ?_ | refine v_iinc C dX2_rungNumbers_88 rfl rfl (by decide) ?_
      refine v_goto C 57 dX2_rungNumbers_91 (by decide) ?_
      exact v_less (ih (by omega) I' hFr hI K) (by repeat (first | exact trivial | refine And.intro rfl ?_))
  have loop : ∀ k : Nat, k ≤ 8 → ∀ I' : MI, (∀ b k, b ≠ z → I' b k = I b k) → (∀ i, i < 9 → I' z i = nI (rnT F p q k i)) → V X (0 + 1) (0 + 9) (z + 1) (su S z 7 9) I' J R 9 [some (.int (nI p)), some (.int (nI q)), some (.long (lN F)), none, some (.ref z), some (.int (nI (k + 1))), none, none, none] [] := by
    refine lp_up 8 ?_
    intro k hk ih I' hFr hI
    have hlt := rnT_lt (p := p) hq1 hv k (k + 1 - q)
    have h28 : 2 ^ (k + 1 - q) ≤ 2 ^ 8 := Nat.pow_le_pow_right (by decide) (by omega)
    have h26 : 2 ^ q ≤ 2 ^ 6 := Nat.pow_le_pow_right (by decide) hq6
    have hmul : rnT F p q k (k + 1 - q) * 2 ^ q < 4294967296 := Nat.lt_of_le_of_lt (Nat.mul_le_mul (show _ ≤ 256 by omega) (show _ ≤ 64 by omega)) (by decide)
    refine v_iload C dX2_rungNumbers_9 rfl ?_
    refine v_bipushN 8 (by decide) C dX2_rungNumbers_11 ?_
    first | refine v_icmp_gtN C 107 dX2_rungNumbers_13 (by omega) (by omega) (by decide) (fun h13 => ?_) (fun h13 => ?_) | refine v_icmp_gt C 107 dX2_rungNumbers_13 (by decide) (fun h13 => ?_) (fun h13 => ?_)
    · refine v_aload C dX2_rungNumbers_107 rfl ?_
      exact v_aret (r := some z) C Q dX2_rungNumbers_109 (Nat.le_of_ble_eq_true rfl) (Nat.le_of_ble_eq_true rfl) (Or.inr ⟨_, rfl⟩) (by
        obtain rfl : k = 8 := by omega
        exact hp I' hFr hI)
    · refine v_iload C dX2_rungNumbers_16 rfl ?_
      refine v_iload_n C dX2_rungNumbers_18 rfl ?_
      first | refine v_icmp_gtN C 36 dX2_rungNumbers_19 (by omega) (by omega) (by decide) (fun h19 => ?_) (fun h19 => ?_) | refine v_icmp_gt C 36 dX2_rungNumbers_19 (by decide) (fun h19 => ?_) (fun h19 => ?_)
      · refine v_aload C dX2_rungNumbers_36 rfl ?_
        refine v_iload C dX2_rungNumbers_38 rfl ?_
        refine v_iload_n C dX2_rungNumbers_40 rfl ?_
        first | refine v_isubN C dX2_rungNumbers_41 (by omega) ?_ | refine v_isub C dX2_rungNumbers_41 ?_
        first | refine v_ialdN C (by assumption) (by omega) (by omega) dX2_rungNumbers_42 ?_ | refine v_iald C (by assumption) (by assumption) dX2_rungNumbers_42 ?_
        rw [hI _ (by omega)]
        refine v_istore C dX2_rungNumbers_43 (by decide) ?_
        refine v_iload C dX2_rungNumbers_45 rfl ?_
        refine v_iload C dX2_rungNumbers_47 rfl ?_
        refine v_iload_n C dX2_rungNumbers_49 rfl ?_
        first | refine v_ishlN C dX2_rungNumbers_50 (by omega) hmul ?_ | refine v_ishl C dX2_rungNumbers_50 ?_
        first | refine v_ixorN C dX2_rungNumbers_51 ?_ | refine v_ixor C dX2_rungNumbers_51 ?_
        refine v_istore C dX2_rungNumbers_52 (by decide) ?_
        refine v_iconstN 1 C dX2_rungNumbers_54 ?_
        refine v_istore C dX2_rungNumbers_55 (by decide) ?_
        exact v_less (inner k (by omega) (by omega) 0 (Nat.zero_le _) I' hFr hI (ih (by omega))) (by repeat (first | exact trivial | refine And.intro rfl ?_))
      · refine v_aload C dX2_rungNumbers_22 rfl ?_
        refine v_iload C dX2_rungNumbers_24 rfl ?_
        refine v_lload_n C dX2_rungNumbers_26 rfl ?_
        refine v_iload C dX2_rungNumbers_27 rfl ?_
        refine v_callSN2_1 C (m_X4_firstOf T B) (fun _ h => h.2.2.2.2.2.2.1) lk_X2_77 wt_232 dX2_rungNumbers_29 ⟨Nat.le_of_ble_eq_true rfl, Nat.le_of_ble_eq_true rfl⟩ (Nat.le_of_ble_eq_true rfl) ⟨Nat.le_of_ble_eq_true rfl, Nat.le_of_ble_eq_true rfl⟩ ?_
        refine c_X4_firstOf hF (by omega) (by omega) ?_
        first | refine v_iastN C (by assumption) (by omega) (by omega) dX2_rungNumbers_32 ?_ | refine v_iast C (by assumption) (by assumption) dX2_rungNumbers_32 ?_
        refine v_goto C 101 dX2_rungNumbers_33 (by decide) ?_
        first | refine v_iincN 1 C dX2_rungNumbers_101 rfl (by decide) ?_ | refine v_iinc C dX2_rungNumbers_101 rfl rfl (by decide) ?_
        refine v_goto C 9 dX2_rungNumbers_104 (by decide) ?_
        exact v_less (ih (by omega) _ (fun b k hb => by rw [mu_ne _ _ hb]; exact hFr b k hb) (upd k _ I' (by omega) hI (by simp only [rnV]; rw [if_pos h19]))) (by repeat (first | exact trivial | refine And.intro rfl ?_))
  refine v_bipushN 9 (by decide) C dX2_rungNumbers_0 ?_
  refine v_newI C (by omega) (by decide) (by decide) dX2_rungNumbers_2 ?_
  refine v_astore C dX2_rungNumbers_4 (by decide) ?_
  refine v_iconstN 1 C dX2_rungNumbers_6 ?_
  refine v_istore C dX2_rungNumbers_7 (by decide) ?_
  exact v_less (loop 0 (Nat.zero_le _) _ (fun b k hb => by rw [mz_ne _ _ hb]) (fun i _ => by rw [mz_at]; rfl)) (by repeat (first | exact trivial | refine And.intro rfl ?_))
