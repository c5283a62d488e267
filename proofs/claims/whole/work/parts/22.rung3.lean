section VLT
variable {X : CX} {kc ks z : Nat} {S : MS} {I : MI} {J : MJ} {R : MR} {pc : Nat} {lv : List (Option Value)} {st : List Value}
/-- a cell that is there lies below the next new one -/
theorem v_lt {a : Nat} (h : (S a).1 ≠ 0) (k : a < z → V X kc ks z S I J R pc lv st) : V X kc ks z S I J R pc lv st := by
  obtain ⟨p, l, e, Rm, s, m, args, below, meth, c, nL, T, B, Q⟩ := X
  intro H locs ls hR hS hl
  have hlt := ((hR.2.2 a h).2).lt
  have hz : H.size = z := hR.1
  exact k (by rw [← hz]; exact hlt) H locs ls hR hS hl
end VLT
/-- ROW i of the numbers v, n of them looked at -/
def rB (v : Nat → Nat) (i : Nat) : Nat → Nat
  | 0 => 0
  | n + 1 => rB v i n ||| v (i + 1 + n) / 2 ^ n % 2 * 2 ^ (i + n)
theorem rB_lt (v : Nat → Nat) (i : Nat) : ∀ n, rB v i n < 2 ^ (i + n)
  | 0 => Nat.two_pow_pos _
  | n + 1 => by
    have ih := rB_lt v i n
    have h1 : (2 : Nat) ^ (i + (n + 1)) = 2 * 2 ^ (i + n) := by rw [← Nat.add_assoc, Nat.pow_succ]; omega
    refine Nat.or_lt_two_pow (by omega) ?_
    rcases Nat.mod_two_eq_zero_or_one (v (i + 1 + n) / 2 ^ n) with e | e <;> rw [e]
    · rw [Nat.zero_mul]; exact Nat.two_pow_pos _
    · rw [Nat.one_mul, h1]; have := Nat.two_pow_pos (i + n); omega
def FrA (I I' : MI) (a d c w z : Nat) : Prop := ∀ q k, ¬ (q = a + 1 ∧ d * 8 ≤ k ∧ k < d * 8 + w) → ¬ (q = a ∧ k = 3) → ¬ (q = a + 4 ∧ d * c ≤ k ∧ k < d * c + c) → q ≠ z → I' q k = I q k
def s_X2_addRung : Sp := fun av z S I J R Post => ∃ (a c w d mk F p q : Nat), av = [.ref a, .int (nI p), .int (nI q), .long (lN F)] ∧ (ScS S R a c) ∧ (I a 1 = nI w) ∧ (I a 2 = nI c) ∧ (w ≤ 8) ∧ (c = 2 ^ w) ∧ (I a 3 = nI d) ∧ (d < 6) ∧ (I (a + 2) d = nI mk) ∧ (F < 18446744073709551616) ∧ (p < 128) ∧ (1 ≤ q) ∧ (q ≤ 6) ∧ (∀ k, 1 ≤ k → k ≤ q → vF F k < 2 ^ k) ∧ (∀ I' : MI, FrA I I' a d c w z → I' a 3 = nI (d + 1) → (∀ i, i < w → I' (a + 1) (d * 8 + i) = nI (rB (rnT F p q 8) i (w - i))) → (∀ n, n < c → I' (a + 4) (d * c + n) = nI (pm (fun i => rB (rnT F p q 8) i (w - i)) w n ^^^ mk)) → Post 0 0 none (z + 1) (su S z 7 9) I' J R)
theorem c_X2_addRung {a c w d mk F p q : Nat} {z : Nat} {S : MS} {I : MI} {J : MJ} {R : MR} {Post : PT} (hSc : ScS S R a c) (hpw : I a 1 = nI w) (hcc : I a 2 = nI c) (hw8 : w ≤ 8) (hcw : c = 2 ^ w) (hd : I a 3 = nI d) (hd6 : d < 6) (hmk : I (a + 2) d = nI mk) (hF : F < 18446744073709551616) (hp7 : p < 128) (hq1 : 1 ≤ q) (hq6 : q ≤ 6) (hv : ∀ k, 1 ≤ k → k ≤ q → vF F k < 2 ^ k) (hp : ∀ I' : MI, FrA I I' a d c w z → I' a 3 = nI (d + 1) → (∀ i, i < w → I' (a + 1) (d * 8 + i) = nI (rB (rnT F p q 8) i (w - i))) → (∀ n, n < c → I' (a + 4) (d * c + n) = nI (pm (fun i => rB (rnT F p q 8) i (w - i)) w n ^^^ mk)) → Post 0 0 none (z + 1) (su S z 7 9) I' J R) : s_X2_addRung [.ref a, .int (nI p), .int (nI q), .long (lN F)] z S I J R Post := ⟨a, c, w, d, mk, F, p, q, rfl, hSc, hpw, hcc, hw8, hcw, hd, hd6, hmk, hF, hp7, hq1, hq6, hv, hp⟩
set_option maxRecDepth 100000 in
set_option maxHeartbeats 400000 in
theorem m_X2_addRung (T : TC) (B : Nat) : Mt T B yX2_addRung cX2_addRung 10 none 0 (rmL 4 1 9) s_X2_addRung := by
  refine Mt_of rfl (by rintro _ _ _ _ _ _ _ ⟨_, _, _, _, _, _, _, _, rfl, -⟩; exact Nat.le_of_ble_eq_true rfl) ?_
  intro X av z S I J R Post h C Q hI
  obtain ⟨a, c, w, d, mk, F, p, q, rfl, hSc, hpw, hcc, hw8, hcw, hd, hd6, hmk, hF, hp7, hq1, hq6, hv, hp⟩ := h
  have hSc0 := hSc
  obtain ⟨hs, hr5, hr6, hr7, hr8, hs1, hs2, hs3, hs4, hc1, hc2⟩ := hSc
  refine v_lt (sne hs) (fun l0 => v_lt (sne hs1) (fun l1 => v_lt (sne hs2) (fun l2 => v_lt (sne hs3) (fun l3 => v_lt (sne hs4) (fun l4 => ?_)))))
  generalize hvv : rnT F p q 8 = v at hp
  have hlt : ∀ k, v k < 2 ^ k := fun k => by rw [← hvv]; exact rnT_lt hq1 hv 8 k
  have hz := su_at S z 7 9
  have hSz : ScS (su S z 7 9) R a c := ⟨(su_ne S (by omega)).trans hs, hr5, hr6, hr7, hr8, (su_ne S (by omega)).trans hs1, (su_ne S (by omega)).trans hs2, (su_ne S (by omega)).trans hs3, (su_ne S (by omega)).trans hs4, hc1, hc2⟩
  have gs : su S z 7 9 a = (3, 0) := hSz.1
  have fin : ∀ I' : MI, FrA I I' a d c w z → I' a 3 = nI d → (∀ i, i < w → I' (a + 1) (d * 8 + i) = nI (rB v i (w - i))) → V X (0 + 1) (0 + 9) (z + 1) (su S z 7 9) I' J R 91 [some (.ref a), none, none, none, none, some (.int (nI d)), none, none, none, none] [] := by
    intro I' hFr h3 hrow
    refine v_aload_n C dX2_addRung_91 rfl ?_
    refine v_dup C dX2_addRung_92 rfl ?_
    first | refine gv_2_3 C (by assumption) h3 wt_152 dX2_addRung_93 ?_ | refine g_2_3 C (by assumption) wt_152 dX2_addRung_93 ?_
    refine v_iconstN 1 C dX2_addRung_96 ?_
    first | refine v_iaddN C dX2_addRung_97 ?_ | refine v_iadd C dX2_addRung_97 ?_
    refine p_2_3 C (by assumption) wt_152 dX2_addRung_98 ?_
    refine v_aload_n C dX2_addRung_101 rfl ?_
    refine v_iload C dX2_addRung_102 rfl ?_
    refine v_callV1_0 C (m_X2_fillFromRows T B) lk_X2_55 ⟨wt_209, wt_210⟩ 2 rfl dX2_addRung_104 ⟨Nat.le_of_ble_eq_true rfl, Nat.le_of_ble_eq_true rfl⟩ (Nat.le_of_ble_eq_true rfl) ⟨Nat.le_of_ble_eq_true rfl, Nat.le_of_ble_eq_true rfl⟩ (by assumption) (cTo_2 (by assumption)) ?_
    refine c_X2_fillFromRows (p := w) (mk := mk) (ro := fun i => rB v i (w - i)) hSz ?_ ?_ hw8 hcw hd6 ?_ (fun i hi => ⟨?_, ?_⟩) (fun I2 hF2 hI2 => ?_)
    · rw [mu_other _ _ (by omega), hFr a 1 (by omega) (by omega) (by omega) (by omega)]; exact hpw
    · rw [mu_other _ _ (by omega), hFr a 2 (by omega) (by omega) (by omega) (by omega)]; exact hcc
    · rw [mu_ne _ _ (by omega), hFr (a + 2) d (by omega) (by omega) (by omega) (by omega)]; exact hmk
    · rw [mu_ne _ _ (by omega)]; exact hrow i hi
    · exact Nat.lt_of_lt_of_le (rB_lt v i (w - i)) (Nat.le_trans (Nat.pow_le_pow_right (by decide) (show i + (w - i) ≤ 8 by omega)) (by decide))
    refine v_ret C Q dX2_addRung_107 (Nat.le_of_ble_eq_true rfl) (Nat.le_of_ble_eq_true rfl) ?_
    refine hp I2 (fun q k e1 e2 e3 e4 => ?_) ?_ (fun i hi => ?_) hI2
    · rw [hF2 q k (by omega), mu_other _ _ e2]; exact hFr q k e1 e2 e3 e4
    · rw [hF2 a 3 (by omega), mu_at]
    · rw [hF2 (a + 1) _ (by omega), mu_ne _ _ (by omega)]; exact hrow i hi
  have inner : ∀ i : Nat, i < w → ∀ n : Nat, n ≤ w - i → ∀ I' : MI, FrA I I' a d c w z → I' a 3 = nI d → (∀ k, k < 9 → I' z k = nI (v k)) → (∀ m, m < i → I' (a + 1) (d * 8 + m) = nI (rB v m (w - m))) →
      (∀ I' : MI, FrA I I' a d c w z → I' a 3 = nI d → (∀ k, k < 9 → I' z k = nI (v k)) → (∀ m, m < i + 1 → I' (a + 1) (d * 8 + m) = nI (rB v m (w - m))) → V X (0 + 1) (0 + 9) (z + 1) (su S z 7 9) I' J R 17 [some (.ref a), none, none, none, none, some (.int (nI d)), some (.ref z), some (.int (nI (i + 1))), none, none] []) →
      V X (0 + 1) (0 + 9) (z + 1) (su S z 7 9) I' J R 35 [some (.ref a), none, none, none, none, some (.int (nI d)), some (.ref z), some (.int (nI i)), some (.int (nI (rB v i n))), some (.int (nI (i + 1 + n)))] [] := by
    intro i hi
    refine lp_up (w - i) ?_
    intro n hn ih I' hFr h3 hz9 hrow K
    have w1 : I' a 1 = nI w := (hFr a 1 (by omega) (by omega) (by omega) (by omega)).trans hpw
    have hl1 := hlt (i + 1 + n)
    have h28 : n < w - i → 2 ^ (i + 1 + n) ≤ 2 ^ 8 := fun q => Nat.pow_le_pow_right (by decide) (by omega)
    have h28' : n < w - i → 2 ^ (i + n) ≤ 2 ^ 8 := fun q => Nat.pow_le_pow_right (by decide) (by omega)
    refine v_iload C dX2_addRung_35 rfl ?_
    refine v_aload_n C dX2_addRung_37 rfl ?_
    first | refine gv_2_1 C (by assumption) (by assumption) wt_144 dX2_addRung_38 ?_ | refine g_2_1 C (by assumption) wt_144 dX2_addRung_38 ?_
    first | refine v_icmp_gtN C 75 dX2_addRung_41 (by omega) (by omega) (by decide) (fun h41 => ?_) (fun h41 => ?_) | refine v_icmp_gt C 75 dX2_addRung_41 (by decide) (fun h41 => ?_) (fun h41 => ?_)
    · refine v_aload_n C dX2_addRung_75 rfl ?_
      refine v_iload C dX2_addRung_76 rfl ?_
      refine v_iload C dX2_addRung_78 rfl ?_
      refine v_iload C dX2_addRung_80 rfl ?_
      refine v_callV3_0 C (m_X2_setRow T B) lk_X2_73 ⟨wt_205, wt_206⟩ 2 rfl dX2_addRung_82 ⟨Nat.le_of_ble_eq_true rfl, Nat.le_of_ble_eq_true rfl⟩ (Nat.le_of_ble_eq_true rfl) ⟨Nat.le_of_ble_eq_true rfl, Nat.le_of_ble_eq_true rfl⟩ (by assumption) (cTo_2 (by assumption)) ?_
      refine c_X2_setRow hSz hd6 (by omega) ?_
      first | refine v_iincN 1 C dX2_addRung_85 rfl (by decide) ?_ | refine v_iinc C dX2_addRung_85 rfl rfl (by decide) ?_
      refine v_goto C 17 dX2_addRung_88 (by decide) ?_
      obtain rfl : n = w - i := by omega
      exact v_less (K _ (fun q k e1 e2 e3 e4 => by rw [mu_other _ _ (by omega)]; exact hFr q k e1 e2 e3 e4) (by rw [mu_ne _ _ (by omega)]; exact h3) (fun k hk => by rw [mu_ne _ _ (by omega)]; exact hz9 k hk) (mu_fill (P := fun m => nI (rB v m (w - m))) hrow rfl)) (by repeat (first | exact trivial | refine And.intro rfl ?_))
    · have q1 := h28 (by omega)
      have q2 := h28' (by omega)
      have hm1 : v (i + 1 + n) / 2 ^ n % 2 * 2 ^ (i + n) < 4294967296 := Nat.lt_of_le_of_lt (Nat.mul_le_mul (show _ ≤ 2 by omega) q2) (by decide)
      refine v_iload C dX2_addRung_44 rfl ?_
      refine v_aload C dX2_addRung_46 rfl ?_
      refine v_iload C dX2_addRung_48 rfl ?_
      first | refine v_ialdN C (by assumption) (by omega) (by omega) dX2_addRung_50 ?_ | refine v_iald C (by assumption) (by assumption) dX2_addRung_50 ?_
      rw [hz9 _ (by omega)]
      refine v_iload C dX2_addRung_51 rfl ?_
      refine v_iconstN 1 C dX2_addRung_53 ?_
      first | refine v_isubN C dX2_addRung_54 (by omega) ?_ | refine v_isub C dX2_addRung_54 ?_
      refine v_iload C dX2_addRung_55 rfl ?_
      first | refine v_isubN C dX2_addRung_57 (by omega) ?_ | refine v_isub C dX2_addRung_57 ?_
      rw [show i + 1 + n - 1 - i = n by omega]
      first | refine v_ishrN C dX2_addRung_58 (by omega) (by omega) ?_ | refine v_ishr C dX2_addRung_58 ?_
      refine v_iconstN 1 C dX2_addRung_59 ?_
      first | refine v_iandN C dX2_addRung_60 ?_ | refine v_iand C dX2_addRung_60 ?_
      rw [show v (i + 1 + n) / 2 ^ n &&& 1 = v (i + 1 + n) / 2 ^ n % 2 from Nat.and_one_is_mod _]
      refine v_iload C dX2_addRung_61 rfl ?_
      refine v_iconstN 1 C dX2_addRung_63 ?_
      first | refine v_isubN C dX2_addRung_64 (by omega) ?_ | refine v_isub C dX2_addRung_64 ?_
      rw [show i + 1 + n - 1 = i + n by omega]
      first | refine v_ishlN C dX2_addRung_65 (by omega) hm1 ?_ | refine v_ishl C dX2_addRung_65 ?_
      first | refine v_iorN C dX2_addRung_66 ?_ | refine v_ior C dX2_addRung_66 ?_
      refine v_istore C dX2_addRung_67 (by decide) ?_
      first | refine v_iincN 1 C dX2_addRung_69 rfl (by decide) ?_ | refine v_iinc C dX2_addRung_69 rfl rfl (by decide) ?_
      refine v_goto C 35 dX2_addRung_72 (by decide) ?_
      exact v_less (ih (by omega) I' hFr h3 hz9 hrow K) (by repeat (first | exact trivial | refine And.intro rfl ?_))
  have loop : ∀ i : Nat, i ≤ w → ∀ I' : MI, FrA I I' a d c w z → I' a 3 = nI d → (∀ k, k < 9 → I' z k = nI (v k)) → (∀ m, m < i → I' (a + 1) (d * 8 + m) = nI (rB v m (w - m))) → V X (0 + 1) (0 + 9) (z + 1) (su S z 7 9) I' J R 17 [some (.ref a), none, none, none, none, some (.int (nI d)), some (.ref z), some (.int (nI i)), none, none] [] := by
    refine lp_up w ?_
    intro i hi ih I' hFr h3 hz9 hrow
    have w1 : I' a 1 = nI w := (hFr a 1 (by omega) (by omega) (by omega) (by omega)).trans hpw
    refine v_iload C dX2_addRung_17 rfl ?_
    refine v_aload_n C dX2_addRung_19 rfl ?_
    first | refine gv_2_1 C (by assumption) (by assumption) wt_144 dX2_addRung_20 ?_ | refine g_2_1 C (by assumption) wt_144 dX2_addRung_20 ?_
    first | refine v_icmp_geN C 91 dX2_addRung_23 (by omega) (by omega) (by decide) (fun h23 => ?_) (fun h23 => ?_) | refine v_icmp_ge C 91 dX2_addRung_23 (by decide) (fun h23 => ?_) (fun h23 => ?_)
    · obtain rfl : i = w := by omega
      exact v_less (fin I' hFr h3 hrow) (by repeat (first | exact trivial | refine And.intro rfl ?_))
    · refine v_iconstN 0 C dX2_addRung_26 ?_
      refine v_istore C dX2_addRung_27 (by decide) ?_
      refine v_iload C dX2_addRung_29 rfl ?_
      refine v_iconstN 1 C dX2_addRung_31 ?_
      first | refine v_iaddN C dX2_addRung_32 ?_ | refine v_iadd C dX2_addRung_32 ?_
      refine v_istore C dX2_addRung_33 (by decide) ?_
      exact v_less (inner i h23 0 (Nat.zero_le _) I' hFr h3 hz9 hrow (ih h23)) (by repeat (first | exact trivial | refine And.intro rfl ?_))
  refine v_aload_n C dX2_addRung_0 rfl ?_
  first | refine gv_2_3 C (by assumption) (by assumption) wt_152 dX2_addRung_1 ?_ | refine g_2_3 C (by assumption) wt_152 dX2_addRung_1 ?_
  refine v_istore C dX2_addRung_4 (by decide) ?_
  refine v_iload_n C dX2_addRung_6 rfl ?_
  refine v_iload_n C dX2_addRung_7 rfl ?_
  refine v_lload_n C dX2_addRung_8 rfl ?_
  refine v_callS3_3 C (m_X2_rungNumbers T B) lk_X2_69 wt_240 dX2_addRung_9 ⟨Nat.le_of_ble_eq_true rfl, Nat.le_of_ble_eq_true rfl⟩ (Nat.le_of_ble_eq_true rfl) ⟨Nat.le_of_ble_eq_true rfl, Nat.le_of_ble_eq_true rfl⟩ ?_
  refine c_X2_rungNumbers hF hp7 hq1 hq6 hv (fun I2 hF2 hI2 => ?_)
  refine v_astore C dX2_addRung_12 (by decide) ?_
  refine v_iconstN 0 C dX2_addRung_14 ?_
  refine v_istore C dX2_addRung_15 (by decide) ?_
  rw [hvv] at hI2
  exact v_less (loop 0 (Nat.zero_le _) I2 (fun q k _ _ _ e4 => hF2 q k e4) ((hF2 a 3 (by omega)).trans hd) hI2 (fun m hm => absurd hm (by omega))) (by repeat (first | exact trivial | refine And.intro rfl ?_))
