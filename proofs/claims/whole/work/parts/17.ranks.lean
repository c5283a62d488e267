def RaS (S : MS) (R : MR) (r : Nat) : Prop := S r = (2, 0) ∧ R r 0 = some (r + 1) ∧ R r 1 = some (r + 2) ∧ S (r + 1) = (7, 6) ∧ S (r + 2) = (7, 8)
/-- what the kept rows leave of x -/
def rd (K : Nat → Nat) : Nat → Nat → Nat
  | 0, x => x
  | i + 1, x => min (rd K i x) (rd K i x ^^^ K i)
theorem rd_lt {K : Nat → Nat} {n x : Nat} (hK : ∀ i, i < n → K i < 256) (hx : x < 256) : rd K n x < 256 := by
  induction n with
  | zero => exact hx
  | succ n ih =>
    have h1 := ih (fun i hi => hK i (by omega))
    simp only [rd]
    exact Nat.lt_of_le_of_lt (Nat.min_le_left _ _) h1
theorem rd_congr {K K' : Nat → Nat} {n x : Nat} (h : ∀ i, i < n → K i = K' i) : rd K n x = rd K' n x := by
  induction n with
  | zero => rfl
  | succ n ih => simp only [rd, ih (fun i hi => h i (by omega)), h n (by omega)]
theorem xor_256 {a b : Nat} (ha : a < 256) (hb : b < 256) : a ^^^ b < 256 := Nat.xor_lt_two_pow (n := 8) ha hb
theorem mminN {a b : Nat} (ha : a < 2147483648) (hb : b < 2147483648) : (if nI b < nI a then nI b else nI a) = nI (min a b) := by
  by_cases h : b < a
  · rw [if_pos (nI_lt h ha), Nat.min_eq_right (by omega)]
  · rw [if_neg (nI_nlt (by omega) hb), Nat.min_eq_left (by omega)]
def s_X1_keepIfIndependent : Sp := fun av z S I J R Post => ∃ (r n x : Nat), ∃ (K : Nat → Nat), av = [.ref r, .int (nI x)] ∧ (RaS S R r) ∧ (I r 3 = nI n) ∧ (n < 8) ∧ (∀ i, i < n → I (r + 2) i = nI (K i) ∧ K i < 256) ∧ (x < 256) ∧ ((rd K n x = 0 → Post (nI 0) 0 none z S I J R) ∧ (0 < rd K n x → Post (nI 1) 0 none z S (mu (mu I (r + 2) n (nI (rd K n x))) r 3 (nI (n + 1))) J R))
theorem c_X1_keepIfIndependent {r n x : Nat} {K : Nat → Nat} {z : Nat} {S : MS} {I : MI} {J : MJ} {R : MR} {Post : PT} (hR : RaS S R r) (hn : I r 3 = nI n) (hn8 : n < 8) (hK : ∀ i, i < n → I (r + 2) i = nI (K i) ∧ K i < 256) (hx : x < 256) (hp : (rd K n x = 0 → Post (nI 0) 0 none z S I J R) ∧ (0 < rd K n x → Post (nI 1) 0 none z S (mu (mu I (r + 2) n (nI (rd K n x))) r 3 (nI (n + 1))) J R)) : s_X1_keepIfIndependent [.ref r, .int (nI x)] z S I J R Post := ⟨r, n, x, K, rfl, hR, hn, hn8, hK, hx, hp⟩
set_option maxRecDepth 100000 in
set_option maxHeartbeats 400000 in
theorem m_X1_keepIfIndependent (T : TC) (B : Nat) : Mt T B yX1_keepIfIndependent cX1_keepIfIndependent 4 (some .boolean) 1 (rmL 2 0 0) s_X1_keepIfIndependent := by
  refine Mt_of rfl (by rintro _ _ _ _ _ _ _ ⟨_, _, _, _, rfl, -⟩; exact Nat.le_of_ble_eq_true rfl) ?_
  intro X av z S I J R Post h C Q hI
  obtain ⟨r, n, x, K, rfl, hR, hn, hn8, hK, hx, hp⟩ := h
  obtain ⟨hs, hr0, hr1, hs1, hs2⟩ := hR
  have hlt : ∀ i, i ≤ n → rd K i x < 256 := fun i hi => rd_lt (fun q hq => (hK q (by omega)).2) hx
  have loop : ∀ i : Nat, i ≤ n → V X 0 0 z S I J R 4 [some (.ref r), some (.int (nI x)), some (.int (nI (rd K i x))), some (.int (nI i))] [] := by
    refine lp_up n ?_
    intro i hi ih
    have hl := hlt i hi
    refine v_iload_n C dX1_keepIfIndependent_4 rfl ?_
    refine v_aload_n C dX1_keepIfIndependent_5 rfl ?_
    first | refine gv_1_3 C (by assumption) (by assumption) wt_50 dX1_keepIfIndependent_6 ?_ | refine g_1_3 C (by assumption) wt_50 dX1_keepIfIndependent_6 ?_
    first | refine v_icmp_geN C 31 dX1_keepIfIndependent_9 (by omega) (by omega) (by decide) (fun h9 => ?_) (fun h9 => ?_) | refine v_icmp_ge C 31 dX1_keepIfIndependent_9 (by decide) (fun h9 => ?_) (fun h9 => ?_)
    · refine v_iload_n C dX1_keepIfIndependent_31 rfl ?_
      first | refine v_if_eqN C 44 dX1_keepIfIndependent_32 (by omega) (by decide) (fun h32 => ?_) (fun h32 => ?_) | refine v_if_eq C 44 dX1_keepIfIndependent_32 (by decide) (fun h32 => ?_) (fun h32 => ?_)
      · refine v_iconstN 0 C dX1_keepIfIndependent_44 ?_
        refine v_zret C Q dX1_keepIfIndependent_45 (Nat.le_of_ble_eq_true rfl) (Nat.le_of_ble_eq_true rfl) nz_0 ?_
        obtain rfl : i = n := by omega
        exact hp.1 h32
      · refine v_aload_n C dX1_keepIfIndependent_35 rfl ?_
        first | refine gv_1_3 C (by assumption) (by assumption) wt_50 dX1_keepIfIndependent_36 ?_ | refine g_1_3 C (by assumption) wt_50 dX1_keepIfIndependent_36 ?_
        refine v_bipushN 8 (by decide) C dX1_keepIfIndependent_39 ?_
        first | refine v_icmp_ltN C 46 dX1_keepIfIndependent_41 (by omega) (by omega) (by decide) (fun h41 => ?_) (fun h41 => ?_) | refine v_icmp_lt C 46 dX1_keepIfIndependent_41 (by decide) (fun h41 => ?_) (fun h41 => ?_)
        · refine v_aload_n C dX1_keepIfIndependent_46 rfl ?_
          refine g_1_1 C (by assumption) (by assumption) wt_48 dX1_keepIfIndependent_47 ?_
          refine v_aload_n C dX1_keepIfIndependent_50 rfl ?_
          first | refine gv_1_3 C (by assumption) (by assumption) wt_50 dX1_keepIfIndependent_51 ?_ | refine g_1_3 C (by assumption) wt_50 dX1_keepIfIndependent_51 ?_
          refine v_iload_n C dX1_keepIfIndependent_54 rfl ?_
          first | refine v_iastN C (by assumption) (by omega) (by omega) dX1_keepIfIndependent_55 ?_ | refine v_iast C (by assumption) (by assumption) dX1_keepIfIndependent_55 ?_
          refine v_aload_n C dX1_keepIfIndependent_56 rfl ?_
          refine v_dup C dX1_keepIfIndependent_57 rfl ?_
          have hn2 : mu I (r + 2) n (nI (rd K i x)) r 3 = nI n := by rw [mu_ne _ _ (by omega)]; exact hn
          first | refine gv_1_3 C (by assumption) (by assumption) wt_50 dX1_keepIfIndependent_58 ?_ | refine g_1_3 C (by assumption) wt_50 dX1_keepIfIndependent_58 ?_
          refine v_iconstN 1 C dX1_keepIfIndependent_61 ?_
          first | refine v_iaddN C dX1_keepIfIndependent_62 ?_ | refine v_iadd C dX1_keepIfIndependent_62 ?_
          refine p_1_3 C (by assumption) wt_50 dX1_keepIfIndependent_63 ?_
          refine v_iconstN 1 C dX1_keepIfIndependent_66 ?_
          refine v_zret C Q dX1_keepIfIndependent_67 (Nat.le_of_ble_eq_true rfl) (Nat.le_of_ble_eq_true rfl) nz_1 ?_
          obtain rfl : i = n := by omega
          exact hp.2 (by omega)
        · exact absurd h41 (by omega)
    · obtain ⟨k1, k2⟩ := hK i h9
      have hxl := xor_256 hl k2
      refine v_iload_n C dX1_keepIfIndependent_12 rfl ?_
      refine v_iload_n C dX1_keepIfIndependent_13 rfl ?_
      refine v_aload_n C dX1_keepIfIndependent_14 rfl ?_
      refine g_1_1 C (by assumption) (by assumption) wt_48 dX1_keepIfIndependent_15 ?_
      refine v_iload_n C dX1_keepIfIndependent_18 rfl ?_
      first | refine v_ialdN C (by assumption) (by omega) (by omega) dX1_keepIfIndependent_19 ?_ | refine v_iald C (by assumption) (by assumption) dX1_keepIfIndependent_19 ?_
      rw [k1]
      first | refine v_ixorN C dX1_keepIfIndependent_20 ?_ | refine v_ixor C dX1_keepIfIndependent_20 ?_
      refine v_mmin C wt_391 wt_137 wt_138 (Nat.le_of_ble_eq_true rfl) (Nat.le_of_ble_eq_true rfl) (Nat.le_of_ble_eq_true rfl) (Nat.le_of_ble_eq_true rfl) dX1_keepIfIndependent_21 ?_
      rw [mminN (by omega) (by omega)]
      refine v_istore_n C dX1_keepIfIndependent_24 (by decide) ?_
      first | refine v_iincN 1 C dX1_keepIfIndependent_25 rfl (by decide) ?_ | refine v_iinc C dX1_keepIfIndependent_25 rfl rfl (by decide) ?_
      refine v_goto C 4 dX1_keepIfIndependent_28 (by decide) ?_
      exact v_less (ih h9) (by repeat (first | exact trivial | refine And.intro rfl ?_))
  refine v_iload_n C dX1_keepIfIndependent_0 rfl ?_
  refine v_istore_n C dX1_keepIfIndependent_1 (by decide) ?_
  refine v_iconstN 0 C dX1_keepIfIndependent_2 ?_
  refine v_istore_n C dX1_keepIfIndependent_3 (by decide) ?_
  exact loop 0 (Nat.zero_le _)
def wkL (g : (Nat → Nat) → Nat → Nat → Nat) (row : Nat → Nat) : Nat → Nat → (Nat → Nat) → Nat → Nat → Nat
  | 0, _, K, n, L => g K n L
  | f + 1, i, K, n, L => if g K n L ≤ n + 1 then g K n L else if rd K n (row i) = 0 then n + 1 else wkL g row f (i + 1) (va_up K n (rd K n (row i))) (n + 1) (g K n L)
def wk (ro : Nat → Nat → Nat) (p : Nat) (cho : Nat → Nat) : Nat → Nat → (Nat → Nat) → Nat → Nat → Nat
  | 0, _, _, _, L => L
  | e + 1, dp, K, n, L => wkL (wk ro p cho e (dp + 1)) (ro (cho dp)) p 0 K n L
theorem wkL_in {g : (Nat → Nat) → Nat → Nat → Nat} {row : Nat → Nat} (hg : ∀ K n L, n < L → n < g K n L ∧ g K n L ≤ L) : ∀ f i K n L, n < L → n < wkL g row f i K n L ∧ wkL g row f i K n L ≤ L
  | 0, i, K, n, L, h => hg K n L h
  | f + 1, i, K, n, L, h => by
    obtain ⟨h1, h2⟩ := hg K n L h
    simp only [wkL]
    by_cases e1 : g K n L ≤ n + 1
    · rw [if_pos e1]; exact ⟨h1, h2⟩
    · rw [if_neg e1]
      by_cases e2 : rd K n (row i) = 0
      · rw [if_pos e2]; omega
      · rw [if_neg e2]
        have := wkL_in (row := row) hg f (i + 1) (va_up K n (rd K n (row i))) (n + 1) (g K n L) (by omega)
        omega
theorem wk_in {ro : Nat → Nat → Nat} {p : Nat} {cho : Nat → Nat} : ∀ e dp K n L, n < L → n < wk ro p cho e dp K n L ∧ wk ro p cho e dp K n L ≤ L
  | 0, _, _, _, L, h => ⟨h, Nat.le_refl L⟩
  | e + 1, dp, K, n, L, h => wkL_in (fun K n L h => wk_in e (dp + 1) K n L h) p 0 K n L h
/-- what walk may change: kept from size on, leastDependent -/
def FrW (I I' : MI) (r n : Nat) : Prop := ∀ q k, ¬ (q = r + 2 ∧ n ≤ k) → ¬ (q = r ∧ k = 4) → I' q k = I q k
def s_X1_walk (e : Nat) : Sp := fun av z S I J R Post => ∃ (r a c p n L dp ch : Nat) (cho : Nat → Nat) (ro : Nat → Nat → Nat) (K : Nat → Nat), av = [.ref r, .ref a, .int (nI dp)] ∧ RaS S R r ∧ ScS S R a c ∧ (r < a ∨ a + 4 < r) ∧ (r + 2 < a ∨ a + 4 < r) ∧ I a 1 = nI p ∧ p ≤ 8 ∧ I r 2 = nI ch ∧ ch ≤ 6 ∧ dp + e = ch ∧ (∀ q, q < ch → I (r + 1) q = nI (cho q) ∧ cho q < 6) ∧ (∀ j i, j < 6 → i < p → I (a + 1) (j * 8 + i) = nI (ro j i) ∧ ro j i < 256) ∧ I r 3 = nI n ∧ (∀ i, i < n → I (r + 2) i = nI (K i) ∧ K i < 256) ∧ I r 4 = nI L ∧ n < L ∧ L ≤ p + 1 ∧ (∀ I' : MI, FrW I I' r n → I' r 4 = nI (wk ro p cho e dp K n L) → Post 0 0 none z S I' J R)
set_option maxRecDepth 100000 in
set_option maxHeartbeats 1000000 in
theorem m_X1_walk (T : TC) (B : Nat) : ∀ e : Nat, Mt T B yX1_walk cX1_walk 5 none 0 (rmL (e + 3) 0 0) (s_X1_walk e) := by
  intro e
  induction e with
  | zero =>
    refine Mt_of rfl (by rintro _ _ _ _ _ _ _ ⟨_, _, _, _, _, _, _, _, _, _, _, rfl, -⟩; exact Nat.le_of_ble_eq_true rfl) ?_
    intro X av z S I J R Post h C Q hI
    obtain ⟨r, a, c, p, n, L, dp, ch, cho, ro, K, rfl, hR, hSc, hra, hra2, hpw, hp8, hch, hch6, hdp, hcho, hro, hn, hK, hL, hnL, hLp, hp⟩ := h
    obtain ⟨hs, hr0, hr1, hs1, hs2⟩ := hR
    refine v_iload_n C dX1_walk_0 rfl ?_
    refine v_aload_n C dX1_walk_1 rfl ?_
    first | refine gv_1_2 C (by assumption) (by assumption) wt_49 dX1_walk_2 ?_ | refine g_1_2 C (by assumption) wt_49 dX1_walk_2 ?_
    first | refine v_icmp_geN C 14 dX1_walk_5 (by omega) (by omega) (by decide) (fun h5 => ?_) (fun h5 => ?_) | refine v_icmp_ge C 14 dX1_walk_5 (by decide) (fun h5 => ?_) (fun h5 => ?_)
    · refine v_ret C Q dX1_walk_14 (Nat.le_of_ble_eq_true rfl) (Nat.le_of_ble_eq_true rfl) ?_
      exact hp I (fun _ _ _ _ => rfl) hL
    · exact absurd h5 (by omega)
  | succ e ihe =>
    refine Mt_of rfl (by rintro _ _ _ _ _ _ _ ⟨_, _, _, _, _, _, _, _, _, _, _, rfl, -⟩; exact Nat.le_of_ble_eq_true rfl) ?_
    intro X av z S I J R Post h C Q hI
    obtain ⟨r, a, c, p, n, L, dp, ch, cho, ro, K, rfl, hR, hSc, hra, hra2, hpw, hp8, hch, hch6, hdp, hcho, hro, hn, hK, hL, hnL, hLp, hp⟩ := h
    have hR0 := hR
    have hSc0 := hSc
    obtain ⟨hs, hr0, hr1, hs1, hs2⟩ := hR
    obtain ⟨hsa, hr5, hr6, hr7, hr8, hsa1, hsa2, hsa3, hsa4, hc1, hc2⟩ := hSc
    -- the end: size goes back
    have fin : ∀ I' : MI, (∀ q k, ¬ (q = r + 2 ∧ n ≤ k) → ¬ (q = r ∧ k = 4) → ¬ (q = r ∧ k = 3) → I' q k = I q k) → I' r 4 = nI (wk ro p cho (e + 1) dp K n L) → V X 0 0 z S I' J R 103 [some (.ref r), some (.ref a), some (.int (nI dp)), some (.int (nI n)), none] [] := by
      intro I' hF h4
      refine v_aload_n C dX1_walk_103 rfl ?_
      refine v_iload_n C dX1_walk_104 rfl ?_
      refine p_1_3 C (by assumption) wt_50 dX1_walk_105 ?_
      refine v_ret C Q dX1_walk_108 (Nat.le_of_ble_eq_true rfl) (Nat.le_of_ble_eq_true rfl) ?_
      refine hp _ (fun q k h1 h2 => ?_) ?_
      · by_cases e3 : q = r ∧ k = 3
        · obtain ⟨rfl, rfl⟩ := e3
          rw [mu_at, hn]
        · rw [mu_other _ _ e3]; exact hF q k h1 h2 e3
      · rw [mu_other _ _ (by omega)]; exact h4
    have loop : ∀ f i : Nat, i + f = p → ∀ (K' : Nat → Nat) (n' L' : Nat) (I' : MI), n ≤ n' → n' < L' → L' ≤ p + 1 → (∀ q k, ¬ (q = r + 2 ∧ n ≤ k) → ¬ (q = r ∧ k = 4) → ¬ (q = r ∧ k = 3) → I' q k = I q k) → I' r 3 = nI n' → I' r 4 = nI L' → (∀ q, q < n' → I' (r + 2) q = nI (K' q) ∧ K' q < 256) → wkL (wk ro p cho e (dp + 1)) (ro (cho dp)) f i K' n' L' = wk ro p cho (e + 1) dp K n L → V X 0 0 z S I' J R 23 [some (.ref r), some (.ref a), some (.int (nI dp)), some (.int (nI n)), some (.int (nI i))] [] := by
      intro f
      induction f with
      | zero =>
        intro i hi K' n' L' I' h1 h2 h3 hF e3 e4 hK' hw
        obtain ⟨g1, g2⟩ := wk_in (ro := ro) (p := p) (cho := cho) e (dp + 1) K' n' L' h2
        have f1 : I' a 1 = nI p := (hF a 1 (by omega) (by omega) (by omega)).trans hpw
        have f2 : I' r 2 = nI ch := (hF r 2 (by omega) (by omega) (by omega)).trans hch
        refine v_iload C dX1_walk_23 rfl ?_
        refine v_aload_n C dX1_walk_25 rfl ?_
        first | refine gv_2_1 C (by assumption) (by assumption) wt_146 dX1_walk_26 ?_ | refine g_2_1 C (by assumption) wt_146 dX1_walk_26 ?_
        first | refine v_icmp_gtN C 103 dX1_walk_29 (by omega) (by omega) (by decide) (fun h29 => ?_) (fun h29 => ?_) | refine v_icmp_gt C 103 dX1_walk_29 (by decide) (fun h29 => ?_) (fun h29 => ?_)
        · exact absurd h29 (by omega)
        · refine v_aload_n C dX1_walk_32 rfl ?_
          refine v_aload_n C dX1_walk_33 rfl ?_
          refine v_iload_n C dX1_walk_34 rfl ?_
          refine v_iconstN 1 C dX1_walk_35 ?_
          first | refine v_iaddN C dX1_walk_36 ?_ | refine v_iadd C dX1_walk_36 ?_
          refine v_callV2_0 C (ihe) lk_X1_40 ⟨wt_384, ws_8⟩ 1 rfl dX1_walk_37 ⟨by show e + 3 + 1 ≤ e + 1 + 3; omega, by show 8 + (5 + 11) + 64 * (e + 3) ≤ 64 * (e + 1 + 3); omega⟩ (Nat.le_of_ble_eq_true rfl) ⟨Nat.le_of_ble_eq_true rfl, Nat.le_of_ble_eq_true rfl⟩ (by assumption) (cTo_1 (by assumption)) ?_
          refine ⟨r, a, c, p, n', L', dp + 1, ch, cho, ro, K', rfl, hR0, hSc0, hra, hra2, f1, hp8, f2, hch6, by omega, fun q hq => ⟨(hF (r + 1) q (by omega) (by omega) (by omega)).trans (hcho q hq).1, (hcho q hq).2⟩, fun j i hj hi => ⟨(hF (a + 1) _ (by omega) (by omega) (by omega)).trans (hro j i hj hi).1, (hro j i hj hi).2⟩, e3, hK', e4, h2, h3, fun I2 hF2 h42 => ?_⟩
          have w1 : I2 a 1 = nI p := (hF2 a 1 (by omega) (by omega)).trans f1
          refine v_iload C dX1_walk_40 rfl ?_
          refine v_aload_n C dX1_walk_42 rfl ?_
          first | refine gv_2_1 C (by assumption) (by assumption) wt_146 dX1_walk_43 ?_ | refine g_2_1 C (by assumption) wt_146 dX1_walk_43 ?_
          first | refine v_icmp_eqN C 103 dX1_walk_46 (by omega) (by omega) (by decide) (fun h46 => ?_) (fun h46 => ?_) | refine v_icmp_eq C 103 dX1_walk_46 (by decide) (fun h46 => ?_) (fun h46 => ?_)
          · exact v_less (fin I2 (fun q k q1 q2 q3 => (hF2 q k (by omega) q2).trans (hF q k q1 q2 q3)) (by rw [h42, ← hw]; rfl)) (by repeat (first | exact trivial | refine And.intro rfl ?_))
          · exact absurd h46 (by omega)
      | succ f ihf =>
        intro i hi K' n' L' I' h1 h2 h3 hF e3 e4 hK' hw
        obtain ⟨g1, g2⟩ := wk_in (ro := ro) (p := p) (cho := cho) e (dp + 1) K' n' L' h2
        have f1 : I' a 1 = nI p := (hF a 1 (by omega) (by omega) (by omega)).trans hpw
        have f2 : I' r 2 = nI ch := (hF r 2 (by omega) (by omega) (by omega)).trans hch
        simp only [wkL] at hw
        generalize hL1 : wk ro p cho e (dp + 1) K' n' L' = L1 at hw g1 g2
        have hrow := hro (cho dp) i (hcho dp (by omega)).2 (by omega)
        refine v_iload C dX1_walk_23 rfl ?_
        refine v_aload_n C dX1_walk_25 rfl ?_
        first | refine gv_2_1 C (by assumption) (by assumption) wt_146 dX1_walk_26 ?_ | refine g_2_1 C (by assumption) wt_146 dX1_walk_26 ?_
        first | refine v_icmp_gtN C 103 dX1_walk_29 (by omega) (by omega) (by decide) (fun h29 => ?_) (fun h29 => ?_) | refine v_icmp_gt C 103 dX1_walk_29 (by decide) (fun h29 => ?_) (fun h29 => ?_)
        · exact absurd h29 (by omega)
        · refine v_aload_n C dX1_walk_32 rfl ?_
          refine v_aload_n C dX1_walk_33 rfl ?_
          refine v_iload_n C dX1_walk_34 rfl ?_
          refine v_iconstN 1 C dX1_walk_35 ?_
          first | refine v_iaddN C dX1_walk_36 ?_ | refine v_iadd C dX1_walk_36 ?_
          refine v_callV2_0 C (ihe) lk_X1_40 ⟨wt_384, ws_8⟩ 1 rfl dX1_walk_37 ⟨by show e + 3 + 1 ≤ e + 1 + 3; omega, by show 8 + (5 + 11) + 64 * (e + 3) ≤ 64 * (e + 1 + 3); omega⟩ (Nat.le_of_ble_eq_true rfl) ⟨Nat.le_of_ble_eq_true rfl, Nat.le_of_ble_eq_true rfl⟩ (by assumption) (cTo_1 (by assumption)) ?_
          refine ⟨r, a, c, p, n', L', dp + 1, ch, cho, ro, K', rfl, hR0, hSc0, hra, hra2, f1, hp8, f2, hch6, by omega, fun q hq => ⟨(hF (r + 1) q (by omega) (by omega) (by omega)).trans (hcho q hq).1, (hcho q hq).2⟩, fun j i hj hi => ⟨(hF (a + 1) _ (by omega) (by omega) (by omega)).trans (hro j i hj hi).1, (hro j i hj hi).2⟩, e3, hK', e4, h2, h3, fun I2 hF2 h42 => ?_⟩
          rw [hL1] at h42
          have w1 : I2 a 1 = nI p := (hF2 a 1 (by omega) (by omega)).trans f1
          have w3 : I2 r 3 = nI n' := (hF2 r 3 (by omega) (by omega)).trans e3
          have wF : ∀ q k, ¬ (q = r + 2 ∧ n ≤ k) → ¬ (q = r ∧ k = 4) → ¬ (q = r ∧ k = 3) → I2 q k = I q k := fun q k q1 q2 q3 => (hF2 q k (by omega) q2).trans (hF q k q1 q2 q3)
          have wc : I2 (r + 1) dp = nI (cho dp) := (wF (r + 1) dp (by omega) (by omega) (by omega)).trans (hcho dp (by omega)).1
          have wr : I2 (a + 1) (cho dp * 8 + i) = nI (ro (cho dp) i) := (wF (a + 1) _ (by omega) (by omega) (by omega)).trans hrow.1
          have wK : ∀ q, q < n' → I2 (r + 2) q = nI (K' q) ∧ K' q < 256 := fun q hq => ⟨(hF2 (r + 2) q (by omega) (by omega)).trans (hK' q hq).1, (hK' q hq).2⟩
          refine v_iload C dX1_walk_40 rfl ?_
          refine v_aload_n C dX1_walk_42 rfl ?_
          first | refine gv_2_1 C (by assumption) (by assumption) wt_146 dX1_walk_43 ?_ | refine g_2_1 C (by assumption) wt_146 dX1_walk_43 ?_
          first | refine v_icmp_eqN C 103 dX1_walk_46 (by omega) (by omega) (by decide) (fun h46 => ?_) (fun h46 => ?_) | refine v_icmp_eq C 103 dX1_walk_46 (by decide) (fun h46 => ?_) (fun h46 => ?_)
          · exact absurd h46 (by omega)
          · refine v_aload_n C dX1_walk_49 rfl ?_
            first | refine gv_1_3 C (by assumption) (by assumption) wt_50 dX1_walk_50 ?_ | refine g_1_3 C (by assumption) wt_50 dX1_walk_50 ?_
            refine v_iconstN 1 C dX1_walk_53 ?_
            first | refine v_iaddN C dX1_walk_54 ?_ | refine v_iadd C dX1_walk_54 ?_
            refine v_aload_n C dX1_walk_55 rfl ?_
            first | refine gv_1_4 C (by assumption) (by assumption) wt_51 dX1_walk_56 ?_ | refine g_1_4 C (by assumption) wt_51 dX1_walk_56 ?_
            first | refine v_icmp_ltN C 65 dX1_walk_59 (by omega) (by omega) (by decide) (fun h59 => ?_) (fun h59 => ?_) | refine v_icmp_lt C 65 dX1_walk_59 (by decide) (fun h59 => ?_) (fun h59 => ?_)
            · rw [if_neg (by omega)] at hw
              refine v_aload_n C dX1_walk_65 rfl ?_
              refine v_aload_n C dX1_walk_66 rfl ?_
              refine v_aload_n C dX1_walk_67 rfl ?_
              refine g_1_0 C (by assumption) (by assumption) wt_47 dX1_walk_68 ?_
              refine v_iload_n C dX1_walk_71 rfl ?_
              first | refine v_ialdN C (by assumption) (by omega) (by omega) dX1_walk_72 ?_ | refine v_iald C (by assumption) (by assumption) dX1_walk_72 ?_
              rw [wc]
              refine v_iload C dX1_walk_73 rfl ?_
              refine v_callV2_1 C (m_X2_rowAt T B) lk_X1_44 ⟨wt_201, wt_202⟩ 2 rfl dX1_walk_75 ⟨by show 1 + 1 ≤ e + 1 + 3; omega, by show 8 + (3 + 11) + 64 * 1 ≤ 64 * (e + 1 + 3); omega⟩ (Nat.le_of_ble_eq_true rfl) ⟨Nat.le_of_ble_eq_true rfl, Nat.le_of_ble_eq_true rfl⟩ (by assumption) (cTo_2 (by assumption)) ?_
              refine c_X2_rowAt hSc0 (hcho dp (by omega)).2 (by omega) ?_
              rw [wr]
              refine v_callV1_1 C (m_X1_keepIfIndependent T B) lk_X1_48 ⟨wt_389, ws_9⟩ 1 rfl dX1_walk_78 ⟨by show 2 + 1 ≤ e + 1 + 3; omega, by show 8 + (4 + 11) + 64 * 2 ≤ 64 * (e + 1 + 3); omega⟩ (Nat.le_of_ble_eq_true rfl) ⟨Nat.le_of_ble_eq_true rfl, Nat.le_of_ble_eq_true rfl⟩ (by assumption) (cTo_1 (by assumption)) ?_
              refine c_X1_keepIfIndependent hR0 w3 (by omega) wK hrow.2 ⟨fun h0 => ?_, fun h0 => ?_⟩
              · first | refine v_if_neN C 97 dX1_walk_81 (by omega) (by decide) (fun h81 => ?_) (fun h81 => ?_) | refine v_if_ne C 97 dX1_walk_81 (by decide) (fun h81 => ?_) (fun h81 => ?_)
                · exact absurd rfl h81
                · refine v_aload_n C dX1_walk_84 rfl ?_
                  refine v_aload_n C dX1_walk_85 rfl ?_
                  first | refine gv_1_3 C (by assumption) (by assumption) wt_50 dX1_walk_86 ?_ | refine g_1_3 C (by assumption) wt_50 dX1_walk_86 ?_
                  refine v_iconstN 1 C dX1_walk_89 ?_
                  first | refine v_iaddN C dX1_walk_90 ?_ | refine v_iadd C dX1_walk_90 ?_
                  refine p_1_4 C (by assumption) wt_51 dX1_walk_91 ?_
                  refine v_goto C 103 dX1_walk_94 (by decide) ?_
                  exact v_less (fin _ (fun q k q1 q2 q3 => by rw [mu_other _ _ q2]; exact wF q k q1 q2 q3) (by rw [mu_at, ← hw, if_pos h0])) (by repeat (first | exact trivial | refine And.intro rfl ?_))
              · first | refine v_if_neN C 97 dX1_walk_81 (by omega) (by decide) (fun h81 => ?_) (fun h81 => ?_) | refine v_if_ne C 97 dX1_walk_81 (by decide) (fun h81 => ?_) (fun h81 => ?_)
                · first | refine v_iincN 1 C dX1_walk_97 rfl (by decide) ?_ | refine v_iinc C dX1_walk_97 rfl rfl (by decide) ?_
                  refine v_goto C 23 dX1_walk_100 (by decide) ?_
                  rw [if_neg (by omega)] at hw
                  refine v_less (ihf (i + 1) (by omega) _ (n' + 1) L1 _ (by omega) (by omega) (by omega) (fun q k q1 q2 q3 => ?_) (mu_at _ _ _ _) ?_ (fun q hq => ?_) hw) (by repeat (first | exact trivial | refine And.intro rfl ?_))
                  · rw [mu_other _ _ q3, mu_other _ _ (fun e => q1 ⟨e.1, by omega⟩)]; exact wF q k q1 q2 q3
                  · rw [mu_other _ _ (by omega), mu_ne _ _ (by omega)]; exact h42
                  · rw [mu_ne _ _ (by omega)]
                    by_cases eq : q = n'
                    · subst eq; rw [mu_at, va_up_self]; exact ⟨rfl, rd_lt (fun t ht => (wK t ht).2) hrow.2⟩
                    · rw [mu_other _ _ (fun e => eq e.2), va_up_ne _ _ eq]; exact wK q (by omega)
                · exact absurd h81 (by decide)
            · rw [if_pos (by omega)] at hw
              refine v_goto C 103 dX1_walk_62 (by decide) ?_
              exact v_less (fin I2 wF (by rw [h42, hw])) (by repeat (first | exact trivial | refine And.intro rfl ?_))
    refine v_iload_n C dX1_walk_0 rfl ?_
    refine v_aload_n C dX1_walk_1 rfl ?_
    first | refine gv_1_2 C (by assumption) (by assumption) wt_49 dX1_walk_2 ?_ | refine g_1_2 C (by assumption) wt_49 dX1_walk_2 ?_
    first | refine v_icmp_geN C 14 dX1_walk_5 (by omega) (by omega) (by decide) (fun h5 => ?_) (fun h5 => ?_) | refine v_icmp_ge C 14 dX1_walk_5 (by decide) (fun h5 => ?_) (fun h5 => ?_)
    · exact absurd h5 (by omega)
    · refine v_iload_n C dX1_walk_8 rfl ?_
      refine v_bipushN 6 (by decide) C dX1_walk_9 ?_
      first | refine v_icmp_ltN C 15 dX1_walk_11 (by omega) (by omega) (by decide) (fun h11 => ?_) (fun h11 => ?_) | refine v_icmp_lt C 15 dX1_walk_11 (by decide) (fun h11 => ?_) (fun h11 => ?_)
      · refine v_aload_n C dX1_walk_15 rfl ?_
        first | refine gv_1_3 C (by assumption) (by assumption) wt_50 dX1_walk_16 ?_ | refine g_1_3 C (by assumption) wt_50 dX1_walk_16 ?_
        refine v_istore_n C dX1_walk_19 (by decide) ?_
        refine v_iconstN 0 C dX1_walk_20 ?_
        refine v_istore C dX1_walk_21 (by decide) ?_
        exact loop p 0 (by omega) K n L I (Nat.le_refl _) hnL hLp (fun _ _ _ _ _ => rfl) hn hL hK rfl
      · exact absurd h11 (by omega)
