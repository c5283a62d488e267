/-! cuts by the places of the free DIRECTIONS -/
def mO (fr e : Nat → Nat) : Nat → Nat → Nat
  | 0, _ => 0
  | K + 1, j => if fr K = j then e K else mO fr e K j
theorem mO_congr {fr e e' : Nat → Nat} : ∀ {K : Nat}, (∀ i, i < K → e i = e' i) → ∀ j, mO fr e K j = mO fr e' K j
  | 0, _, _ => rfl
  | K + 1, h, j => by
    simp only [mO]
    rw [h K (by omega), mO_congr (fun i hi => h i (by omega)) j]
theorem mO_no {fr e : Nat → Nat} {j : Nat} : ∀ {K : Nat}, (∀ i, i < K → fr i ≠ j) → mO fr e K j = 0
  | 0, _ => rfl
  | K + 1, h => by
    simp only [mO]
    rw [if_neg (h K (by omega)), mO_no (fun i hi => h i (by omega))]
theorem mO_at {fr e : Nat → Nat} {i : Nat} : ∀ {K : Nat}, (∀ a b, a < K → b < K → fr a = fr b → a = b) → i < K → mO fr e K (fr i) = e i
  | 0, _, h => absurd h (by omega)
  | K + 1, inj, h => by
    simp only [mO]
    by_cases c : fr K = fr i
    · rw [if_pos c, inj K i (by omega) h c]
    · rw [if_neg c]
      exact mO_at (fun a b ha hb => inj a b (by omega) (by omega)) (by
        have : i ≠ K := fun q => c (by rw [q])
        omega)
/-- one place of the cuts has changed -/
theorem mO_up {fr e : Nat → Nat} {i v K : Nat} (inj : ∀ a b, a < K → b < K → fr a = fr b → a = b) (hi : i < K) (j : Nat) : mO fr (upN e i v) K j = if j = fr i then v else mO fr e K j := by
  by_cases c : j = fr i
  · subst c
    rw [if_pos rfl, mO_at inj hi, upN_at]
  · rw [if_neg c]
    clear inj hi
    induction K with
    | zero => rfl
    | succ K ih =>
      simp only [mO]
      by_cases c2 : fr K = j
      · rw [if_pos c2, if_pos c2, upN_ne]
        exact fun q => c (by rw [← c2, q])
      · rw [if_neg c2, if_neg c2, ih]
theorem sumN_up0 {f : Nat → Nat} {j v d : Nat} (hj : j < d) (h0 : f j = 0) : sumN (upN f j v) d = sumN f d + v := by
  induction d with
  | zero => omega
  | succ d ih =>
    simp only [sumN]
    by_cases c : j = d
    · subst c
      rw [upN_at, h0, sumN_congr (g := f) (fun i hi => upN_ne _ _ (by omega)), Nat.add_zero]
    · rw [ih (by omega), upN_ne _ _ (by omega)]
      omega
theorem sumN_0 : ∀ d, sumN (fun _ => 0) d = 0
  | 0 => rfl
  | d + 1 => by simp only [sumN, sumN_0 d]
theorem sum_mO {fr e : Nat → Nat} {d : Nat} : ∀ {K : Nat}, (∀ a b, a < K → b < K → fr a = fr b → a = b) → (∀ i, i < K → fr i < d) → sumN (mO fr e K) d = sumN e K
  | 0, _, _ => sumN_0 d
  | K + 1, inj, hf => by
    have ih := sum_mO (e := e) (K := K) (fun a b ha hb => inj a b (by omega) (by omega)) (fun i hi => hf i (by omega))
    have e1 : sumN (mO fr e (K + 1)) d = sumN (upN (mO fr e K) (fr K) (e K)) d := sumN_congr (fun j _ => by
      simp only [mO, upN]
      by_cases c : fr K = j
      · rw [if_pos c, if_pos c.symm]
      · rw [if_neg c, if_neg (fun q => c q.symm)])
    rw [e1, sumN_up0 (hf K (by omega)) (mO_no (fun i hi q => by have := inj i K (by omega) (by omega) q; omega)), ih]
    rfl
theorem sumN_ge {f : Nat → Nat} {j d : Nat} (hj : j < d) : f j ≤ sumN f d := by
  have h1 := sumN_mono (m := f) (show j + 1 ≤ d by omega)
  have h2 : sumN f (j + 1) = sumN f j + f j := rfl
  omega
def Ev (D : SD) (fr : Nat → Nat) (K : Nat) (e : Nat → Nat) : Prop := ∀ b, b < 2 ^ sumN (mO fr e K) (D 2 0) → qB D (mO fr e K) b * 2 ^ sumN (mO fr e K) (D 2 0) = D 4 0
theorem Ev_congr {D : SD} {fr : Nat → Nat} {K : Nat} {e e' : Nat → Nat} (h : ∀ i, i < K → e i = e' i) (hE : Ev D fr K e) : Ev D fr K e' := by
  have : mO fr e K = mO fr e' K := funext (mO_congr h)
  unfold Ev at hE ⊢
  rw [← this]; exact hE
def sel (w d j : Nat) : Bool := decide (j < d) && decide (w / 2 ^ j % 2 = 1)
def kN (w d : Nat) : Nat → Nat
  | 0 => 0
  | j + 1 => kN w d j + b2 (sel w d j)
def frN (w d : Nat) : Nat → Nat → Nat
  | 0 => fun _ => 0
  | j + 1 => if sel w d j = true then upN (frN w d j) (kN w d j) j else frN w d j
theorem kN_le (w d : Nat) : ∀ j, kN w d j ≤ j
  | 0 => Nat.le_refl 0
  | j + 1 => by
    have := kN_le w d j
    have := b2_lt (sel w d j)
    simp only [kN]
    omega
/-- the places below K - 1 that are 0 add nothing -/
theorem sumN_tail {e : Nat → Nat} {j : Nat} : ∀ n, (∀ i, j ≤ i → i < j + n → e i = 0) → sumN e (j + n) = sumN e j
  | 0, _ => rfl
  | n + 1, h => by
    show sumN e (j + n) + e (j + n) = _
    rw [sumN_tail n (fun i h1 h2 => h i h1 (by omega)), h (j + n) (by omega) (by omega), Nat.add_zero]
theorem nI_ix (j : Nat) : nI (j + 1) - nI 1 = nI j := by
  have := nI_pred j
  exact this
theorem nI_k2 (a : Nat) : nI (a + 1) - nI 2 = nI a - nI 1 := by
  rw [nI_succ, show nI 2 = 1 + nI 1 by decide, Int32.sub_eq_add_neg, Int32.sub_eq_add_neg, Int32.neg_add, Int32.add_assoc]
  congr 1
theorem nI_m1 (j : Nat) : nI j + Int32.ofInt (-1) = nI j - nI 1 := by
  rw [Int32.sub_eq_add_neg]; rfl
def s_X5_areEven : Sp := fun av z S I J R Post => ∃ (M k w t K : Nat), ∃ (D : SD), ∃ (fr : Nat → Nat), av = [.ref M, .int (nI k), .int (nI t), .int (nI w)] ∧ (MoS S R M) ∧ (MsR I M k D) ∧ (k < 12) ∧ (OkD D) ∧ (D 1 0 < 3) ∧ (w < 64) ∧ (t ≤ D 3 0) ∧ (kN w (D 2 0) 6 = K) ∧ (frN w (D 2 0) 6 = fr) ∧ (1 ≤ K) ∧ (∀ i, i < K → fr i < D 2 0) ∧ (∀ a b, a < K → b < K → fr a = fr b → a = b) ∧ (((∀ e, sumN e K = t → Ev D fr K e) → ∀ I' : MI, FrS I I' (M + 15) (M + 17) → Post (nI 1) 0 none z S I' J R) ∧ (∀ e, sumN e K = t → ¬ Ev D fr K e → ∀ I' : MI, FrS I I' (M + 15) (M + 17) → Post (nI 0) 0 none z S I' J R))
theorem c_X5_areEven {M k w t K : Nat} {D : SD} {fr : Nat → Nat} {z : Nat} {S : MS} {I : MI} {J : MJ} {R : MR} {Post : PT} (hM : MoS S R M) (hD : MsR I M k D) (hk : k < 12) (hO : OkD D) (hk3 : D 1 0 < 3) (hw : w < 64) (ht : t ≤ D 3 0) (hKe : kN w (D 2 0) 6 = K) (hfe : frN w (D 2 0) 6 = fr) (hK1 : 1 ≤ K) (hf : ∀ i, i < K → fr i < D 2 0) (inj : ∀ a b, a < K → b < K → fr a = fr b → a = b) (hp : ((∀ e, sumN e K = t → Ev D fr K e) → ∀ I' : MI, FrS I I' (M + 15) (M + 17) → Post (nI 1) 0 none z S I' J R) ∧ (∀ e, sumN e K = t → ¬ Ev D fr K e → ∀ I' : MI, FrS I I' (M + 15) (M + 17) → Post (nI 0) 0 none z S I' J R)) : s_X5_areEven [.ref M, .int (nI k), .int (nI t), .int (nI w)] z S I J R Post := ⟨M, k, w, t, K, D, fr, rfl, hM, hD, hk, hO, hk3, hw, ht, hKe, hfe, hK1, hf, inj, hp⟩
set_option maxRecDepth 100000 in
set_option maxHeartbeats 4000000 in
theorem m_X5_areEven (T : TC) (B : Nat) : Mt T B yX5_areEven cX5_areEven 8 (some .boolean) 1 (rmL 4 0 0) s_X5_areEven := by
  refine Mt_of rfl (by rintro _ _ _ _ _ _ _ ⟨_, _, _, _, _, _, _, rfl, -⟩; exact Nat.le_of_ble_eq_true rfl) ?_
  intro X av z S I J R Post h C Q hI
  obtain ⟨M, k, w, t, K, D, fr, rfl, hM, hD, hk, hO, hk3, hw, ht, hKe, hfe, hK1, hf, inj, hp⟩ := h
  obtain ⟨hS0, hr1, hr2, hr3, hr4, hr5, hr6, hr7, hr8, hr9, hr10, hr11, hr12, hr14, hr15, hr16, hr17, hr18, hr19, hr20, hs1, hs2, hs3, hs4, hs5, hs6, hs7, hs8, hs9, hs10, hs11, hs12, hs13, hs14, hs15, hs16, hs17, hs18, hs19⟩ := id hM
  obtain ⟨g1, g2, g3, g4, g5, g6, g7, g8, g9⟩ := id hD
  obtain ⟨o1, o2, o3, o4, o5, o6, o7, o8, o9, o10, o11, o12⟩ := id hO
  have hK6 : K ≤ 6 := by rw [← hKe]; exact kN_le _ _ _
  have hl6 : fr (K - 1) < 6 := by have := hf (K - 1) (by omega); omega
  have Mc : ∀ (I' : MI) (e e' : Nat → Nat), (∀ i, i < K → e i = e' i) → (∀ j, j < 6 → I' (M + 16) j = nI (mO fr e K j)) → (∀ j, j < 6 → I' (M + 16) j = nI (mO fr e' K j)) := fun I' e e' h hI j hj => by rw [hI j hj, mO_congr h]
  -- the loop's head with even cuts: on to the carry; with others: false
  have step : ∀ e : Nat → Nat, sumN e K = t → (Ev D fr K e → ∀ I' : MI, FrS I I' (M + 15) (M + 17) → (∀ j, j < 6 → I' (M + 16) j = nI (mO fr (upN e (K - 1) 0) K j)) → (∀ i, i < K → I' (M + 17) i = nI (fr i)) → V X 0 0 z S I' J R 110 [some (.ref M), some (.int (nI k)), none, none, some (.int (nI K)), some (.int (nI (fr (K - 1)))), some (.int (nI (e (K - 1)))), some (.int (nI (K - 1) - nI 1))] []) → ∀ I' : MI, FrS I I' (M + 15) (M + 17) → (∀ j, j < 6 → I' (M + 16) j = nI (mO fr e K j)) → (∀ i, i < K → I' (M + 17) i = nI (fr i)) → V X 0 0 z S I' J R 79 [some (.ref M), some (.int (nI k)), none, none, some (.int (nI K)), some (.int (nI (fr (K - 1)))), none, none] [] := by
    intro e hs hc I' hF hcut hfre
    have hsm : sumN (mO fr e K) (D 2 0) = t := by rw [sum_mO inj hf, hs]
    have hfin : ¬ Ev D fr K e → ∀ I2 : MI, FrS I' I2 (M + 15) (M + 15) → Post (nI 0) 0 none z S I2 J R := fun hn I2 hF2 => hp.2 e hs hn I2 (hF.tr (hF2.wide (by omega) (by omega)))
    refine v_aload_n C dX5_areEven_79 rfl ?_
    refine v_iload_n C dX5_areEven_80 rfl ?_
    refine v_callV1_1 C (m_X5_uneven T B) lk_X5_122 ⟨wt_711, ws_25⟩ 5 rfl dX5_areEven_81 ⟨Nat.le_of_ble_eq_true rfl, Nat.le_of_ble_eq_true rfl⟩ (Nat.le_of_ble_eq_true rfl) ⟨Nat.le_of_ble_eq_true rfl, Nat.le_of_ble_eq_true rfl⟩ (by assumption) (cTo_5 (by assumption)) ?_
    refine c_X5_uneven (D := D) (m := mO fr e K) hM (hD.up (fun q i h1 h2 => hF q i (by omega))) hk hO (by omega) (fun j hj => ⟨hcut j (by omega), by have := sumN_ge (f := mO fr e K) hj; omega⟩) (by rw [hsm]; omega) ⟨fun b hb hall hn I2 hF2 hI2 => ?_, fun hall I2 hF2 => ?_⟩
    · have hb16 : 2 ^ sumN (mO fr e K) (D 2 0) ≤ 65536 := Nat.le_trans (Nat.pow_le_pow_right (by decide) (show sumN (mO fr e K) (D 2 0) ≤ 16 by rw [hsm]; omega)) (by decide)
      first | refine v_if_geN C 190 dX5_areEven_84 (by omega) (by decide) (fun h84 => ?_) (fun h84 => ?_) | refine v_if_ge C 190 dX5_areEven_84 (by decide) (fun h84 => ?_) (fun h84 => ?_)
      · refine v_iconstN 0 C dX5_areEven_190 ?_
        refine v_zret C Q dX5_areEven_191 (Nat.le_of_ble_eq_true rfl) (Nat.le_of_ble_eq_true rfl) nz_0 ?_
        exact hfin (fun q => hn (q b hb)) I2 hF2
      · exact absurd h84 (fun q => q)
    · have c16 : ∀ j, j < 6 → I2 (M + 16) j = nI (mO fr e K j) := fun j hj => (hF2 _ _ (by omega)).trans (hcut j hj)
      have c17 : ∀ i, i < K → I2 (M + 17) i = nI (fr i) := fun i hi => (hF2 _ _ (by omega)).trans (hfre i hi)
      have cl := c16 _ hl6
      rw [mO_at inj (show K - 1 < K by omega)] at cl
      refine v_if_ge C 190 dX5_areEven_84 (by decide) (fun h84 => ?_) (fun h84 => ?_)
      · exact absurd h84 (by decide)
      · refine v_aload_n C dX5_areEven_87 rfl ?_
        refine g_5_17 C (by assumption) (by assumption) wt_550 dX5_areEven_88 ?_
        refine v_iload C dX5_areEven_91 rfl ?_
        first | refine v_ialdN C (by assumption) (by omega) (by omega) dX5_areEven_93 ?_ | refine v_iald C (by assumption) (by assumption) dX5_areEven_93 ?_
        rw [cl]
        refine v_istore C dX5_areEven_94 (by decide) ?_
        refine v_aload_n C dX5_areEven_96 rfl ?_
        refine g_5_17 C (by assumption) (by assumption) wt_550 dX5_areEven_97 ?_
        refine v_iload C dX5_areEven_100 rfl ?_
        refine v_iconstN 0 C dX5_areEven_102 ?_
        first | refine v_iastN C (by assumption) (by omega) (by omega) dX5_areEven_103 ?_ | refine v_iast C (by assumption) (by assumption) dX5_areEven_103 ?_
        refine v_iload C dX5_areEven_104 rfl ?_
        refine v_iconstN 2 C dX5_areEven_106 ?_
        refine v_isub C dX5_areEven_107 ?_
        rw [show nI K - nI 2 = nI (K - 1) - nI 1 from by obtain ⟨a, rfl⟩ : ∃ a, K = a + 1 := ⟨K - 1, by omega⟩; exact nI_k2 a]
        refine v_istore C dX5_areEven_108 (by decide) ?_
        refine v_less (hc hall _ (hF.tr ((hF2.wide (by omega) (by omega)).mu (by omega) (by omega))) (fun j hj => ?_) (fun i hi => by rw [mu_ne _ _ (by omega)]; exact c17 i hi)) (by repeat (first | exact trivial | refine And.intro rfl ?_))
        rw [mO_up inj (by omega)]
        by_cases c : j = fr (K - 1)
        · subst c; rw [mu_at, if_pos rfl]
        · rw [mu_other _ _ (fun q => c q.2), if_neg c]; exact c16 j hj
  -- all cuts whose first j places are e's
  have main : ∀ n j : Nat, j + n = K - 1 → ∀ (r : Nat) (e : Nat → Nat), (∀ i, j ≤ i → i < K - 1 → e i = 0) → e (K - 1) = r → sumN e K = t → ((∀ e' : Nat → Nat, (∀ i, i < j → e' i = e i) → sumN e' K = t → Ev D fr K e') → ∀ I' : MI, FrS I I' (M + 15) (M + 17) → (∀ q, q < 6 → I' (M + 16) q = nI (mO fr (fun i => if j ≤ i then 0 else e i) K q)) → (∀ i, i < K → I' (M + 17) i = nI (fr i)) → V X 0 0 z S I' J R 110 [some (.ref M), some (.int (nI k)), none, none, some (.int (nI K)), some (.int (nI (fr (K - 1)))), some (.int (nI (r))), some (.int (nI (j) - nI 1))] []) → ∀ I' : MI, FrS I I' (M + 15) (M + 17) → (∀ j, j < 6 → I' (M + 16) j = nI (mO fr e K j)) → (∀ i, i < K → I' (M + 17) i = nI (fr i)) → V X 0 0 z S I' J R 79 [some (.ref M), some (.int (nI k)), none, none, some (.int (nI K)), some (.int (nI (fr (K - 1)))), none, none] [] := by
    intro n
    induction n with
    | zero =>
      intro j hj r e hz hr hs hcont
      obtain rfl : j = K - 1 := by omega
      refine step e hs (fun hE I' hF hc hfre => ?_)
      rw [hr]
      refine hcont (fun e' ha hs' => Ev_congr (fun i hi => ?_) hE) I' hF (fun q hq => ?_) hfre
      · by_cases c : i < K - 1
        · exact (ha i c).symm
        · obtain rfl : i = K - 1 := by omega
          have q1 : sumN e K = sumN e (K - 1) + e (K - 1) := by
            conv => lhs; rw [show K = (K - 1) + 1 by omega]
            rfl
          have q2 : sumN e' K = sumN e' (K - 1) + e' (K - 1) := by
            conv => lhs; rw [show K = (K - 1) + 1 by omega]
            rfl
          have q3 : sumN e' (K - 1) = sumN e (K - 1) := sumN_congr (fun i hi => ha i hi)
          omega
      · rw [hc q hq]
        congr 1
        refine mO_congr (fun i hi => ?_) q
        by_cases c : K - 1 ≤ i
        · obtain rfl : i = K - 1 := by omega
          rw [upN_at, if_pos (Nat.le_refl _)]
        · rw [upN_ne _ _ (by omega), if_neg c]
    | succ n ih =>
      intro j hj r e hz hr hs hcont
      have hsK : ∀ f : Nat → Nat, sumN f K = sumN f (K - 1) + f (K - 1) := fun f => by
        conv => lhs; rw [show K = (K - 1) + 1 by omega]
        rfl
      have hse : sumN e j + r = t := by
        rw [← hs, hsK e, hr, show K - 1 = j + (n + 1) by omega, sumN_tail (n + 1) (fun i h1 h2 => hz i h1 (by omega))]
      have inr : ∀ g a : Nat, a + g = r → (∀ e' : Nat → Nat, (∀ i, i < j → e' i = e i) → sumN e' K = t → e' j < a → Ev D fr K e') → ∀ ea : Nat → Nat, (∀ i, i < j → ea i = e i) → ea j = a → (∀ i, j < i → i < K - 1 → ea i = 0) → ea (K - 1) = g → ∀ I' : MI, FrS I I' (M + 15) (M + 17) → (∀ j, j < 6 → I' (M + 16) j = nI (mO fr ea K j)) → (∀ i, i < K → I' (M + 17) i = nI (fr i)) → V X 0 0 z S I' J R 79 [some (.ref M), some (.int (nI k)), none, none, some (.int (nI K)), some (.int (nI (fr (K - 1)))), none, none] [] := by
        intro g
        induction g with
        | zero =>
          intro a ha hev ea h1 h2 h3 h4
          have hsa : sumN ea K = t := by
            have q : sumN ea (K - 1) = sumN ea (j + 1) := by
              rw [show K - 1 = j + 1 + n by omega]
              exact sumN_tail n (fun i q1 q2 => h3 i (by omega) (by omega))
            rw [hsK, h4, q]
            show sumN ea j + ea j + 0 = t
            rw [sumN_congr (g := e) h1, h2]
            omega
          refine ih (j + 1) (by omega) 0 ea (fun i q1 q2 => h3 i (by omega) q2) h4 hsa (fun hE I' hF hc hfre => ?_)
          have hfj := hf j (by omega)
          have cj := hc (fr j) (by omega)
          rw [mO_at inj (by omega), if_neg (by omega), h2] at cj
          have cf := hfre j (by omega)
          rw [nI_ix]
          refine v_iload C dX5_areEven_110 rfl ?_
          first | refine v_if_ltN C 153 dX5_areEven_112 (by omega) (by decide) (fun h112 => ?_) (fun h112 => ?_) | refine v_if_lt C 153 dX5_areEven_112 (by decide) (fun h112 => ?_) (fun h112 => ?_)
          · exact absurd h112 (fun q => q)
          · refine v_iload C dX5_areEven_115 rfl ?_
            first | refine v_if_neN C 153 dX5_areEven_117 (by omega) (by decide) (fun h117 => ?_) (fun h117 => ?_) | refine v_if_ne C 153 dX5_areEven_117 (by decide) (fun h117 => ?_) (fun h117 => ?_)
            · exact absurd rfl h117
            · refine v_aload_n C dX5_areEven_120 rfl ?_
              refine g_5_17 C (by assumption) (by assumption) wt_550 dX5_areEven_121 ?_
              refine v_aload_n C dX5_areEven_124 rfl ?_
              refine g_5_18 C (by assumption) (by assumption) wt_551 dX5_areEven_125 ?_
              refine v_iload C dX5_areEven_128 rfl ?_
              first | refine v_ialdN C (by assumption) (by omega) (by omega) dX5_areEven_130 ?_ | refine v_iald C (by assumption) (by assumption) dX5_areEven_130 ?_
              rw [cf]
              first | refine v_ialdN C (by assumption) (by omega) (by omega) dX5_areEven_131 ?_ | refine v_iald C (by assumption) (by assumption) dX5_areEven_131 ?_
              rw [cj]
              refine v_istore C dX5_areEven_132 (by decide) ?_
              refine v_aload_n C dX5_areEven_134 rfl ?_
              refine g_5_17 C (by assumption) (by assumption) wt_550 dX5_areEven_135 ?_
              refine v_aload_n C dX5_areEven_138 rfl ?_
              refine g_5_18 C (by assumption) (by assumption) wt_551 dX5_areEven_139 ?_
              refine v_iload C dX5_areEven_142 rfl ?_
              first | refine v_ialdN C (by assumption) (by omega) (by omega) dX5_areEven_144 ?_ | refine v_iald C (by assumption) (by assumption) dX5_areEven_144 ?_
              rw [cf]
              refine v_iconstN 0 C dX5_areEven_145 ?_
              first | refine v_iastN C (by assumption) (by omega) (by omega) dX5_areEven_146 ?_ | refine v_iast C (by assumption) (by assumption) dX5_areEven_146 ?_
              refine v_iinc C dX5_areEven_147 rfl (show nI j + Int32.ofInt (-1) = nI j - nI 1 from nI_m1 j) (by decide) ?_
              refine v_goto C 110 dX5_areEven_150 (by decide) ?_
              have hh := hcont (fun e' q1 q2 => by
                by_cases c : e' j < a
                · exact hev e' q1 q2 c
                · have q3 : sumN e' j + e' j ≤ sumN e' K := sumN_mono (show j + 1 ≤ K by omega)
                  rw [sumN_congr (g := e) q1] at q3
                  exact hE e' (fun i hi => by
                    by_cases c2 : i < j
                    · rw [q1 i c2, h1 i c2]
                    · obtain rfl : i = j := by omega
                      omega) q2) _ (hF.mu (b := M + 16) (k := fr j) (x := nI 0) (by omega) (by omega)) (fun q hq => by
                by_cases c : q = fr j
                · subst c
                  rw [mu_at, mO_at inj (by omega), if_pos (Nat.le_refl _)]
                · rw [mu_other _ _ (fun p => c p.2), hc q hq]
                  have e1 := mO_up (e := fun i => if j + 1 ≤ i then 0 else ea i) (v := 0) inj (show j < K by omega) q
                  rw [if_neg c] at e1
                  rw [← e1]
                  congr 1
                  refine mO_congr (fun i hi => ?_) q
                  by_cases c2 : i = j
                  · subst c2; rw [upN_at, if_pos (Nat.le_refl _)]
                  · rw [upN_ne _ _ c2]
                    by_cases c3 : j + 1 ≤ i
                    · rw [if_pos c3, if_pos (by omega)]
                    · rw [if_neg c3, if_neg (by omega), h1 i (by omega)]) (fun i hi => by rw [mu_ne _ _ (by omega)]; exact hfre i hi)
              rw [show a = r by omega]
              exact v_less hh (by repeat (first | exact trivial | refine And.intro rfl ?_))
        | succ g ihg =>
          intro a ha hev ea h1 h2 h3 h4
          have hsa : sumN ea K = t := by
            have q : sumN ea (K - 1) = sumN ea (j + 1) := by
              rw [show K - 1 = j + 1 + n by omega]
              exact sumN_tail n (fun i q1 q2 => h3 i (by omega) (by omega))
            rw [hsK, h4, q]
            show sumN ea j + ea j + (g + 1) = t
            rw [sumN_congr (g := e) h1, h2]
            omega
          refine ih (j + 1) (by omega) (g + 1) ea (fun i q1 q2 => h3 i (by omega) q2) h4 hsa (fun hE I' hF hc hfre => ?_)
          have hfj := hf j (by omega)
          have cj := hc (fr j) (by omega)
          rw [mO_at inj (by omega), if_neg (by omega), h2] at cj
          have cf := hfre j (by omega)
          have hjl : fr j ≠ fr (K - 1) := fun q => by have := inj j (K - 1) (by omega) (by omega) q; omega
          rw [nI_ix]
          refine v_iload C dX5_areEven_110 rfl ?_
          first | refine v_if_ltN C 153 dX5_areEven_112 (by omega) (by decide) (fun h112 => ?_) (fun h112 => ?_) | refine v_if_lt C 153 dX5_areEven_112 (by decide) (fun h112 => ?_) (fun h112 => ?_)
          · exact absurd h112 (fun q => q)
          · refine v_iload C dX5_areEven_115 rfl ?_
            first | refine v_if_neN C 153 dX5_areEven_117 (by omega) (by decide) (fun h117 => ?_) (fun h117 => ?_) | refine v_if_ne C 153 dX5_areEven_117 (by decide) (fun h117 => ?_) (fun h117 => ?_)
            · refine v_iload C dX5_areEven_153 rfl ?_
              first | refine v_if_geN C 160 dX5_areEven_155 (by omega) (by decide) (fun h155 => ?_) (fun h155 => ?_) | refine v_if_ge C 160 dX5_areEven_155 (by decide) (fun h155 => ?_) (fun h155 => ?_)
              · refine v_aload_n C dX5_areEven_160 rfl ?_
                refine g_5_17 C (by assumption) (by assumption) wt_550 dX5_areEven_161 ?_
                refine v_aload_n C dX5_areEven_164 rfl ?_
                refine g_5_18 C (by assumption) (by assumption) wt_551 dX5_areEven_165 ?_
                refine v_iload C dX5_areEven_168 rfl ?_
                first | refine v_ialdN C (by assumption) (by omega) (by omega) dX5_areEven_170 ?_ | refine v_iald C (by assumption) (by assumption) dX5_areEven_170 ?_
                rw [cf]
                refine v_dup2 C dX5_areEven_171 rfl rfl ?_
                first | refine v_ialdN C (by assumption) (by omega) (by omega) dX5_areEven_172 ?_ | refine v_iald C (by assumption) (by assumption) dX5_areEven_172 ?_
                rw [cj]
                refine v_iconstN 1 C dX5_areEven_173 ?_
                first | refine v_iaddN C dX5_areEven_174 ?_ | refine v_iadd C dX5_areEven_174 ?_
                first | refine v_iastN C (by assumption) (by omega) (by omega) dX5_areEven_175 ?_ | refine v_iast C (by assumption) (by assumption) dX5_areEven_175 ?_
                refine v_aload_n C dX5_areEven_176 rfl ?_
                refine g_5_17 C (by assumption) (by assumption) wt_550 dX5_areEven_177 ?_
                refine v_iload C dX5_areEven_180 rfl ?_
                refine v_iload C dX5_areEven_182 rfl ?_
                refine v_iconstN 1 C dX5_areEven_184 ?_
                first | refine v_isubN C dX5_areEven_185 (by omega) ?_ | refine v_isub C dX5_areEven_185 ?_
                first | refine v_iastN C (by assumption) (by omega) (by omega) dX5_areEven_186 ?_ | refine v_iast C (by assumption) (by assumption) dX5_areEven_186 ?_
                refine v_goto C 79 dX5_areEven_187 (by decide) ?_
                refine v_less (ihg (a + 1) (by omega) (fun e' q1 q2 q3 => ?_) (upN (upN (fun i => if j + 1 ≤ i then 0 else ea i) j (a + 1)) (K - 1) g) (fun i hi => ?_) ?_ (fun i q1 q2 => ?_) (upN_at _ _ _) _ ((hF.mu (by omega) (by omega)).mu (by omega) (by omega)) (fun q hq => ?_) (fun i hi => ?_)) (by repeat (first | exact trivial | refine And.intro rfl ?_))
                · by_cases c : e' j < a
                  · exact hev e' q1 q2 c
                  · exact hE e' (fun i hi => by
                      by_cases c2 : i < j
                      · rw [q1 i c2, h1 i c2]
                      · obtain rfl : i = j := by omega
                        omega) q2
                · rw [upN_ne _ _ (by omega), upN_ne _ _ (by omega), if_neg (by omega)]; exact h1 i hi
                · rw [upN_ne _ _ (by omega), upN_at]
                · rw [upN_ne _ _ (by omega), upN_ne _ _ (by omega), if_pos (by omega)]
                · rw [mO_up inj (by omega), mO_up inj (by omega)]
                  by_cases c : q = fr (K - 1)
                  · subst c; rw [mu_at, if_pos rfl, Nat.add_sub_cancel]
                  · rw [mu_other _ _ (fun p => c p.2), if_neg c]
                    by_cases c2 : q = fr j
                    · subst c2; rw [mu_at, if_pos rfl]
                    · rw [mu_other _ _ (fun p => c2 p.2), if_neg c2]; exact hc q hq
                · rw [mu_ne _ _ (by omega), mu_ne _ _ (by omega)]; exact hfre i hi
              · exact absurd h155 (fun q => q)
            · exact absurd h117 (by omega)
      intro I' hF hc hfre
      exact inr r 0 (by omega) (fun e' _ _ q => absurd q (by omega)) e (fun _ _ => rfl) (hz j (by omega) (by omega)) (fun i q1 q2 => hz i (by omega) q2) hr I' hF hc hfre
  -- from the first cuts on
  have go : ∀ I' : MI, FrS I I' (M + 15) (M + 17) → (∀ j, j < 6 → I' (M + 16) j = 0) → (∀ i, i < K → I' (M + 17) i = nI (fr i)) → V X 0 0 z S I' J R 60 [some (.ref M), some (.int (nI k)), some (.int (nI t)), none, some (.int (nI K)), none, none, none] [] := by
    intro I' hF hc hfre
    have cf := hfre (K - 1) (by omega)
    refine v_aload_n C dX5_areEven_60 rfl ?_
    refine g_5_18 C (by assumption) (by assumption) wt_551 dX5_areEven_61 ?_
    refine v_iload C dX5_areEven_64 rfl ?_
    refine v_iconstN 1 C dX5_areEven_66 ?_
    first | refine v_isubN C dX5_areEven_67 (by omega) ?_ | refine v_isub C dX5_areEven_67 ?_
    first | refine v_ialdN C (by assumption) (by omega) (by omega) dX5_areEven_68 ?_ | refine v_iald C (by assumption) (by assumption) dX5_areEven_68 ?_
    rw [cf]
    refine v_istore C dX5_areEven_69 (by decide) ?_
    refine v_aload_n C dX5_areEven_71 rfl ?_
    refine g_5_17 C (by assumption) (by assumption) wt_550 dX5_areEven_72 ?_
    refine v_iload C dX5_areEven_75 rfl ?_
    refine v_iload_n C dX5_areEven_77 rfl ?_
    first | refine v_iastN C (by assumption) (by omega) (by omega) dX5_areEven_78 ?_ | refine v_iast C (by assumption) (by assumption) dX5_areEven_78 ?_
    refine v_less (main (K - 1) 0 (by omega) t (upN (fun _ => 0) (K - 1) t) (fun i q1 q2 => upN_ne _ _ (by omega)) (upN_at _ _ _) ?_ (fun hE I2 hF2 hc2 hfre2 => ?_) _ (hF.mu (by omega) (by omega)) (fun q hq => ?_) (fun i hi => by rw [mu_ne _ _ (by omega)]; exact hfre i hi)) (by repeat (first | exact trivial | refine And.intro rfl ?_))
    · rw [sumN_up0 (by omega) rfl, sumN_0, Nat.zero_add]
    · have h1' := hp.1 (fun e he => hE e (fun i hi => absurd hi (by omega)) he) I2 hF2
      refine v_iload C dX5_areEven_110 rfl ?_
      refine v_if_lt C 153 dX5_areEven_112 (by decide) (fun h112 => ?_) (fun h112 => ?_)
      · refine v_iload C dX5_areEven_153 rfl ?_
        refine v_if_ge C 160 dX5_areEven_155 (by decide) (fun h155 => ?_) (fun h155 => ?_)
        · exact absurd h155 (by decide)
        · refine v_iconstN 1 C dX5_areEven_158 ?_
          refine v_zret C Q dX5_areEven_159 (Nat.le_of_ble_eq_true rfl) (Nat.le_of_ble_eq_true rfl) nz_1 ?_
          exact h1'
      · exact absurd (show nI 0 - nI 1 < 0 by decide) h112
    · rw [mO_up inj (by omega)]
      by_cases c : q = fr (K - 1)
      · subst c; rw [mu_at, if_pos rfl]
      · rw [mu_other _ _ (fun p => c p.2), if_neg c, hc q hq]
        have z0 : ∀ K, mO fr (fun _ => 0) K q = 0 := fun K => by
          induction K with
          | zero => rfl
          | succ K ih => simp only [mO, ih, ite_self]
        rw [z0]; rfl
  have sel0 : ∀ j : Nat, j ≤ 6 → ∀ I' : MI, FrS I I' (M + 15) (M + 17) → (∀ i, i < j → I' (M + 16) i = 0) → (∀ i, i < kN w (D 2 0) j → I' (M + 17) i = nI (frN w (D 2 0) j i)) → V X 0 0 z S I' J R 6 [some (.ref M), some (.int (nI k)), some (.int (nI t)), some (.int (nI w)), some (.int (nI (kN w (D 2 0) j))), some (.int (nI j)), none, none] [] := by
    refine lp_up 6 ?_
    intro j hj ih I' hF hc hfre
    have c2 : I' (M + 2) k = nI (D 2 0) := (hF _ _ (by omega)).trans g2
    have c2' : mu I' (M + 16) j (nI 0) (M + 2) k = nI (D 2 0) := by rw [mu_ne _ _ (by omega)]; exact c2
    have hkj := kN_le w (D 2 0) j
    have hwj : w / 2 ^ j < 2147483648 := Nat.lt_of_le_of_lt (Nat.div_le_self _ _) (by omega)
    have no : ∀ I2 : MI, sel w (D 2 0) j = false → j < 6 → FrS I I2 (M + 15) (M + 17) → (∀ i, i < j + 1 → I2 (M + 16) i = 0) → (∀ i, i < kN w (D 2 0) j → I2 (M + 17) i = nI (frN w (D 2 0) j i)) → V X 0 0 z S I2 J R 54 [some (.ref M), some (.int (nI k)), some (.int (nI t)), some (.int (nI w)), some (.int (nI (kN w (D 2 0) j))), some (.int (nI j)), none, none] [] := by
      intro I2 hse h6 q1 q2 q3
      have hh := ih h6 I2 q1 q2 (by simp only [kN, frN]; rw [hse, if_neg (by decide)]; exact q3)
      simp only [kN] at hh
      rw [hse] at hh
      first | refine v_iincN 1 C dX5_areEven_54 rfl (by decide) ?_ | refine v_iinc C dX5_areEven_54 rfl rfl (by decide) ?_
      refine v_goto C 6 dX5_areEven_57 (by decide) ?_
      exact v_less hh (by repeat (first | exact trivial | refine And.intro rfl ?_))
    have cc : ∀ i, i < j + 1 → mu I' (M + 16) j (nI 0) (M + 16) i = 0 := fun i hi => by
      by_cases e : i = j
      · subst e; rw [mu_at]; rfl
      · rw [mu_other _ _ (fun p => e p.2)]; exact hc i (by omega)
    refine v_iload C dX5_areEven_6 rfl ?_
    refine v_bipushN 6 (by decide) C dX5_areEven_8 ?_
    first | refine v_icmp_geN C 60 dX5_areEven_10 (by omega) (by omega) (by decide) (fun h10 => ?_) (fun h10 => ?_) | refine v_icmp_ge C 60 dX5_areEven_10 (by decide) (fun h10 => ?_) (fun h10 => ?_)
    · obtain rfl : j = 6 := by omega
      rw [hKe]
      rw [hKe, hfe] at hfre
      exact v_less (go I' hF hc hfre) (by repeat (first | exact trivial | refine And.intro rfl ?_))
    · refine v_aload_n C dX5_areEven_13 rfl ?_
      refine g_5_17 C (by assumption) (by assumption) wt_550 dX5_areEven_14 ?_
      refine v_iload C dX5_areEven_17 rfl ?_
      refine v_iconstN 0 C dX5_areEven_19 ?_
      first | refine v_iastN C (by assumption) (by omega) (by omega) dX5_areEven_20 ?_ | refine v_iast C (by assumption) (by assumption) dX5_areEven_20 ?_
      refine v_iload C dX5_areEven_21 rfl ?_
      refine v_aload_n C dX5_areEven_23 rfl ?_
      refine g_5_2 C (by assumption) (by assumption) wt_535 dX5_areEven_24 ?_
      refine v_iload_n C dX5_areEven_27 rfl ?_
      first | refine v_ialdN C (by assumption) (by omega) (by omega) dX5_areEven_28 ?_ | refine v_iald C (by assumption) (by assumption) dX5_areEven_28 ?_
      rw [c2']
      first | refine v_icmp_geN C 54 dX5_areEven_29 (by omega) (by omega) (by decide) (fun h29 => ?_) (fun h29 => ?_) | refine v_icmp_ge C 54 dX5_areEven_29 (by decide) (fun h29 => ?_) (fun h29 => ?_)
      · first
        | exact v_less (no _ (by unfold sel; rw [decide_eq_false (by omega)]; rfl) (by omega) (hF.mu (by omega) (by omega)) cc (fun i hi => by rw [mu_ne _ _ (by omega)]; exact hfre i hi)) (by repeat (first | exact trivial | refine And.intro rfl ?_))
        | exact v_less (no _ (by unfold sel; rw [decide_eq_false h39, Bool.and_false]) (by omega) (hF.mu (by omega) (by omega)) cc (fun i hi => by rw [mu_ne _ _ (by omega)]; exact hfre i hi)) (by repeat (first | exact trivial | refine And.intro rfl ?_))
        | (have hh := ih (by omega) (mu (mu I' (M + 16) j (nI 0)) (M + 17) (kN w (D 2 0) j) (nI j)) ((hF.mu (by omega) (by omega)).mu (by omega) (by omega)) (fun i hi => by rw [mu_ne _ _ (by omega)]; exact cc i hi) (by
             simp only [kN, frN]
             rw [hse, if_pos rfl]
             intro i hi
             by_cases e : i = kN w (D 2 0) j
             · subst e; rw [mu_at, upN_at]
             · rw [mu_other _ _ (fun p => e p.2), mu_ne _ _ (by omega), upN_ne _ _ e]
               exact hfre i (by have : b2 true = 1 := rfl; omega))
           simp only [kN] at hh
           rw [hse] at hh
           refine v_iincN 1 C dX5_areEven_54 rfl (by decide) ?_
           refine v_goto C 6 dX5_areEven_57 (by decide) ?_
           exact v_less hh (by repeat (first | exact trivial | refine And.intro rfl ?_)))
      · refine v_iload_n C dX5_areEven_32 rfl ?_
        refine v_iload C dX5_areEven_33 rfl ?_
        first | refine v_ishrN C dX5_areEven_35 (by omega) (by omega) ?_ | refine v_ishr C dX5_areEven_35 ?_
        refine v_iconstN 1 C dX5_areEven_36 ?_
        first | refine v_iandN C dX5_areEven_37 ?_ | refine v_iand C dX5_areEven_37 ?_
        rw [show w / 2 ^ j &&& 1 = w / 2 ^ j % 2 from Nat.and_one_is_mod _]
        refine v_iconstN 1 C dX5_areEven_38 ?_
        first | refine v_icmp_neN C 54 dX5_areEven_39 (by omega) (by omega) (by decide) (fun h39 => ?_) (fun h39 => ?_) | refine v_icmp_ne C 54 dX5_areEven_39 (by decide) (fun h39 => ?_) (fun h39 => ?_)
        · first
          | exact v_less (no _ (by unfold sel; rw [decide_eq_false (by omega)]; rfl) (by omega) (hF.mu (by omega) (by omega)) cc (fun i hi => by rw [mu_ne _ _ (by omega)]; exact hfre i hi)) (by repeat (first | exact trivial | refine And.intro rfl ?_))
          | exact v_less (no _ (by unfold sel; rw [decide_eq_false h39, Bool.and_false]) (by omega) (hF.mu (by omega) (by omega)) cc (fun i hi => by rw [mu_ne _ _ (by omega)]; exact hfre i hi)) (by repeat (first | exact trivial | refine And.intro rfl ?_))
          | (have hh := ih (by omega) (mu (mu I' (M + 16) j (nI 0)) (M + 17) (kN w (D 2 0) j) (nI j)) ((hF.mu (by omega) (by omega)).mu (by omega) (by omega)) (fun i hi => by rw [mu_ne _ _ (by omega)]; exact cc i hi) (by
               simp only [kN, frN]
               rw [hse, if_pos rfl]
               intro i hi
               by_cases e : i = kN w (D 2 0) j
               · subst e; rw [mu_at, upN_at]
               · rw [mu_other _ _ (fun p => e p.2), mu_ne _ _ (by omega), upN_ne _ _ e]
                 exact hfre i (by have : b2 true = 1 := rfl; omega))
             simp only [kN] at hh
             rw [hse] at hh
             refine v_iincN 1 C dX5_areEven_54 rfl (by decide) ?_
             refine v_goto C 6 dX5_areEven_57 (by decide) ?_
             exact v_less hh (by repeat (first | exact trivial | refine And.intro rfl ?_)))
        · have hse : sel w (D 2 0) j = true := by unfold sel; rw [decide_eq_true h29, decide_eq_true h39]; rfl
          refine v_aload_n C dX5_areEven_42 rfl ?_
          refine g_5_18 C (by assumption) (by assumption) wt_551 dX5_areEven_43 ?_
          refine v_iload C dX5_areEven_46 rfl ?_
          refine v_iload C dX5_areEven_48 rfl ?_
          first | refine v_iastN C (by assumption) (by omega) (by omega) dX5_areEven_50 ?_ | refine v_iast C (by assumption) (by assumption) dX5_areEven_50 ?_
          first | refine v_iincN 1 C dX5_areEven_51 rfl (by decide) ?_ | refine v_iinc C dX5_areEven_51 rfl rfl (by decide) ?_
          first
          | exact v_less (no _ (by unfold sel; rw [decide_eq_false (by omega)]; rfl) (by omega) (hF.mu (by omega) (by omega)) cc (fun i hi => by rw [mu_ne _ _ (by omega)]; exact hfre i hi)) (by repeat (first | exact trivial | refine And.intro rfl ?_))
          | exact v_less (no _ (by unfold sel; rw [decide_eq_false h39, Bool.and_false]) (by omega) (hF.mu (by omega) (by omega)) cc (fun i hi => by rw [mu_ne _ _ (by omega)]; exact hfre i hi)) (by repeat (first | exact trivial | refine And.intro rfl ?_))
          | (have hh := ih (by omega) (mu (mu I' (M + 16) j (nI 0)) (M + 17) (kN w (D 2 0) j) (nI j)) ((hF.mu (by omega) (by omega)).mu (by omega) (by omega)) (fun i hi => by rw [mu_ne _ _ (by omega)]; exact cc i hi) (by
               simp only [kN, frN]
               rw [hse, if_pos rfl]
               intro i hi
               by_cases e : i = kN w (D 2 0) j
               · subst e; rw [mu_at, upN_at]
               · rw [mu_other _ _ (fun p => e p.2), mu_ne _ _ (by omega), upN_ne _ _ e]
                 exact hfre i (by have : b2 true = 1 := rfl; omega))
             simp only [kN] at hh
             rw [hse] at hh
             refine v_iincN 1 C dX5_areEven_54 rfl (by decide) ?_
             refine v_goto C 6 dX5_areEven_57 (by decide) ?_
             exact v_less hh (by repeat (first | exact trivial | refine And.intro rfl ?_)))
  refine v_iconstN 0 C dX5_areEven_0 ?_
  refine v_istore C dX5_areEven_1 (by decide) ?_
  refine v_iconstN 0 C dX5_areEven_3 ?_
  refine v_istore C dX5_areEven_4 (by decide) ?_
  exact v_less (sel0 0 (Nat.zero_le _) I FrS.rf (fun i hi => absurd hi (by omega)) (fun i hi => absurd hi (Nat.not_lt_zero i))) (by repeat (first | exact trivial | refine And.intro rfl ?_))
