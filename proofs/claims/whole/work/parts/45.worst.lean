def sm (v : Int64) : Prop := v.toInt.natAbs < 4611686018427387904
theorem sm_ne {v : Int64} (h : sm v) : minL < v := by
  rw [Int64.lt_iff_toInt_lt]
  have : minL.toInt = -9223372036854775808 := by decide
  unfold sm at h
  omega
theorem sm_cns {s : WS} {v : Int64} {c : Bool} {h : Nat → Nat} (hs : s.1 = minL ∨ sm s.1) (hv : sm v) : sm (cns s v c h).1 := by
  unfold cns
  by_cases e : s.1 < v
  · rw [if_pos e]; exact hv
  · rw [if_neg e]
    rcases hs with q | q
    · rw [q] at e; exact absurd (sm_ne hv) e
    · exact q
theorem sm_wst {mo mc : Nat → Bool} {vo vc : Nat → Int64} {h : Nat → Nat → Nat} {x : Nat} {s : WS} (hs : s.1 = minL ∨ sm s.1) (h1 : ∀ y, sm (vo y)) (h2 : ∀ y, sm (vc y)) (hm : mo x = true) : sm (wst mo mc vo vc h x s).1 := by
  unfold wst
  rw [if_pos hm]
  by_cases e : mc x = true
  · rw [if_pos e]; exact sm_cns (Or.inr (sm_cns hs (h1 x))) (h2 x)
  · rw [if_neg e]; exact sm_cns hs (h1 x)
theorem sm_srch {mo mc : Nat → Bool} {vo vc : Nat → Int64} {h : Nat → Nat → Nat} (h1 : ∀ y, sm (vo y)) (h2 : ∀ y, sm (vc y)) : ∀ f x s, (s.1 = minL ∨ sm s.1) → (sm s.1 ∨ ∃ y, x ≤ y ∧ y < x + f ∧ mo y = true) → sm (srch mo mc vo vc h f x s).1
  | 0, x, s, _, q => by
    rcases q with q | ⟨y, a, b, _⟩
    · exact q
    · omega
  | f + 1, x, s, hs, q => by
    simp only [srch]
    cases hm : mo x with
    | true =>
      have g := sm_wst (h := h) (mc := mc) hs h1 h2 hm
      exact sm_srch h1 h2 f (x + 1) _ (Or.inr g) (Or.inl g)
    | false =>
      have e : wst mo mc vo vc h x s = s := by unfold wst; rw [hm, if_neg (by decide)]
      rw [e]
      refine sm_srch h1 h2 f (x + 1) s hs ?_
      rcases q with q | ⟨y, a, b, c⟩
      · exact Or.inl q
      · have : y ≠ x := fun e => by rw [e, hm] at c; cases c
        exact Or.inr ⟨y, by omega, by omega, c⟩
theorem hX_last {b d j : Nat} (hb : 1 ≤ b) (hj : j < d) : hX b d (b ^ d - 1) j = b - 1 := by
  unfold hX
  have e1 : b ^ d = b ^ (j + 1) * b ^ (d - 1 - j) := by rw [← Nat.pow_add]; congr 1; omega
  have p1 : 0 < b ^ (d - 1 - j) := Nat.pow_pos hb
  have p2 : 0 < b ^ j := Nat.pow_pos hb
  have q : (b ^ d - 1) / b ^ (d - 1 - j) = b ^ (j + 1) - 1 := by
    rw [e1]
    have p3 : 0 < b ^ (j + 1) := Nat.pow_pos hb
    generalize b ^ (j + 1) = A at *
    generalize b ^ (d - 1 - j) = E at *
    obtain ⟨a, rfl⟩ : ∃ a, A = a + 1 := ⟨A - 1, by omega⟩
    have : (a + 1) * E - 1 = E * a + (E - 1) := by rw [Nat.add_mul, Nat.one_mul, Nat.mul_comm]; omega
    rw [this, Nat.mul_add_div p1, Nat.div_eq_of_lt (by omega)]
    omega
  rw [q, Nat.pow_succ]
  generalize b ^ j = A at *
  obtain ⟨a, rfl⟩ : ∃ a, A = a + 1 := ⟨A - 1, by omega⟩
  have : (a + 1) * b - 1 = b * a + (b - 1) := by rw [Nat.add_mul, Nat.one_mul, Nat.mul_comm]; omega
  rw [this, Nat.mul_add_mod, Nat.mod_eq_of_lt (by omega)]
def wsW (D : SD) : WS := wBest (prt D) (D 4 0) (D 2 0) false (fun _ => 0)
theorem sm_sub {a b : Nat} (ha : a ≤ 281474976710656) (hb : b ≤ 281474976710656) : sm (lN a - lN b) := by
  unfold sm
  rw [sub_I (by omega) (by omega)]
  omega
theorem hX_le (c d x j : Nat) : hX (c + 1) d x j ≤ c := Nat.le_of_lt_succ (Nat.mod_lt _ (by omega))
theorem bel_le (P : Nat → Nat → Nat) (c d x : Nat) : bel P c d x ≤ c := cB_le (c + 1) d (fun n => pl (fun j => P n j + 1) (c + 1) d) c d x
theorem wsW_sm {D : SD} (hO : OkD D) : sm (wsW D).1 := by
  obtain ⟨o1, o2, o3, o4, o5, o6, -⟩ := hO
  have cp : ∀ x, prodN (hX (D 4 0 + 1) (D 2 0) x) (D 2 0) ≤ 281474976710656 := fun x => Nat.le_trans (prodN_le (fun j _ => hX_le _ _ _ _)) (c48 o6 o3)
  have cb : ∀ x, D 4 0 ^ (D 2 0 - 1) * bel (prt D) (D 4 0) (D 2 0) x ≤ 281474976710656 := fun x => by
    refine Nat.le_trans (Nat.mul_le_mul_left _ (bel_le _ _ _ _)) ?_
    rw [Nat.mul_comm, pow_pred o2]
    exact c48 o6 o3
  refine sm_srch (fun y => sm_sub (cp y) (cb y)) (fun y => sm_sub (cb _) (cp y)) _ _ _ (Or.inl rfl) (Or.inr ⟨(D 4 0 + 1) ^ D 2 0 - 1, Nat.zero_le _, ?_, ?_⟩)
  · have := Nat.pow_pos (n := D 2 0) (show 0 < D 4 0 + 1 by omega)
    omega
  · refine allB_iff.mpr (fun j hj => ?_)
    rw [hX_last (by omega) hj]
    simp
def worW (D : SD) (w : Nat) : Int64 := if w < 2 then frc (wsW D).1 (D 4 0 ^ D 2 0) (decide (w = 1)) else if w = 2 then lN (b2 (wsW D).2.1) else lN ((wsW D).2.2 (w - 3))
def o_worst (st : St) (s w : Int32) : Int64 × St := onS st.1 s (rfg st (-1) 1) fun k => onS (3 + st.2.1 k 2 0) w (rfg st (-2) 2) fun w => if (st.2.1 k 2 0 ≤ 3 ∧ st.2.1 k 4 0 ≤ 64) ∧ (st.2.1 k 2 0 = 3 → st.2.1 k 4 0 ≤ 16) then (worW (st.2.1 k) w, st) else rfg st (-6) 6
theorem w_room {c d : Nat} (h1 : d ≤ 3 ∧ c ≤ 64) (h2 : d = 3 → c ≤ 16) : (c + 1) ^ d ≤ 4913 ∧ d * (c + 1) ≤ 195 := by
  rcases (show d = 0 ∨ d = 1 ∨ d = 2 ∨ d = 3 by omega) with rfl | rfl | rfl | rfl
  · exact ⟨by rw [Nat.pow_zero]; decide, by omega⟩
  · exact ⟨by rw [Nat.pow_one]; omega, by omega⟩
  · exact ⟨Nat.le_trans (Nat.pow_le_pow_left (show c + 1 ≤ 65 by omega) 2) (by decide), by omega⟩
  · have := h2 rfl
    exact ⟨Nat.le_trans (Nat.pow_le_pow_left (show c + 1 ≤ 17 by omega) 3) (by decide), by omega⟩
/-- the HIGHS of the worst corner lie between 0 and COUNT -/
theorem cns_hi {s : WS} {v : Int64} {c : Bool} {h : Nat → Nat} {M : Nat} (hs : ∀ j, s.2.2 j ≤ M) (hh : ∀ j, h j ≤ M) : ∀ j, (cns s v c h).2.2 j ≤ M := by
  unfold cns
  intro j
  by_cases e : s.1 < v
  · rw [if_pos e]; exact hh j
  · rw [if_neg e]; exact hs j
theorem srch_hi {mo mc : Nat → Bool} {vo vc : Nat → Int64} {h : Nat → Nat → Nat} {M : Nat} (hh : ∀ y j, h y j ≤ M) : ∀ f x s, (∀ j, s.2.2 j ≤ M) → ∀ j, (srch mo mc vo vc h f x s).2.2 j ≤ M
  | 0, _, _, hs => hs
  | f + 1, x, s, hs => by
    simp only [srch]
    refine srch_hi hh f (x + 1) _ ?_
    unfold wst
    by_cases e : mo x = true
    · rw [if_pos e]
      by_cases e2 : mc x = true
      · rw [if_pos e2]; exact cns_hi (cns_hi hs (hh x)) (hh x)
      · rw [if_neg e2]; exact cns_hi hs (hh x)
    · rw [if_neg e]; exact hs
theorem wsW_hi (D : SD) (j : Nat) : (wsW D).2.2 j ≤ D 4 0 := srch_hi (fun y j => hX_le _ _ _ _) _ _ _ (fun _ => Nat.zero_le _) j
def s_X4_worst : Sp := fun av z S I J R Post => ∃ (x : Nat), ∃ (st : St), ∃ (s w : Int32), av = [.ref x, .int s, .int w] ∧ (Rc x st z S I R) ∧ (Ok st) ∧ (Cq x (o_worst st s w).2 S I J R (fun z' S' I' J' R' => Post 0 (o_worst st s w).1 none z' S' I' J' R'))
theorem c_X4_worst {x : Nat} {st : St} {s w : Int32} {z : Nat} {S : MS} {I : MI} {J : MJ} {R : MR} {Post : PT} (hR : Rc x st z S I R) (hO : Ok st) (hp : Cq x (o_worst st s w).2 S I J R (fun z' S' I' J' R' => Post 0 (o_worst st s w).1 none z' S' I' J' R')) : s_X4_worst [.ref x, .int s, .int w] z S I J R Post := ⟨x, st, s, w, rfl, hR, hO, hp⟩
set_option maxRecDepth 100000 in
set_option maxHeartbeats 2000000 in
theorem m_X4_worst (T : TC) (B : Nat) : Mt T B yX4_worst cX4_worst 6 (some .long) 2 (rmL 5 0 0) s_X4_worst := by
  refine Mt_of rfl (by rintro _ _ _ _ _ _ _ ⟨_, _, _, _, rfl, -⟩; exact Nat.le_of_ble_eq_true rfl) ?_
  intro X av z S I J R Post h C Q hI
  obtain ⟨x, st, s, w, rfl, hR, hO, hp⟩ := h
  have hR0 := hR
  obtain ⟨sa, hX, hn, htl, hsc, hord, htr, hrf, hzz⟩ := hR
  have hn12 := hO.1
  have hx := hX.1
  have hT := hX.2.2.2.2.2.2.2.2.1
  have hX0 := hX
  obtain ⟨-, -, -, -, hx3, hx4, -, -, -, -, hs9, hCo, -⟩ := hX0
  obtain ⟨hk', hkr0, -, -, hkb, -, -⟩ := id hCo
  unfold o_worst at hp
  rcases Oo_or s st.1 (by omega) with ho | ⟨k, hk, rfl⟩
  · rw [onS_o ho] at hp
    refine v_aload_n C dX4_worst_0 rfl ?_
    refine v_iload_n C dX4_worst_1 rfl ?_
    refine v_callV1_3 C (m_X4_find T B) lk_X4_65 ⟨wt_194, ws_3⟩ 4 rfl dX4_worst_2 ⟨Nat.le_of_ble_eq_true rfl, Nat.le_of_ble_eq_true rfl⟩ (Nat.le_of_ble_eq_true rfl) ⟨Nat.le_of_ble_eq_true rfl, Nat.le_of_ble_eq_true rfl⟩ (by assumption) (cTo_4 (by assumption)) ?_
    refine c_find_o hX hn hn12 (fun k hk => (hsc k hk).1) ho ?_
    refine v_astore_nN C dX4_worst_5 (by decide) ?_
    refine v_aload_nN C dX4_worst_6 rfl ?_
    refine v_ifnonnullN C dX4_worst_7 ?_
    refine v_aload_n C dX4_worst_10 rfl ?_
    refine v_iconst (v := -1) C dX4_worst_11 (by decide) ?_
    refine v_callV1_2 C (m_X4_refuseLong T B) lk_X4_168 ⟨wt_406, ws_10⟩ 4 rfl dX4_worst_12 ⟨Nat.le_of_ble_eq_true rfl, Nat.le_of_ble_eq_true rfl⟩ (Nat.le_of_ble_eq_true rfl) ⟨Nat.le_of_ble_eq_true rfl, Nat.le_of_ble_eq_true rfl⟩ (by assumption) (cTo_4 (by assumption)) ?_
    refine c_X4_refuseLong (k := 1) hX (by decide) (by decide) ?_
    refine v_lret C Q dX4_worst_15 (Nat.le_of_ble_eq_true rfl) (Nat.le_of_ble_eq_true rfl) ?_
    have w := Cq_rf (k := 1) hR0 (by decide) hp
    exact w
  · obtain ⟨hrk, hSR, hka, hkz⟩ := hsc k hk
    have hSR0 := hSR
    obtain ⟨hSc, hk0, hk1, hk2, hk3, hk4, hk5, hk6, hk7, hk8⟩ := hSR
    have hOk := hO.2.1 k hk
    obtain ⟨o1, o2, o3, o4, o5, o6, o7, o8, o9, o10, o11, o12⟩ := hOk
    have hs := hSc.1
    rw [onS_k hk (by omega)] at hp
    rcases Oo_or w (3 + st.2.1 k 2 0) (by omega) with hq | ⟨v, hv, rfl⟩
    · rw [onS_o hq] at hp
      refine v_aload_n C dX4_worst_0 rfl ?_
      refine v_iload_n C dX4_worst_1 rfl ?_
      refine v_callV1_3 C (m_X4_find T B) lk_X4_65 ⟨wt_194, ws_3⟩ 4 rfl dX4_worst_2 ⟨Nat.le_of_ble_eq_true rfl, Nat.le_of_ble_eq_true rfl⟩ (Nat.le_of_ble_eq_true rfl) ⟨Nat.le_of_ble_eq_true rfl, Nat.le_of_ble_eq_true rfl⟩ (by assumption) (cTo_4 (by assumption)) ?_
      refine c_find_k hX hn hn12 (fun k hk => (hsc k hk).1) hk ?_
      refine v_astore_n C dX4_worst_5 (by decide) ?_
      refine v_aload_n C dX4_worst_6 rfl ?_
      refine v_ifnonnull C 16 dX4_worst_7 (by decide) ?_
      refine v_iload_n C dX4_worst_16 rfl ?_
      refine v_if_lt C 30 dX4_worst_17 (by decide) (fun h17 => ?_) (fun h17 => ?_)
      · refine v_aload_n C dX4_worst_30 rfl ?_
        refine v_bipush (v := -2) C dX4_worst_31 (by decide) ?_
        refine v_callV1_2 C (m_X4_refuseLong T B) lk_X4_168 ⟨wt_406, ws_10⟩ 4 rfl dX4_worst_33 ⟨Nat.le_of_ble_eq_true rfl, Nat.le_of_ble_eq_true rfl⟩ (Nat.le_of_ble_eq_true rfl) ⟨Nat.le_of_ble_eq_true rfl, Nat.le_of_ble_eq_true rfl⟩ (by assumption) (cTo_4 (by assumption)) ?_
        refine c_X4_refuseLong (k := 2) hX (by decide) (by decide) ?_
        refine v_lret C Q dX4_worst_36 (Nat.le_of_ble_eq_true rfl) (Nat.le_of_ble_eq_true rfl) ?_
        have w := Cq_rf (k := 2) hR0 (by decide) hp
        exact w
      · refine v_iload_n C dX4_worst_20 rfl ?_
        refine v_iconstN 3 C dX4_worst_21 ?_
        refine v_aload_n C dX4_worst_22 rfl ?_
        first | refine gv_2_3 C (by assumption) (by assumption) wt_156 dX4_worst_23 ?_ | refine g_2_3 C (by assumption) wt_156 dX4_worst_23 ?_
        first | refine v_iaddN C dX4_worst_26 ?_ | refine v_iadd C dX4_worst_26 ?_
        refine v_icmp_lt C 37 dX4_worst_27 (by decide) (fun h27 => ?_) (fun h27 => ?_)
        · exact absurd (hq.resolve_left h17) (Int32.not_le.mpr h27)
        · refine v_aload_n C dX4_worst_30 rfl ?_
          refine v_bipush (v := -2) C dX4_worst_31 (by decide) ?_
          refine v_callV1_2 C (m_X4_refuseLong T B) lk_X4_168 ⟨wt_406, ws_10⟩ 4 rfl dX4_worst_33 ⟨Nat.le_of_ble_eq_true rfl, Nat.le_of_ble_eq_true rfl⟩ (Nat.le_of_ble_eq_true rfl) ⟨Nat.le_of_ble_eq_true rfl, Nat.le_of_ble_eq_true rfl⟩ (by assumption) (cTo_4 (by assumption)) ?_
          refine c_X4_refuseLong (k := 2) hX (by decide) (by decide) ?_
          refine v_lret C Q dX4_worst_36 (Nat.le_of_ble_eq_true rfl) (Nat.le_of_ble_eq_true rfl) ?_
          have w := Cq_rf (k := 2) hR0 (by decide) hp
          exact w
    · rw [onS_k hv (by omega)] at hp
      by_cases hmm : st.2.1 k 2 0 ≤ 3 ∧ st.2.1 k 4 0 ≤ 64
      · by_cases h16 : st.2.1 k 2 0 = 3 → st.2.1 k 4 0 ≤ 16
        · rw [if_pos ⟨hmm, h16⟩] at hp
          obtain ⟨r1, r2⟩ := w_room hmm h16
          have hPP : ∀ n j, n < st.2.1 k 4 0 → j < st.2.1 k 2 0 → I (sa k + 4) (j * st.2.1 k 4 0 + n) = nI (prt (st.2.1 k) n j) ∧ prt (st.2.1 k) n j < st.2.1 k 4 0 := fun n j h1 h2 => ⟨hk8 n j h1 h2, prt_lt (hO.2.1 k hk) n j⟩
          have hsm := wsW_sm (hO.2.1 k hk)
          have hc48 := c48 o6 o3
          have hcp := c_pos o5 (st.2.1 k 2 0)
          have aft : ∀ (I2 : MI) (J2 : MJ), FrS I I2 (x + 9) (x + 13) → FrJ J J2 (x + 10) → J2 (x + 10) 1 = (wsW (st.2.1 k)).1 → I2 (x + 10) 2 = nI (b2 (wsW (st.2.1 k)).2.1) → (∀ j, j < st.2.1 k 2 0 → I2 (x + 11) j = nI ((wsW (st.2.1 k)).2.2 j)) → V X 0 0 z S I2 J2 R 80 [some (.ref x), none, some (.int (nI v)), some (.ref (sa k)), none, none] [] := by
            intro I2 J2 hF hFJ hj1 hi2 hi3
            have g2 : I2 (sa k) 2 = nI (st.2.1 k 4 0) := (hF _ _ (by omega)).trans hk2
            have g3 : I2 (sa k) 3 = nI (st.2.1 k 2 0) := (hF _ _ (by omega)).trans hk3
            have fq : ∀ {Q : QT}, Cq x st S I J R Q → Q z S I2 J2 R := fun q => Cq_scr hR0 (hF.wide (by omega) (by omega)) (fun a i ha => hFJ a i (by omega)) q
            refine v_iload_n C dX4_worst_80 rfl ?_
            refine v_iconstN 2 C dX4_worst_81 ?_
            first | refine v_icmp_geN C 122 dX4_worst_82 (by omega) (by omega) (by decide) (fun h82 => ?_) (fun h82 => ?_) | refine v_icmp_ge C 122 dX4_worst_82 (by decide) (fun h82 => ?_) (fun h82 => ?_)
            · refine v_iload_n C dX4_worst_122 rfl ?_
              refine v_iconstN 2 C dX4_worst_123 ?_
              first | refine v_icmp_neN C 143 dX4_worst_124 (by omega) (by omega) (by decide) (fun h124 => ?_) (fun h124 => ?_) | refine v_icmp_ne C 143 dX4_worst_124 (by decide) (fun h124 => ?_) (fun h124 => ?_)
              · have e : worW (st.2.1 k) v = lN ((wsW (st.2.1 k)).2.2 (v - 3)) := by unfold worW; rw [if_neg (by omega), if_neg h124]
                rw [e] at hp
                refine v_aload_n C dX4_worst_143 rfl ?_
                refine g_4_4 C (by assumption) (by assumption) wt_98 dX4_worst_144 ?_
                refine g_0_0 C (by assumption) (by assumption) wt_70 dX4_worst_147 ?_
                refine v_iload_n C dX4_worst_150 rfl ?_
                refine v_iconstN 3 C dX4_worst_151 ?_
                first | refine v_isubN C dX4_worst_152 (by omega) ?_ | refine v_isub C dX4_worst_152 ?_
                first | refine v_ialdN C (by assumption) (by omega) (by omega) dX4_worst_153 ?_ | refine v_iald C (by assumption) (by assumption) dX4_worst_153 ?_
                rw [hi3 _ (by omega)]
                have hhi := wsW_hi (st.2.1 k) (v - 3)
                first | refine v_i2lN C dX4_worst_154 (by omega) ?_ | refine v_i2l C dX4_worst_154 ?_
                refine v_lret C Q dX4_worst_155 (Nat.le_of_ble_eq_true rfl) (Nat.le_of_ble_eq_true rfl) ?_
                have w := fq hp
                exact w
              · have e : worW (st.2.1 k) v = lN (b2 (wsW (st.2.1 k)).2.1) := by unfold worW; rw [if_neg (by omega), if_pos h124]
                rw [e] at hp
                refine v_aload_n C dX4_worst_127 rfl ?_
                refine g_4_4 C (by assumption) (by assumption) wt_98 dX4_worst_128 ?_
                first | refine gv_0_2 C (by assumption) (by assumption) wt_74 dX4_worst_131 ?_ | refine g_0_2 C (by assumption) wt_74 dX4_worst_131 ?_
                refine v_if_eq C 141 dX4_worst_134 (by decide) (fun h134 => ?_) (fun h134 => ?_)
                · have hb : (wsW (st.2.1 k)).2.1 = false := by
                    cases hq : (wsW (st.2.1 k)).2.1 with
                    | false => rfl
                    | true => rw [hq] at h134; exact absurd h134 (by decide)
                  rw [hb] at hp
                  refine v_lconst (v := lN 0) C dX4_worst_141 rfl ?_
                  refine v_lret C Q dX4_worst_142 (Nat.le_of_ble_eq_true rfl) (Nat.le_of_ble_eq_true rfl) ?_
                  have w := fq hp
                  exact w
                · have hb : (wsW (st.2.1 k)).2.1 = true := by
                    cases hq : (wsW (st.2.1 k)).2.1 with
                    | true => rfl
                    | false => rw [hq] at h134; exact absurd rfl h134
                  rw [hb] at hp
                  refine v_lconst (v := lN 1) C dX4_worst_137 rfl ?_
                  refine v_goto C 142 dX4_worst_138 (by decide) ?_
                  refine v_lret C Q dX4_worst_142 (Nat.le_of_ble_eq_true rfl) (Nat.le_of_ble_eq_true rfl) ?_
                  have w := fq hp
                  exact w
            · have e : worW (st.2.1 k) v = frc (wsW (st.2.1 k)).1 (st.2.1 k 4 0 ^ st.2.1 k 2 0) (decide (v = 1)) := by unfold worW; rw [if_pos h82]
              rw [e] at hp
              refine v_aload_n C dX4_worst_85 rfl ?_
              first | refine gv_2_2 C (by assumption) (by assumption) wt_150 dX4_worst_86 ?_ | refine g_2_2 C (by assumption) wt_150 dX4_worst_86 ?_
              first | refine v_i2lN C dX4_worst_89 (by omega) ?_ | refine v_i2l C dX4_worst_89 ?_
              refine v_aload_n C dX4_worst_90 rfl ?_
              first | refine gv_2_3 C (by assumption) (by assumption) wt_156 dX4_worst_91 ?_ | refine g_2_3 C (by assumption) wt_156 dX4_worst_91 ?_
              refine v_callS2_2 C (m_X4_powerOf T B) lk_X4_180 wt_418 dX4_worst_94 ⟨Nat.le_of_ble_eq_true rfl, Nat.le_of_ble_eq_true rfl⟩ (Nat.le_of_ble_eq_true rfl) ⟨Nat.le_of_ble_eq_true rfl, Nat.le_of_ble_eq_true rfl⟩ ?_
              refine c_X4_powerOf (by omega) ?_
              refine v_lstore C dX4_worst_97 (by decide) ?_
              refine v_aload_n C dX4_worst_99 rfl ?_
              refine g_4_4 C (by assumption) (by assumption) wt_98 dX4_worst_100 ?_
              first | refine gv_0_1 C (by assumption) (by assumption) wt_72 dX4_worst_103 ?_ | refine g_0_1 C (by assumption) wt_72 dX4_worst_103 ?_
              refine v_lload C dX4_worst_106 rfl ?_
              refine v_iload_n C dX4_worst_108 rfl ?_
              refine v_iconstN 1 C dX4_worst_109 ?_
              first | refine v_icmp_neN C 117 dX4_worst_110 (by omega) (by omega) (by decide) (fun h110 => ?_) (fun h110 => ?_) | refine v_icmp_ne C 117 dX4_worst_110 (by decide) (fun h110 => ?_) (fun h110 => ?_)
              · rw [decide_eq_false h110] at hp
                refine v_iconstN 0 C dX4_worst_117 ?_
                refine v_callS3_2 C (m_X4_fraction T B) lk_X4_190 wt_424 dX4_worst_118 ⟨Nat.le_of_ble_eq_true rfl, Nat.le_of_ble_eq_true rfl⟩ (Nat.le_of_ble_eq_true rfl) ⟨Nat.le_of_ble_eq_true rfl, Nat.le_of_ble_eq_true rfl⟩ ?_
                refine c_X4_fraction (by unfold sm at hsm; omega) (by omega) hcp (by omega) ?_
                refine v_lret C Q dX4_worst_121 (Nat.le_of_ble_eq_true rfl) (Nat.le_of_ble_eq_true rfl) ?_
                have w := fq hp
                exact w
              · rw [decide_eq_true h110] at hp
                refine v_iconstN 1 C dX4_worst_113 ?_
                refine v_goto C 118 dX4_worst_114 (by decide) ?_
                refine v_callS3_2 C (m_X4_fraction T B) lk_X4_190 wt_424 dX4_worst_118 ⟨Nat.le_of_ble_eq_true rfl, Nat.le_of_ble_eq_true rfl⟩ (Nat.le_of_ble_eq_true rfl) ⟨Nat.le_of_ble_eq_true rfl, Nat.le_of_ble_eq_true rfl⟩ ?_
                refine c_X4_fraction (by unfold sm at hsm; omega) (by omega) hcp (by omega) ?_
                refine v_lret C Q dX4_worst_121 (Nat.le_of_ble_eq_true rfl) (Nat.le_of_ble_eq_true rfl) ?_
                have w := fq hp
                exact w
          refine v_aload_n C dX4_worst_0 rfl ?_
          refine v_iload_n C dX4_worst_1 rfl ?_
          refine v_callV1_3 C (m_X4_find T B) lk_X4_65 ⟨wt_194, ws_3⟩ 4 rfl dX4_worst_2 ⟨Nat.le_of_ble_eq_true rfl, Nat.le_of_ble_eq_true rfl⟩ (Nat.le_of_ble_eq_true rfl) ⟨Nat.le_of_ble_eq_true rfl, Nat.le_of_ble_eq_true rfl⟩ (by assumption) (cTo_4 (by assumption)) ?_
          refine c_find_k hX hn hn12 (fun k hk => (hsc k hk).1) hk ?_
          refine v_astore_n C dX4_worst_5 (by decide) ?_
          refine v_aload_n C dX4_worst_6 rfl ?_
          refine v_ifnonnull C 16 dX4_worst_7 (by decide) ?_
          refine v_iload_n C dX4_worst_16 rfl ?_
          first | refine v_if_ltN C 30 dX4_worst_17 (by omega) (by decide) (fun h17 => ?_) (fun h17 => ?_) | refine v_if_lt C 30 dX4_worst_17 (by decide) (fun h17 => ?_) (fun h17 => ?_)
          · exact absurd h17 (fun q => q)
          · refine v_iload_n C dX4_worst_20 rfl ?_
            refine v_iconstN 3 C dX4_worst_21 ?_
            refine v_aload_n C dX4_worst_22 rfl ?_
            first | refine gv_2_3 C (by assumption) (by assumption) wt_156 dX4_worst_23 ?_ | refine g_2_3 C (by assumption) wt_156 dX4_worst_23 ?_
            first | refine v_iaddN C dX4_worst_26 ?_ | refine v_iadd C dX4_worst_26 ?_
            first | refine v_icmp_ltN C 37 dX4_worst_27 (by omega) (by omega) (by decide) (fun h27 => ?_) (fun h27 => ?_) | refine v_icmp_lt C 37 dX4_worst_27 (by decide) (fun h27 => ?_) (fun h27 => ?_)
            · refine v_aload_n C dX4_worst_37 rfl ?_
              refine v_callS1_1 C (m_X4_mayBeMeasured T B) lk_X4_194 wt_434 dX4_worst_38 ⟨Nat.le_of_ble_eq_true rfl, Nat.le_of_ble_eq_true rfl⟩ (Nat.le_of_ble_eq_true rfl) ⟨Nat.le_of_ble_eq_true rfl, Nat.le_of_ble_eq_true rfl⟩ ?_
              refine c_X4_mayBeMeasured hs hk2 hk3 o3 o6 ?_
              rw [decide_eq_true hmm]
              first | refine v_if_eqN C 61 dX4_worst_41 (by omega) (by decide) (fun h41 => ?_) (fun h41 => ?_) | refine v_if_eq C 61 dX4_worst_41 (by decide) (fun h41 => ?_) (fun h41 => ?_)
              · exact absurd h41 (by decide)
              · refine v_aload_n C dX4_worst_44 rfl ?_
                first | refine gv_2_3 C (by assumption) (by assumption) wt_156 dX4_worst_45 ?_ | refine g_2_3 C (by assumption) wt_156 dX4_worst_45 ?_
                refine v_iconstN 3 C dX4_worst_48 ?_
                first | refine v_icmp_neN C 68 dX4_worst_49 (by omega) (by omega) (by decide) (fun h49 => ?_) (fun h49 => ?_) | refine v_icmp_ne C 68 dX4_worst_49 (by decide) (fun h49 => ?_) (fun h49 => ?_)
                · refine v_aload_n C dX4_worst_68 rfl ?_
                  refine g_4_4 C (by assumption) (by assumption) wt_98 dX4_worst_69 ?_
                  refine v_aload_n C dX4_worst_72 rfl ?_
                  refine v_aload_n C dX4_worst_73 rfl ?_
                  refine g_4_3 C (by assumption) (by assumption) wt_97 dX4_worst_74 ?_
                  refine v_callV2_0 C (m_X0_search T B) lk_X4_197 ⟨wt_437, wt_438⟩ 0 rfl dX4_worst_77 ⟨Nat.le_of_ble_eq_true rfl, Nat.le_of_ble_eq_true rfl⟩ (Nat.le_of_ble_eq_true rfl) ⟨Nat.le_of_ble_eq_true rfl, Nat.le_of_ble_eq_true rfl⟩ (by assumption) (cTo_0 (by assumption)) ?_
                  refine c_X0_search (P := prt (st.2.1 k)) hX hSc (by omega) hk2 hk3 o2 hmm.1 r1 r2 hPP (fun I2 J2 hF hFJ hj1 hj2 => ?_)
                  obtain ⟨hi2, hi3⟩ := hj2 (fun q => by have := sm_ne hsm; rw [show (wsW (st.2.1 k)).1 = minL from q] at this; exact absurd this (Int64.lt_irrefl))
                  exact v_less (aft I2 J2 hF hFJ hj1 hi2 hi3) (by repeat (first | exact trivial | refine And.intro rfl ?_))
                · refine v_aload_n C dX4_worst_52 rfl ?_
                  first | refine gv_2_2 C (by assumption) (by assumption) wt_150 dX4_worst_53 ?_ | refine g_2_2 C (by assumption) wt_150 dX4_worst_53 ?_
                  refine v_bipushN 16 (by decide) C dX4_worst_56 ?_
                  first | refine v_icmp_leN C 68 dX4_worst_58 (by omega) (by omega) (by decide) (fun h58 => ?_) (fun h58 => ?_) | refine v_icmp_le C 68 dX4_worst_58 (by decide) (fun h58 => ?_) (fun h58 => ?_)
                  · refine v_aload_n C dX4_worst_68 rfl ?_
                    refine g_4_4 C (by assumption) (by assumption) wt_98 dX4_worst_69 ?_
                    refine v_aload_n C dX4_worst_72 rfl ?_
                    refine v_aload_n C dX4_worst_73 rfl ?_
                    refine g_4_3 C (by assumption) (by assumption) wt_97 dX4_worst_74 ?_
                    refine v_callV2_0 C (m_X0_search T B) lk_X4_197 ⟨wt_437, wt_438⟩ 0 rfl dX4_worst_77 ⟨Nat.le_of_ble_eq_true rfl, Nat.le_of_ble_eq_true rfl⟩ (Nat.le_of_ble_eq_true rfl) ⟨Nat.le_of_ble_eq_true rfl, Nat.le_of_ble_eq_true rfl⟩ (by assumption) (cTo_0 (by assumption)) ?_
                    refine c_X0_search (P := prt (st.2.1 k)) hX hSc (by omega) hk2 hk3 o2 hmm.1 r1 r2 hPP (fun I2 J2 hF hFJ hj1 hj2 => ?_)
                    obtain ⟨hi2, hi3⟩ := hj2 (fun q => by have := sm_ne hsm; rw [show (wsW (st.2.1 k)).1 = minL from q] at this; exact absurd this (Int64.lt_irrefl))
                    exact v_less (aft I2 J2 hF hFJ hj1 hi2 hi3) (by repeat (first | exact trivial | refine And.intro rfl ?_))
                  · exact absurd (h16 h49) (by omega)
            · exact absurd h27 (by omega)
        · rw [if_neg (fun q => h16 q.2)] at hp
          have h3 : st.2.1 k 2 0 = 3 := Decidable.byContradiction (fun q => h16 (fun e => absurd e q))
          have h17' : 16 < st.2.1 k 4 0 := Nat.lt_of_not_le (fun q => h16 (fun _ => q))
          refine v_aload_n C dX4_worst_0 rfl ?_
          refine v_iload_n C dX4_worst_1 rfl ?_
          refine v_callV1_3 C (m_X4_find T B) lk_X4_65 ⟨wt_194, ws_3⟩ 4 rfl dX4_worst_2 ⟨Nat.le_of_ble_eq_true rfl, Nat.le_of_ble_eq_true rfl⟩ (Nat.le_of_ble_eq_true rfl) ⟨Nat.le_of_ble_eq_true rfl, Nat.le_of_ble_eq_true rfl⟩ (by assumption) (cTo_4 (by assumption)) ?_
          refine c_find_k hX hn hn12 (fun k hk => (hsc k hk).1) hk ?_
          refine v_astore_n C dX4_worst_5 (by decide) ?_
          refine v_aload_n C dX4_worst_6 rfl ?_
          refine v_ifnonnull C 16 dX4_worst_7 (by decide) ?_
          refine v_iload_n C dX4_worst_16 rfl ?_
          first | refine v_if_ltN C 30 dX4_worst_17 (by omega) (by decide) (fun h17 => ?_) (fun h17 => ?_) | refine v_if_lt C 30 dX4_worst_17 (by decide) (fun h17 => ?_) (fun h17 => ?_)
          · exact absurd h17 (fun q => q)
          · refine v_iload_n C dX4_worst_20 rfl ?_
            refine v_iconstN 3 C dX4_worst_21 ?_
            refine v_aload_n C dX4_worst_22 rfl ?_
            first | refine gv_2_3 C (by assumption) (by assumption) wt_156 dX4_worst_23 ?_ | refine g_2_3 C (by assumption) wt_156 dX4_worst_23 ?_
            first | refine v_iaddN C dX4_worst_26 ?_ | refine v_iadd C dX4_worst_26 ?_
            first | refine v_icmp_ltN C 37 dX4_worst_27 (by omega) (by omega) (by decide) (fun h27 => ?_) (fun h27 => ?_) | refine v_icmp_lt C 37 dX4_worst_27 (by decide) (fun h27 => ?_) (fun h27 => ?_)
            · refine v_aload_n C dX4_worst_37 rfl ?_
              refine v_callS1_1 C (m_X4_mayBeMeasured T B) lk_X4_194 wt_434 dX4_worst_38 ⟨Nat.le_of_ble_eq_true rfl, Nat.le_of_ble_eq_true rfl⟩ (Nat.le_of_ble_eq_true rfl) ⟨Nat.le_of_ble_eq_true rfl, Nat.le_of_ble_eq_true rfl⟩ ?_
              refine c_X4_mayBeMeasured hs hk2 hk3 o3 o6 ?_
              rw [decide_eq_true hmm]
              first | refine v_if_eqN C 61 dX4_worst_41 (by omega) (by decide) (fun h41 => ?_) (fun h41 => ?_) | refine v_if_eq C 61 dX4_worst_41 (by decide) (fun h41 => ?_) (fun h41 => ?_)
              · exact absurd h41 (by decide)
              · refine v_aload_n C dX4_worst_44 rfl ?_
                first | refine gv_2_3 C (by assumption) (by assumption) wt_156 dX4_worst_45 ?_ | refine g_2_3 C (by assumption) wt_156 dX4_worst_45 ?_
                refine v_iconstN 3 C dX4_worst_48 ?_
                first | refine v_icmp_neN C 68 dX4_worst_49 (by omega) (by omega) (by decide) (fun h49 => ?_) (fun h49 => ?_) | refine v_icmp_ne C 68 dX4_worst_49 (by decide) (fun h49 => ?_) (fun h49 => ?_)
                · exact absurd h3 h49
                · refine v_aload_n C dX4_worst_52 rfl ?_
                  first | refine gv_2_2 C (by assumption) (by assumption) wt_150 dX4_worst_53 ?_ | refine g_2_2 C (by assumption) wt_150 dX4_worst_53 ?_
                  refine v_bipushN 16 (by decide) C dX4_worst_56 ?_
                  first | refine v_icmp_leN C 68 dX4_worst_58 (by omega) (by omega) (by decide) (fun h58 => ?_) (fun h58 => ?_) | refine v_icmp_le C 68 dX4_worst_58 (by decide) (fun h58 => ?_) (fun h58 => ?_)
                  · exact absurd h58 (by omega)
                  · refine v_aload_n C dX4_worst_61 rfl ?_
                    refine v_bipush (v := -6) C dX4_worst_62 (by decide) ?_
                    refine v_callV1_2 C (m_X4_refuseLong T B) lk_X4_168 ⟨wt_406, ws_10⟩ 4 rfl dX4_worst_64 ⟨Nat.le_of_ble_eq_true rfl, Nat.le_of_ble_eq_true rfl⟩ (Nat.le_of_ble_eq_true rfl) ⟨Nat.le_of_ble_eq_true rfl, Nat.le_of_ble_eq_true rfl⟩ (by assumption) (cTo_4 (by assumption)) ?_
                    refine c_X4_refuseLong (k := 6) hX (by decide) (by decide) ?_
                    refine v_lret C Q dX4_worst_67 (Nat.le_of_ble_eq_true rfl) (Nat.le_of_ble_eq_true rfl) ?_
                    have w := Cq_rf (k := 6) hR0 (by decide) hp
                    exact w
            · exact absurd h27 (by omega)
      · rw [if_neg (fun q => hmm q.1)] at hp
        refine v_aload_n C dX4_worst_0 rfl ?_
        refine v_iload_n C dX4_worst_1 rfl ?_
        refine v_callV1_3 C (m_X4_find T B) lk_X4_65 ⟨wt_194, ws_3⟩ 4 rfl dX4_worst_2 ⟨Nat.le_of_ble_eq_true rfl, Nat.le_of_ble_eq_true rfl⟩ (Nat.le_of_ble_eq_true rfl) ⟨Nat.le_of_ble_eq_true rfl, Nat.le_of_ble_eq_true rfl⟩ (by assumption) (cTo_4 (by assumption)) ?_
        refine c_find_k hX hn hn12 (fun k hk => (hsc k hk).1) hk ?_
        refine v_astore_n C dX4_worst_5 (by decide) ?_
        refine v_aload_n C dX4_worst_6 rfl ?_
        refine v_ifnonnull C 16 dX4_worst_7 (by decide) ?_
        refine v_iload_n C dX4_worst_16 rfl ?_
        first | refine v_if_ltN C 30 dX4_worst_17 (by omega) (by decide) (fun h17 => ?_) (fun h17 => ?_) | refine v_if_lt C 30 dX4_worst_17 (by decide) (fun h17 => ?_) (fun h17 => ?_)
        · exact absurd h17 (fun q => q)
        · refine v_iload_n C dX4_worst_20 rfl ?_
          refine v_iconstN 3 C dX4_worst_21 ?_
          refine v_aload_n C dX4_worst_22 rfl ?_
          first | refine gv_2_3 C (by assumption) (by assumption) wt_156 dX4_worst_23 ?_ | refine g_2_3 C (by assumption) wt_156 dX4_worst_23 ?_
          first | refine v_iaddN C dX4_worst_26 ?_ | refine v_iadd C dX4_worst_26 ?_
          first | refine v_icmp_ltN C 37 dX4_worst_27 (by omega) (by omega) (by decide) (fun h27 => ?_) (fun h27 => ?_) | refine v_icmp_lt C 37 dX4_worst_27 (by decide) (fun h27 => ?_) (fun h27 => ?_)
          · refine v_aload_n C dX4_worst_37 rfl ?_
            refine v_callS1_1 C (m_X4_mayBeMeasured T B) lk_X4_194 wt_434 dX4_worst_38 ⟨Nat.le_of_ble_eq_true rfl, Nat.le_of_ble_eq_true rfl⟩ (Nat.le_of_ble_eq_true rfl) ⟨Nat.le_of_ble_eq_true rfl, Nat.le_of_ble_eq_true rfl⟩ ?_
            refine c_X4_mayBeMeasured hs hk2 hk3 o3 o6 ?_
            rw [decide_eq_false hmm]
            first | refine v_if_eqN C 61 dX4_worst_41 (by omega) (by decide) (fun h41 => ?_) (fun h41 => ?_) | refine v_if_eq C 61 dX4_worst_41 (by decide) (fun h41 => ?_) (fun h41 => ?_)
            · refine v_aload_n C dX4_worst_61 rfl ?_
              refine v_bipush (v := -6) C dX4_worst_62 (by decide) ?_
              refine v_callV1_2 C (m_X4_refuseLong T B) lk_X4_168 ⟨wt_406, ws_10⟩ 4 rfl dX4_worst_64 ⟨Nat.le_of_ble_eq_true rfl, Nat.le_of_ble_eq_true rfl⟩ (Nat.le_of_ble_eq_true rfl) ⟨Nat.le_of_ble_eq_true rfl, Nat.le_of_ble_eq_true rfl⟩ (by assumption) (cTo_4 (by assumption)) ?_
              refine c_X4_refuseLong (k := 6) hX (by decide) (by decide) ?_
              refine v_lret C Q dX4_worst_67 (Nat.le_of_ble_eq_true rfl) (Nat.le_of_ble_eq_true rfl) ?_
              have w := Cq_rf (k := 6) hR0 (by decide) hp
              exact w
            · exact absurd rfl h41
          · exact absurd h27 (by omega)
