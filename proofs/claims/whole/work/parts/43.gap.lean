theorem lN_I {n : Nat} (h : n < 9223372036854775808) : (lN n).toInt = (n : Int) := Int64.toInt_ofNat_of_lt h
theorem sub_I {a b : Nat} (ha : a < 4611686018427387904) (hb : b < 4611686018427387904) : (lN a - lN b).toInt = (a : Int) - b := by
  rw [Int64.toInt_sub, lN_I (by omega), lN_I (by omega)]
  exact Int.bmod_eq_of_le (by omega) (by omega)
theorem add_I {x : Int64} {b : Nat} (ha : x.toInt.natAbs < 4611686018427387904) (hb : b < 4611686018427387904) : (x + lN b).toInt = x.toInt + b := by
  rw [Int64.toInt_add, lN_I (by omega)]
  exact Int.bmod_eq_of_le (by omega) (by omega)
def dst (a b : Nat) : Nat := (a - b) + (b - a)
theorem dst_I (a b : Nat) : ((a : Int) - b).natAbs = dst a b := by unfold dst; omega
theorem dst_c (a b : Nat) : dst a b = dst b a := by unfold dst; omega
theorem dst_le {a b M : Nat} (ha : a ≤ M) (hb : b ≤ M) : dst a b ≤ M := by unfold dst; omega
theorem abs_sub {a b : Nat} (ha : a < 4611686018427387904) (hb : b < 4611686018427387904) : (if 0 < lN a - lN b then lN a - lN b else -(lN a - lN b)) = lN (dst a b) := by
  have h := sub_I ha hb
  rw [ab_abs (by rw [h]; omega), h, dst_I]
theorem prodN_le {f : Nat → Nat} {M : Nat} : ∀ {n : Nat}, (∀ i, i < n → f i ≤ M) → prodN f n ≤ M ^ n
  | 0, _ => Nat.le_refl 1
  | n + 1, h => by
    have ih := prodN_le (f := f) (n := n) (fun i hi => h i (by omega))
    rw [Nat.pow_succ]
    exact Nat.mul_le_mul ih (h n (by omega))
theorem c48 {c d : Nat} (hc : c ≤ 256) (hd : d ≤ 6) : c ^ d ≤ 281474976710656 := Nat.le_trans (Nat.le_trans (Nat.pow_le_pow_left hc d) (Nat.pow_le_pow_right (by decide) hd)) (by decide)
theorem c_pos {c : Nat} (h : 1 ≤ c) (d : Nat) : 0 < c ^ d := Nat.pow_pos h
theorem pow_pred {c d : Nat} (h : 1 ≤ d) : c * c ^ (d - 1) = c ^ d := by
  rw [Nat.mul_comm, ← Nat.pow_succ, Nat.succ_eq_add_one, Nat.sub_add_cancel h]
def hiW (W : Nat → Nat → Int32) (c j : Nat) : Bool := !(decide (W 1 j < 0)) && decide (W 1 j ≤ nI c)
def hW (W : Nat → Nat → Int32) (j : Nat) : Nat := vN (W 1 j)
def coW (D : SD) (H : Nat → Int32) (cl : Bool) (n j : Nat) : Bool := decide (nI (prt D n j) < H j) || (decide (nI (prt D n j) = H j) && cl)
def inW (D : SD) (H : Nat → Int32) (cl : Bool) (c : Nat) : Nat := sumN (fun n => b2 (allB (coW D H cl n) (D 2 0))) c
theorem inW_le (D : SD) (H : Nat → Int32) (cl : Bool) (c : Nat) : inW D H cl c ≤ c := by
  have := sumN_le (f := fun n => b2 (allB (coW D H cl n) (D 2 0))) (n := c) (M := 1) (fun i _ => by have := b2_lt (allB (coW D H cl i) (D 2 0)); omega)
  rw [Nat.mul_one] at this
  exact this
theorem hi_nI {W : Nat → Nat → Int32} {c j : Nat} (hc : c < 2147483648) (h : hiW W c j = true) : W 1 j = nI (hW W j) ∧ hW W j ≤ c := by
  simp only [hiW, Bool.and_eq_true, Bool.not_eq_true', decide_eq_false_iff_not, decide_eq_true_eq] at h
  obtain ⟨k, hk, e⟩ := nI_of2 (M := nI c) (n := c) (nI_toInt hc) h.1 h.2
  unfold hW
  rw [e, vN_nI (by omega)]
  exact ⟨rfl, hk⟩
def gapW (D : SD) (W : Nat → Nat → Int32) (cl : Bool) (w : Nat) : Int64 := frc (lN (dst (inW D (W 1) cl (D 4 0) * D 4 0 ^ (D 2 0 - 1)) (prodN (hW W) (D 2 0)))) (D 4 0 ^ D 2 0) (decide (w = 1))
def o_gap (st : St) (s : Int32) (cl : Bool) (w : Int32) : Int64 × St := onS st.1 s (rfg st (-1) 1) fun k => onS 2 w (rfg st (-2) 2) fun w => if allB (hiW st.2.2 (st.2.1 k 4 0)) (st.2.1 k 2 0) = true then (gapW (st.2.1 k) st.2.2 cl w, st) else rfg st (-3) 3
/-- a number in between, of an Int32 tested against 0 and n -/
theorem Oo_le {x : Int32} {n : Nat} (hn : n < 2147483647) (h : Oo x (n + 1)) (h0 : ¬ x < 0) : ¬ x ≤ nI n := fun q => by
  rcases h with g | g
  · exact h0 g
  · have a1 := Int32.le_iff_toInt_le.mp g
    have a2 := Int32.le_iff_toInt_le.mp q
    rw [nI_toInt (by omega)] at a1 a2
    omega
def s_X4_gap : Sp := fun av z S I J R Post => ∃ (x : Nat), ∃ (st : St), ∃ (s w : Int32), ∃ (cl : Bool), av = [.ref x, .int s, .int (nI (b2 cl)), .int w] ∧ (Rc x st z S I R) ∧ (Ok st) ∧ (Cq x (o_gap st s cl w).2 S I J R (fun z' S' I' J' R' => Post 0 (o_gap st s cl w).1 none z' S' I' J' R'))
theorem c_X4_gap {x : Nat} {st : St} {s w : Int32} {cl : Bool} {z : Nat} {S : MS} {I : MI} {J : MJ} {R : MR} {Post : PT} (hR : Rc x st z S I R) (hO : Ok st) (hp : Cq x (o_gap st s cl w).2 S I J R (fun z' S' I' J' R' => Post 0 (o_gap st s cl w).1 none z' S' I' J' R')) : s_X4_gap [.ref x, .int s, .int (nI (b2 cl)), .int w] z S I J R Post := ⟨x, st, s, w, cl, rfl, hR, hO, hp⟩
set_option maxRecDepth 100000 in
set_option maxHeartbeats 1000000 in
theorem m_X4_gap (T : TC) (B : Nat) : Mt T B yX4_gap cX4_gap 13 (some .long) 2 (rmL 3 0 0) s_X4_gap := by
  refine Mt_of rfl (by rintro _ _ _ _ _ _ _ ⟨_, _, _, _, _, rfl, -⟩; exact Nat.le_of_ble_eq_true rfl) ?_
  intro X av z S I J R Post h C Q hI
  obtain ⟨x, st, s, w, cl, rfl, hR, hO, hp⟩ := h
  have hR0 := hR
  obtain ⟨sa, hX, hn, htl, hsc, hord, htr, hrf, hzz⟩ := hR
  have hn12 := hO.1
  have hx := hX.1
  have hT := hX.2.2.2.2.2.2.2.2.1
  have hT1 := hX.2.2.1
  have hT0 := hT.1
  have hTh := hT.2.2.1
  have hTs := hT.2.2.2.2.2.1
  unfold o_gap at hp
  rcases Oo_or s st.1 (by omega) with ho | ⟨k, hk, rfl⟩
  · rw [onS_o ho] at hp
    refine v_aload_n C dX4_gap_0 rfl ?_
    refine v_iload_n C dX4_gap_1 rfl ?_
    refine v_callV1_3 C (m_X4_find T B) lk_X4_65 ⟨wt_194, ws_3⟩ 4 rfl dX4_gap_2 ⟨Nat.le_of_ble_eq_true rfl, Nat.le_of_ble_eq_true rfl⟩ (Nat.le_of_ble_eq_true rfl) ⟨Nat.le_of_ble_eq_true rfl, Nat.le_of_ble_eq_true rfl⟩ (by assumption) (cTo_4 (by assumption)) ?_
    refine c_find_o hX hn hn12 (fun k hk => (hsc k hk).1) ho ?_
    refine v_astoreN C dX4_gap_5 (by decide) ?_
    refine v_aloadN C dX4_gap_7 rfl ?_
    refine v_ifnonnullN C dX4_gap_9 ?_
    refine v_aload_n C dX4_gap_12 rfl ?_
    refine v_iconst (v := -1) C dX4_gap_13 (by decide) ?_
    refine v_callV1_2 C (m_X4_refuseLong T B) lk_X4_168 ⟨wt_406, ws_10⟩ 4 rfl dX4_gap_14 ⟨Nat.le_of_ble_eq_true rfl, Nat.le_of_ble_eq_true rfl⟩ (Nat.le_of_ble_eq_true rfl) ⟨Nat.le_of_ble_eq_true rfl, Nat.le_of_ble_eq_true rfl⟩ (by assumption) (cTo_4 (by assumption)) ?_
    refine c_X4_refuseLong (k := 1) hX (by decide) (by decide) ?_
    refine v_lret C Q dX4_gap_17 (Nat.le_of_ble_eq_true rfl) (Nat.le_of_ble_eq_true rfl) ?_
    have w := Cq_rf (k := 1) hR0 (by decide) hp
    exact w
  · obtain ⟨hrk, hSR, hka, hkz⟩ := hsc k hk
    have hSR0 := hSR
    obtain ⟨hSc, hk0, hk1, hk2, hk3, hk4, hk5, hk6, hk7, hk8⟩ := hSR
    have hOk := hO.2.1 k hk
    obtain ⟨o1, o2, o3, o4, o5, o6, o7, o8, o9, o10, o11, o12⟩ := hOk
    have hs := hSc.1
    rw [onS_k hk (by omega)] at hp
    rcases Oo_or w 2 (by omega) with hq | ⟨v, hv, rfl⟩
    · rw [onS_o hq] at hp
      refine v_aload_n C dX4_gap_0 rfl ?_
      refine v_iload_n C dX4_gap_1 rfl ?_
      refine v_callV1_3 C (m_X4_find T B) lk_X4_65 ⟨wt_194, ws_3⟩ 4 rfl dX4_gap_2 ⟨Nat.le_of_ble_eq_true rfl, Nat.le_of_ble_eq_true rfl⟩ (Nat.le_of_ble_eq_true rfl) ⟨Nat.le_of_ble_eq_true rfl, Nat.le_of_ble_eq_true rfl⟩ (by assumption) (cTo_4 (by assumption)) ?_
      refine c_find_k hX hn hn12 (fun k hk => (hsc k hk).1) hk ?_
      refine v_astore C dX4_gap_5 (by decide) ?_
      refine v_aload C dX4_gap_7 rfl ?_
      refine v_ifnonnull C 18 dX4_gap_9 (by decide) ?_
      refine v_iload_n C dX4_gap_18 rfl ?_
      refine v_if_lt C 27 dX4_gap_19 (by decide) (fun h19 => ?_) (fun h19 => ?_)
      · refine v_aload_n C dX4_gap_27 rfl ?_
        refine v_bipush (v := -2) C dX4_gap_28 (by decide) ?_
        refine v_callV1_2 C (m_X4_refuseLong T B) lk_X4_168 ⟨wt_406, ws_10⟩ 4 rfl dX4_gap_30 ⟨Nat.le_of_ble_eq_true rfl, Nat.le_of_ble_eq_true rfl⟩ (Nat.le_of_ble_eq_true rfl) ⟨Nat.le_of_ble_eq_true rfl, Nat.le_of_ble_eq_true rfl⟩ (by assumption) (cTo_4 (by assumption)) ?_
        refine c_X4_refuseLong (k := 2) hX (by decide) (by decide) ?_
        refine v_lret C Q dX4_gap_33 (Nat.le_of_ble_eq_true rfl) (Nat.le_of_ble_eq_true rfl) ?_
        have w := Cq_rf (k := 2) hR0 (by decide) hp
        exact w
      · refine v_iload_n C dX4_gap_22 rfl ?_
        refine v_iconstN 1 C dX4_gap_23 ?_
        refine v_icmp_le C 34 dX4_gap_24 (by decide) (fun h24 => ?_) (fun h24 => ?_)
        · exact absurd h24 (Oo_le (by decide) hq h19)
        · refine v_aload_n C dX4_gap_27 rfl ?_
          refine v_bipush (v := -2) C dX4_gap_28 (by decide) ?_
          refine v_callV1_2 C (m_X4_refuseLong T B) lk_X4_168 ⟨wt_406, ws_10⟩ 4 rfl dX4_gap_30 ⟨Nat.le_of_ble_eq_true rfl, Nat.le_of_ble_eq_true rfl⟩ (Nat.le_of_ble_eq_true rfl) ⟨Nat.le_of_ble_eq_true rfl, Nat.le_of_ble_eq_true rfl⟩ (by assumption) (cTo_4 (by assumption)) ?_
          refine c_X4_refuseLong (k := 2) hX (by decide) (by decide) ?_
          refine v_lret C Q dX4_gap_33 (Nat.le_of_ble_eq_true rfl) (Nat.le_of_ble_eq_true rfl) ?_
          have w := Cq_rf (k := 2) hR0 (by decide) hp
          exact w
    · rw [onS_k hv (by omega)] at hp
      have eH : allB (fHig I (x + 2) (st.2.1 k 4 0)) (st.2.1 k 2 0) = allB (hiW st.2.2 (st.2.1 k 4 0)) (st.2.1 k 2 0) := allB_congr (fun j hj => by
        unfold fHig hiW; rw [(htr j (by omega)).2.1])
      cases hA : allB (hiW st.2.2 (st.2.1 k 4 0)) (st.2.1 k 2 0) with
      | false =>
        rw [if_neg (by rw [hA]; decide)] at hp
        rw [hA] at eH
        refine v_aload_n C dX4_gap_0 rfl ?_
        refine v_iload_n C dX4_gap_1 rfl ?_
        refine v_callV1_3 C (m_X4_find T B) lk_X4_65 ⟨wt_194, ws_3⟩ 4 rfl dX4_gap_2 ⟨Nat.le_of_ble_eq_true rfl, Nat.le_of_ble_eq_true rfl⟩ (Nat.le_of_ble_eq_true rfl) ⟨Nat.le_of_ble_eq_true rfl, Nat.le_of_ble_eq_true rfl⟩ (by assumption) (cTo_4 (by assumption)) ?_
        refine c_find_k hX hn hn12 (fun k hk => (hsc k hk).1) hk ?_
        refine v_astore C dX4_gap_5 (by decide) ?_
        refine v_aload C dX4_gap_7 rfl ?_
        refine v_ifnonnull C 18 dX4_gap_9 (by decide) ?_
        refine v_iload_n C dX4_gap_18 rfl ?_
        first | refine v_if_ltN C 27 dX4_gap_19 (by omega) (by decide) (fun h19 => ?_) (fun h19 => ?_) | refine v_if_lt C 27 dX4_gap_19 (by decide) (fun h19 => ?_) (fun h19 => ?_)
        · exact absurd h19 (fun q => q)
        · refine v_iload_n C dX4_gap_22 rfl ?_
          refine v_iconstN 1 C dX4_gap_23 ?_
          first | refine v_icmp_leN C 34 dX4_gap_24 (by omega) (by omega) (by decide) (fun h24 => ?_) (fun h24 => ?_) | refine v_icmp_le C 34 dX4_gap_24 (by decide) (fun h24 => ?_) (fun h24 => ?_)
          · refine v_aload_n C dX4_gap_34 rfl ?_
            refine g_4_1 C (by assumption) (by assumption) wt_95 dX4_gap_35 ?_
            refine v_aload C dX4_gap_38 rfl ?_
            refine v_callV1_1 C (m_X3_highsMayBe T B) lk_X4_172 ⟨wt_410, wt_411⟩ 3 rfl dX4_gap_40 ⟨Nat.le_of_ble_eq_true rfl, Nat.le_of_ble_eq_true rfl⟩ (Nat.le_of_ble_eq_true rfl) ⟨Nat.le_of_ble_eq_true rfl, Nat.le_of_ble_eq_true rfl⟩ (by assumption) (cTo_3 (by assumption)) ?_
            refine c_X3_highsMayBe hT hs hk2 hk3 o3 ?_
            rw [eH]
            first | refine v_if_neN C 53 dX4_gap_43 (by omega) (by decide) (fun h43 => ?_) (fun h43 => ?_) | refine v_if_ne C 53 dX4_gap_43 (by decide) (fun h43 => ?_) (fun h43 => ?_)
            · exact absurd h43 (by decide)
            · refine v_aload_n C dX4_gap_46 rfl ?_
              refine v_bipush (v := -3) C dX4_gap_47 (by decide) ?_
              refine v_callV1_2 C (m_X4_refuseLong T B) lk_X4_168 ⟨wt_406, ws_10⟩ 4 rfl dX4_gap_49 ⟨Nat.le_of_ble_eq_true rfl, Nat.le_of_ble_eq_true rfl⟩ (Nat.le_of_ble_eq_true rfl) ⟨Nat.le_of_ble_eq_true rfl, Nat.le_of_ble_eq_true rfl⟩ (by assumption) (cTo_4 (by assumption)) ?_
              refine c_X4_refuseLong (k := 3) hX (by decide) (by decide) ?_
              refine v_lret C Q dX4_gap_52 (Nat.le_of_ble_eq_true rfl) (Nat.le_of_ble_eq_true rfl) ?_
              have w := Cq_rf (k := 3) hR0 (by decide) hp
              exact w
          · exact absurd h24 (by omega)
      | true =>
        rw [if_pos hA] at hp
        rw [hA] at eH
        have hh : ∀ j, j < st.2.1 k 2 0 → I (x + 2 + 2) j = nI (hW st.2.2 j) ∧ hW st.2.2 j ≤ st.2.1 k 4 0 := fun j hj => ⟨((htr j (by omega)).2.1).trans (hi_nI (by omega) (allB_iff.mp hA j hj)).1, (hi_nI (by omega) (allB_iff.mp hA j hj)).2⟩
        have hpr := prodN_le (f := hW st.2.2) (M := st.2.1 k 4 0) (n := st.2.1 k 2 0) (fun j hj => (hh j hj).2)
        have hc48 := c48 o6 o3
        have hcp := c_pos o5 (st.2.1 k 2 0)
        have hin := inW_le (st.2.1 k) (st.2.2 1) cl (st.2.1 k 4 0)
        have hsh : inW (st.2.1 k) (st.2.2 1) cl (st.2.1 k 4 0) * st.2.1 k 4 0 ^ (st.2.1 k 2 0 - 1) ≤ st.2.1 k 4 0 ^ st.2.1 k 2 0 := by
          rw [← pow_pred o2]
          exact Nat.mul_le_mul_right _ hin
        have hds := dst_le hsh hpr
        have fin : V X 0 0 z S I J R 134 [some (.ref x), none, none, some (.int (nI v)), some (.ref (sa k)), some (.long (lN (prodN (hW st.2.2) (st.2.1 k 2 0)))), none, some (.long (lN (inW (st.2.1 k) (st.2.2 1) cl (st.2.1 k 4 0)))), none, none, none, none, none] [] := by
          refine v_lload C dX4_gap_134 rfl ?_
          refine v_aload C dX4_gap_136 rfl ?_
          first | refine gv_2_2 C (by assumption) (by assumption) wt_150 dX4_gap_138 ?_ | refine g_2_2 C (by assumption) wt_150 dX4_gap_138 ?_
          first | refine v_i2lN C dX4_gap_141 (by omega) ?_ | refine v_i2l C dX4_gap_141 ?_
          refine v_aload C dX4_gap_142 rfl ?_
          first | refine gv_2_3 C (by assumption) (by assumption) wt_156 dX4_gap_144 ?_ | refine g_2_3 C (by assumption) wt_156 dX4_gap_144 ?_
          refine v_iconstN 1 C dX4_gap_147 ?_
          first | refine v_isubN C dX4_gap_148 (by omega) ?_ | refine v_isub C dX4_gap_148 ?_
          refine v_callS2_2 C (m_X4_powerOf T B) lk_X4_180 wt_418 dX4_gap_149 ⟨Nat.le_of_ble_eq_true rfl, Nat.le_of_ble_eq_true rfl⟩ (Nat.le_of_ble_eq_true rfl) ⟨Nat.le_of_ble_eq_true rfl, Nat.le_of_ble_eq_true rfl⟩ ?_
          refine c_X4_powerOf (by omega) ?_
          first | refine v_lmulN C dX4_gap_152 ?_ | refine v_lmul C dX4_gap_152 ?_
          refine v_lstore C dX4_gap_153 (by decide) ?_
          refine v_aload C dX4_gap_155 rfl ?_
          first | refine gv_2_2 C (by assumption) (by assumption) wt_150 dX4_gap_157 ?_ | refine g_2_2 C (by assumption) wt_150 dX4_gap_157 ?_
          first | refine v_i2lN C dX4_gap_160 (by omega) ?_ | refine v_i2l C dX4_gap_160 ?_
          refine v_aload C dX4_gap_161 rfl ?_
          first | refine gv_2_3 C (by assumption) (by assumption) wt_156 dX4_gap_163 ?_ | refine g_2_3 C (by assumption) wt_156 dX4_gap_163 ?_
          refine v_callS2_2 C (m_X4_powerOf T B) lk_X4_180 wt_418 dX4_gap_166 ⟨Nat.le_of_ble_eq_true rfl, Nat.le_of_ble_eq_true rfl⟩ (Nat.le_of_ble_eq_true rfl) ⟨Nat.le_of_ble_eq_true rfl, Nat.le_of_ble_eq_true rfl⟩ ?_
          refine c_X4_powerOf (by omega) ?_
          refine v_lstore C dX4_gap_169 (by decide) ?_
          refine v_lload C dX4_gap_171 rfl ?_
          refine v_lload C dX4_gap_173 rfl ?_
          refine v_lsub C dX4_gap_175 ?_
          refine v_mabsL C wt_420 wt_421 wt_422 (Nat.le_of_ble_eq_true rfl) (Nat.le_of_ble_eq_true rfl) (Nat.le_of_ble_eq_true rfl) (Nat.le_of_ble_eq_true rfl) dX4_gap_176 ?_
          rw [abs_sub (by omega) (by omega)]
          refine v_lload C dX4_gap_179 rfl ?_
          refine v_iload_n C dX4_gap_181 rfl ?_
          refine v_iconstN 1 C dX4_gap_182 ?_
          first | refine v_icmp_neN C 190 dX4_gap_183 (by omega) (by omega) (by decide) (fun h183 => ?_) (fun h183 => ?_) | refine v_icmp_ne C 190 dX4_gap_183 (by decide) (fun h183 => ?_) (fun h183 => ?_)
          · rw [show gapW (st.2.1 k) st.2.2 cl v = frc _ _ (decide (0 = 1)) from by unfold gapW; rw [decide_eq_false h183, decide_eq_false (by decide)]] at hp
            refine v_iconstN 0 C dX4_gap_190 ?_
            refine v_callS3_2 C (m_X4_fraction T B) lk_X4_190 wt_424 dX4_gap_191 ⟨Nat.le_of_ble_eq_true rfl, Nat.le_of_ble_eq_true rfl⟩ (Nat.le_of_ble_eq_true rfl) ⟨Nat.le_of_ble_eq_true rfl, Nat.le_of_ble_eq_true rfl⟩ ?_
            refine c_X4_fraction (by rw [lN_I (by omega)]; omega) (by omega) hcp (by omega) ?_
            refine v_lret C Q dX4_gap_194 (Nat.le_of_ble_eq_true rfl) (Nat.le_of_ble_eq_true rfl) ?_
            have w := Cq_same hR0 hp
            exact w
          · rw [show gapW (st.2.1 k) st.2.2 cl v = frc _ _ (decide (1 = 1)) from by unfold gapW; rw [decide_eq_true h183, decide_eq_true rfl]] at hp
            refine v_iconstN 1 C dX4_gap_186 ?_
            refine v_goto C 191 dX4_gap_187 (by decide) ?_
            refine v_callS3_2 C (m_X4_fraction T B) lk_X4_190 wt_424 dX4_gap_191 ⟨Nat.le_of_ble_eq_true rfl, Nat.le_of_ble_eq_true rfl⟩ (Nat.le_of_ble_eq_true rfl) ⟨Nat.le_of_ble_eq_true rfl, Nat.le_of_ble_eq_true rfl⟩ ?_
            refine c_X4_fraction (by rw [lN_I (by omega)]; omega) (by omega) hcp (by omega) ?_
            refine v_lret C Q dX4_gap_194 (Nat.le_of_ble_eq_true rfl) (Nat.le_of_ble_eq_true rfl) ?_
            have w := Cq_same hR0 hp
            exact w
        have loop : ∀ n : Nat, n ≤ st.2.1 k 4 0 → V X 0 0 z S I J R 97 [some (.ref x), none, some (.int (nI (b2 cl))), some (.int (nI v)), some (.ref (sa k)), some (.long (lN (prodN (hW st.2.2) (st.2.1 k 2 0)))), none, some (.long (lN (inW (st.2.1 k) (st.2.2 1) cl n))), none, some (.int (nI n)), none, none, none] [] := by
          refine lp_up (st.2.1 k 4 0) ?_
          intro n hn2 ih
          have eB : n < st.2.1 k 4 0 → allB (fCor I (x + 2) (sa k) (st.2.1 k 4 0) n cl) (st.2.1 k 2 0) = allB (coW (st.2.1 k) (st.2.2 1) cl n) (st.2.1 k 2 0) := fun hlt => allB_congr (fun j hj => by
            unfold fCor coW
            rw [hk8 n j hlt hj, (htr j (by omega)).2.1])
          refine v_iload C dX4_gap_97 rfl ?_
          refine v_aload C dX4_gap_99 rfl ?_
          first | refine gv_2_2 C (by assumption) (by assumption) wt_150 dX4_gap_101 ?_ | refine g_2_2 C (by assumption) wt_150 dX4_gap_101 ?_
          first | refine v_icmp_geN C 134 dX4_gap_104 (by omega) (by omega) (by decide) (fun h104 => ?_) (fun h104 => ?_) | refine v_icmp_ge C 134 dX4_gap_104 (by decide) (fun h104 => ?_) (fun h104 => ?_)
          · obtain rfl : n = st.2.1 k 4 0 := by omega
            exact v_less fin (by repeat (first | exact trivial | refine And.intro rfl ?_))
          · refine v_aload_n C dX4_gap_107 rfl ?_
            refine g_4_1 C (by assumption) (by assumption) wt_95 dX4_gap_108 ?_
            refine v_aload C dX4_gap_111 rfl ?_
            refine v_iload C dX4_gap_113 rfl ?_
            refine v_iload_n C dX4_gap_115 rfl ?_
            refine v_callV3_1 C (m_X3_cornerHas T B) lk_X4_176 ⟨wt_414, wt_415⟩ 3 rfl dX4_gap_116 ⟨Nat.le_of_ble_eq_true rfl, Nat.le_of_ble_eq_true rfl⟩ (Nat.le_of_ble_eq_true rfl) ⟨Nat.le_of_ble_eq_true rfl, Nat.le_of_ble_eq_true rfl⟩ (by assumption) (cTo_3 (by assumption)) ?_
            refine c_X3_cornerHas hT hSc hk2 hk3 o3 h104 ?_
            rw [eB h104]
            refine v_if_eq C 128 dX4_gap_119 (by decide) (fun h119 => ?_) (fun h119 => ?_)
            · have hb : b2 (allB (coW (st.2.1 k) (st.2.2 1) cl n) (st.2.1 k 2 0)) = 0 := by
                cases hq : allB (coW (st.2.1 k) (st.2.2 1) cl n) (st.2.1 k 2 0) with
                | false => rfl
                | true => rw [hq] at h119; exact absurd h119 (by decide)
              first | refine v_iincN 1 C dX4_gap_128 rfl (by decide) ?_ | refine v_iinc C dX4_gap_128 rfl rfl (by decide) ?_
              refine v_goto C 97 dX4_gap_131 (by decide) ?_
              have hh := ih h104
              have e2 : inW (st.2.1 k) (st.2.2 1) cl (n + 1) = inW (st.2.1 k) (st.2.2 1) cl n + b2 (allB (coW (st.2.1 k) (st.2.2 1) cl n) (st.2.1 k 2 0)) := rfl
              rw [e2, hb] at hh
              exact v_less hh (by repeat (first | exact trivial | refine And.intro rfl ?_))
            · have hb : b2 (allB (coW (st.2.1 k) (st.2.2 1) cl n) (st.2.1 k 2 0)) = 1 := by
                cases hq : allB (coW (st.2.1 k) (st.2.2 1) cl n) (st.2.1 k 2 0) with
                | true => rfl
                | false => rw [hq] at h119; exact absurd rfl h119
              refine v_lload C dX4_gap_122 rfl ?_
              refine v_lconst (v := lN 1) C dX4_gap_124 rfl ?_
              first | refine v_laddN C dX4_gap_125 ?_ | refine v_ladd C dX4_gap_125 ?_
              refine v_lstore C dX4_gap_126 (by decide) ?_
              first | refine v_iincN 1 C dX4_gap_128 rfl (by decide) ?_ | refine v_iinc C dX4_gap_128 rfl rfl (by decide) ?_
              refine v_goto C 97 dX4_gap_131 (by decide) ?_
              have hh := ih h104
              have e2 : inW (st.2.1 k) (st.2.2 1) cl (n + 1) = inW (st.2.1 k) (st.2.2 1) cl n + b2 (allB (coW (st.2.1 k) (st.2.2 1) cl n) (st.2.1 k 2 0)) := rfl
              rw [e2, hb] at hh
              exact v_less hh (by repeat (first | exact trivial | refine And.intro rfl ?_))
        have size : ∀ j : Nat, j ≤ st.2.1 k 2 0 → V X 0 0 z S I J R 59 [some (.ref x), none, some (.int (nI (b2 cl))), some (.int (nI v)), some (.ref (sa k)), some (.long (lN (prodN (hW st.2.2) j))), none, some (.int (nI j)), none, none, none, none, none] [] := by
          refine lp_up (st.2.1 k 2 0) ?_
          intro j hj ih
          refine v_iload C dX4_gap_59 rfl ?_
          refine v_aload C dX4_gap_61 rfl ?_
          first | refine gv_2_3 C (by assumption) (by assumption) wt_156 dX4_gap_63 ?_ | refine g_2_3 C (by assumption) wt_156 dX4_gap_63 ?_
          first | refine v_icmp_geN C 91 dX4_gap_66 (by omega) (by omega) (by decide) (fun h66 => ?_) (fun h66 => ?_) | refine v_icmp_ge C 91 dX4_gap_66 (by decide) (fun h66 => ?_) (fun h66 => ?_)
          · refine v_lconst (v := lN 0) C dX4_gap_91 rfl ?_
            refine v_lstore C dX4_gap_92 (by decide) ?_
            refine v_iconstN 0 C dX4_gap_94 ?_
            refine v_istore C dX4_gap_95 (by decide) ?_
            obtain rfl : j = st.2.1 k 2 0 := by omega
            exact v_less (loop 0 (Nat.zero_le _)) (by repeat (first | exact trivial | refine And.intro rfl ?_))
          · obtain ⟨q1, q2⟩ := hh j h66
            refine v_lload C dX4_gap_69 rfl ?_
            refine v_aload_n C dX4_gap_71 rfl ?_
            refine g_4_1 C (by assumption) (by assumption) wt_95 dX4_gap_72 ?_
            refine g_3_1 C (by assumption) (by assumption) wt_30 dX4_gap_75 ?_
            refine v_iload C dX4_gap_78 rfl ?_
            first | refine v_ialdN C (by assumption) (by omega) (by omega) dX4_gap_80 ?_ | refine v_iald C (by assumption) (by assumption) dX4_gap_80 ?_
            rw [q1]
            first | refine v_i2lN C dX4_gap_81 (by omega) ?_ | refine v_i2l C dX4_gap_81 ?_
            first | refine v_lmulN C dX4_gap_82 ?_ | refine v_lmul C dX4_gap_82 ?_
            refine v_lstore C dX4_gap_83 (by decide) ?_
            first | refine v_iincN 1 C dX4_gap_85 rfl (by decide) ?_ | refine v_iinc C dX4_gap_85 rfl rfl (by decide) ?_
            refine v_goto C 59 dX4_gap_88 (by decide) ?_
            exact v_less (ih h66) (by repeat (first | exact trivial | refine And.intro rfl ?_))
        refine v_aload_n C dX4_gap_0 rfl ?_
        refine v_iload_n C dX4_gap_1 rfl ?_
        refine v_callV1_3 C (m_X4_find T B) lk_X4_65 ⟨wt_194, ws_3⟩ 4 rfl dX4_gap_2 ⟨Nat.le_of_ble_eq_true rfl, Nat.le_of_ble_eq_true rfl⟩ (Nat.le_of_ble_eq_true rfl) ⟨Nat.le_of_ble_eq_true rfl, Nat.le_of_ble_eq_true rfl⟩ (by assumption) (cTo_4 (by assumption)) ?_
        refine c_find_k hX hn hn12 (fun k hk => (hsc k hk).1) hk ?_
        refine v_astore C dX4_gap_5 (by decide) ?_
        refine v_aload C dX4_gap_7 rfl ?_
        refine v_ifnonnull C 18 dX4_gap_9 (by decide) ?_
        refine v_iload_n C dX4_gap_18 rfl ?_
        first | refine v_if_ltN C 27 dX4_gap_19 (by omega) (by decide) (fun h19 => ?_) (fun h19 => ?_) | refine v_if_lt C 27 dX4_gap_19 (by decide) (fun h19 => ?_) (fun h19 => ?_)
        · exact absurd h19 (fun q => q)
        · refine v_iload_n C dX4_gap_22 rfl ?_
          refine v_iconstN 1 C dX4_gap_23 ?_
          first | refine v_icmp_leN C 34 dX4_gap_24 (by omega) (by omega) (by decide) (fun h24 => ?_) (fun h24 => ?_) | refine v_icmp_le C 34 dX4_gap_24 (by decide) (fun h24 => ?_) (fun h24 => ?_)
          · refine v_aload_n C dX4_gap_34 rfl ?_
            refine g_4_1 C (by assumption) (by assumption) wt_95 dX4_gap_35 ?_
            refine v_aload C dX4_gap_38 rfl ?_
            refine v_callV1_1 C (m_X3_highsMayBe T B) lk_X4_172 ⟨wt_410, wt_411⟩ 3 rfl dX4_gap_40 ⟨Nat.le_of_ble_eq_true rfl, Nat.le_of_ble_eq_true rfl⟩ (Nat.le_of_ble_eq_true rfl) ⟨Nat.le_of_ble_eq_true rfl, Nat.le_of_ble_eq_true rfl⟩ (by assumption) (cTo_3 (by assumption)) ?_
            refine c_X3_highsMayBe hT hs hk2 hk3 o3 ?_
            rw [eH]
            first | refine v_if_neN C 53 dX4_gap_43 (by omega) (by decide) (fun h43 => ?_) (fun h43 => ?_) | refine v_if_ne C 53 dX4_gap_43 (by decide) (fun h43 => ?_) (fun h43 => ?_)
            · refine v_lconst (v := lN 1) C dX4_gap_53 rfl ?_
              refine v_lstore C dX4_gap_54 (by decide) ?_
              refine v_iconstN 0 C dX4_gap_56 ?_
              refine v_istore C dX4_gap_57 (by decide) ?_
              exact v_less (size 0 (Nat.zero_le _)) (by repeat (first | exact trivial | refine And.intro rfl ?_))
            · exact absurd h43 (by decide)
          · exact absurd h24 (by omega)
