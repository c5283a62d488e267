def newD (k d p c : Nat) : SD := fun f _ => if f = 1 then k else if f = 2 then d else if f = 3 then p else if f = 4 then c else 0
def upN (f : Nat → Nat) (k v : Nat) : Nat → Nat := fun t => if t = k then v else f t
theorem upN_at (f : Nat → Nat) (k v : Nat) : upN f k v k = v := by simp [upN]
theorem upN_ne (f : Nat → Nat) {k t : Nat} (v : Nat) (h : t ≠ k) : upN f k v t = f t := by simp [upN, h]
theorem Cq_add {x z : Nat} {sa : Nat → Nat} {st : St} {S S' : MS} {I I' : MI} {J J' : MJ} {R R' : MR} {D : SD} {Q : QT} {z' : Nat} (h : RcA x sa st z S I R) (hz' : z + 4 < z') (bS : ∀ b, b < z → S' b = S b) (bI : ∀ b k, b < z → I' b k = I b k) (bR : ∀ b k, b < z → R' b k = R b k) (bJ : ∀ b k, b < z → J' b k = J b k) (hD : ScR D z S' I' R') (q : Cq x (addS st D) S I J R Q) : Q z' S' (mu I' x 6 (nI (st.1 + 1))) J' (mu R' (x + 1) st.1 (some z)) := by
  obtain ⟨hX, hn, htl, hsc, hord, htr, hrf, hzz⟩ := h
  refine q z' S' _ J' _ ⟨upN sa st.1 z, hX.up (fun b h1 h2 => bS b (by omega)) (fun b k h1 h2 h3 => by rw [mu_ne _ _ h3]; exact bR b k (by omega)), mu_at _ _ _ _, ?_, fun l hl => ?_, fun l t h1 h2 => ?_, fun j hj => ?_, fun i hi => ?_, by omega⟩ (fun p h1 h2 => ⟨bS p (by omega), fun i => ?_, fun i => bJ p i (by omega), fun i => ?_⟩)
  · rw [mu_other _ _ (by omega), bI _ _ (by omega)]; exact htl
  · by_cases e : l = st.1
    · subst e
      rw [mu_at, upN_at]
      refine ⟨rfl, ?_, by omega, by omega⟩
      show ScR (upF st.2.1 st.1 D st.1) z S' _ _
      rw [upF_at]
      exact hD.up (fun _ _ _ => rfl) (fun b k h1 h2 => by rw [mu_ne _ _ (by omega)]) (fun k => by rw [mu_ne _ _ (by omega)])
    · have hl' : l < st.1 := by have : l < st.1 + 1 := hl; omega
      obtain ⟨a1, a2, a3, a4⟩ := hsc l hl'
      rw [mu_other _ _ (fun c => e c.2), upN_ne _ _ e, bR _ _ (by omega)]
      refine ⟨a1, ?_, a3, by omega⟩
      show ScR (upF st.2.1 st.1 D l) (sa l) S' _ _
      rw [upF_ne _ _ e]
      exact a2.up (fun b h1 h2 => bS b (by omega)) (fun b k h1 h2 => by rw [mu_ne _ _ (by omega)]; exact bI b k (by omega)) (fun k => by rw [mu_ne _ _ (by omega)]; exact bR _ k (by omega))
  · have h2' : t < st.1 + 1 := h2
    have e1 : l ≠ st.1 := by omega
    have := (hsc l (by omega)).2.2.2
    rw [upN_ne _ _ e1]
    by_cases e : t = st.1
    · subst e; rw [upN_at]; omega
    · rw [upN_ne _ _ e]; exact hord l t h1 (by omega)
  · rw [mu_ne _ _ (by omega), mu_ne _ _ (by omega), mu_ne _ _ (by omega), bI _ _ (by omega), bI _ _ (by omega), bI _ _ (by omega)]; exact htr j hj
  · rw [mu_ne _ _ (by omega), bI _ _ (by omega)]; exact hrf i hi
  · rw [mu_ne _ _ (by omega)]; exact bI p i (by omega)
  · rw [mu_ne _ _ (by omega)]; exact bR p i (by omega)
theorem szF_or (d p : Int32) (n : Nat) : szF d p n = -4 ∨ szF d p n = -6 ∨ (szF d p n = nI 0 ∧ ∃ a b : Nat, d = nI a ∧ p = nI b ∧ 1 ≤ a ∧ a ≤ 6 ∧ b ≤ 8 ∧ n < 12) := by
  unfold szF
  by_cases e1 : d < nI 1 ∨ p < 0
  · exact Or.inl (if_pos e1)
  · rw [if_neg e1]
    by_cases e2 : nI 6 < d ∨ nI 8 < p ∨ 12 ≤ n
    · exact Or.inr (Or.inl (if_pos e2))
    · rw [if_neg e2]
      refine Or.inr (Or.inr ⟨rfl, ?_⟩)
      have d1 : nI 1 ≤ d := Int32.not_lt.mp (fun q => e1 (Or.inl q))
      have p1 : ¬ p < 0 := fun q => e1 (Or.inr q)
      have d2 : d ≤ nI 6 := Int32.not_lt.mp (fun q => e2 (Or.inl q))
      have p2 : p ≤ nI 8 := Int32.not_lt.mp (fun q => e2 (Or.inr (Or.inl q)))
      have d0 : ¬ d < 0 := fun q => by
        have a1 := Int32.le_iff_toInt_le.mp d1
        have a2 := Int32.lt_iff_toInt_lt.mp q
        rw [nI_toInt (by decide)] at a1
        have : (0 : Int32).toInt = 0 := rfl
        omega
      obtain ⟨a, ha, rfl⟩ := nI_of2 (M := nI 6) (n := 6) (nI_toInt (by decide)) d0 d2
      obtain ⟨b, hb, rfl⟩ := nI_of2 (M := nI 8) (n := 8) (nI_toInt (by decide)) p1 p2
      have a1 := Int32.le_iff_toInt_le.mp d1
      rw [nI_toInt (by decide), nI_toInt (by omega)] at a1
      exact ⟨a, b, rfl, rfl, by omega, ha, hb, by omega⟩
def mkO (st : St) (d p : Int32) (D : SD) : Int32 × St := if szF d p st.1 = -4 then rfs st (-4) 4 else if szF d p st.1 = -6 then rfs st (-6) 6 else (nI st.1, addS st D)
theorem mkO_4 {st : St} {d p : Int32} {D : SD} (h : szF d p st.1 = -4) : mkO st d p D = rfs st (-4) 4 := if_pos h
theorem mkO_6 {st : St} {d p : Int32} {D : SD} (h : szF d p st.1 = -6) : mkO st d p D = rfs st (-6) 6 := by unfold mkO; rw [if_neg (by rw [h]; decide), if_pos h]
theorem mkO_0 {st : St} {d p : Int32} {D : SD} (h : szF d p st.1 = nI 0) : mkO st d p D = (nI st.1, addS st D) := by unfold mkO; rw [if_neg (by rw [h]; decide), if_neg (by rw [h]; decide)]
def o_table (st : St) (d p : Int32) : Int32 × St := mkO st d p (newD 0 (vN d) (vN p) (2 ^ vN p))
def ladD (p : Nat) : SD := fun f i => if f = 6 then (if i < p then 2 ^ i else 0) else newD 1 1 p (2 ^ p) f i
def o_ladder (st : St) (p : Int32) : Int32 × St := mkO st (nI 1) p (ladD (vN p))
def lotD (F d p : Nat) : SD := fun f i => if f = 9 then (if i % 6 < d ∧ i / 6 < 2 ^ p then lotV F p d (i / 6) (i % 6) else 0) else newD 4 d p (2 ^ p) f i
def uL (v : Int64) : Nat := v.toBitVec.toNat
theorem uL_lt (v : Int64) : uL v < 18446744073709551616 := v.toBitVec.isLt
theorem lN_uL (v : Int64) : lN (uL v) = v := by
  apply Int64.toBitVec_inj.mp
  apply BitVec.eq_of_toNat_eq
  show v.toBitVec.toNat % 2 ^ 64 = _
  exact Nat.mod_eq_of_lt (uL_lt v)
def o_lots (st : St) (d p : Int32) (v : Int64) : Int32 × St := mkO st d p (lotD (uL v) (vN d) (vN p))
def trnD (D : SD) : SD := fun f i => if f = 6 ∨ f = 7 then D f i else newD 2 (D 2 0) (D 3 0) (D 4 0) f i
def o_turned (st : St) (s : Int32) : Int32 × St := onS st.1 s (rfs st (-1) 1) fun k => if st.2.1 k 1 0 < 3 then (if st.1 < 12 then (nI st.1, addS st (trnD (st.2.1 k))) else rfs st (-6) 6) else rfs st (-2) 2
def o_grid (st : St) (c d : Int32) : Int32 × St := if c < nI 1 ∨ d < nI 1 then rfs st (-4) 4 else if nI 256 < c ∨ nI 6 < d ∨ 12 ≤ st.1 then rfs st (-6) 6 else (nI st.1, addS st (newD 3 (vN d) 0 (vN c)))
theorem pm_z (n : Nat) : ∀ p, pm (fun _ => 0) p n = 0
  | 0 => rfl
  | p + 1 => by simp [pm, pm_z n p, pc_0]
theorem prt_new (k d p c n j : Nat) : prt (newD k d p c) n j = 0 := by
  have e6 : ∀ i, newD k d p c 6 i = 0 := fun _ => rfl
  have e7 : ∀ i, newD k d p c 7 i = 0 := fun _ => rfl
  have e8 : ∀ i, newD k d p c 8 i = 0 := fun _ => rfl
  have e9 : ∀ i, newD k d p c 9 i = 0 := fun _ => rfl
  unfold prt
  simp only [e6, e7, e8, e9, Nat.mul_zero, Nat.zero_mod, pm_z, Nat.xor_self, ite_self]
theorem two8 {b : Nat} (h : b ≤ 8) : 1 ≤ 2 ^ b ∧ 2 ^ b ≤ 256 := ⟨Nat.two_pow_pos b, Nat.le_trans (Nat.pow_le_pow_right (by decide) h) (by decide)⟩
theorem ScR_new {k d p c a : Nat} {pw : Int32} {S : MS} {I : MI} {R : MR} (n1 : ScS S R a c) (n3 : I a 0 = nI k) (n4 : I a 1 = pw) (hpw : pw = pwI (newD k d p c)) (n5 : I a 2 = nI c) (n6 : I a 3 = nI d) (n7 : I a 4 = nI 0) (n8 : ∀ b i, a < b → b ≤ a + 4 → I b i = 0) : ScR (newD k d p c) a S I R :=
  ⟨n1, n3, n4.trans hpw, n5, n6, n7, fun i _ => n8 _ _ (by omega) (by omega), fun i _ => n8 _ _ (by omega) (by omega), fun i _ => n8 _ _ (by omega) (by omega), fun n j _ _ => by rw [prt_new]; exact n8 _ _ (by omega) (by omega)⟩
def s_X4_table : Sp := fun av z S I J R Post => ∃ (x : Nat), ∃ (st : St), ∃ (d p : Int32), av = [.ref x, .int d, .int p] ∧ (Rc x st z S I R) ∧ (Ok st) ∧ (Cq x (o_table st d p).2 S I J R (fun z' S' I' J' R' => Post (o_table st d p).1 0 none z' S' I' J' R'))
theorem c_X4_table {x : Nat} {st : St} {d p : Int32} {z : Nat} {S : MS} {I : MI} {J : MJ} {R : MR} {Post : PT} (hR : Rc x st z S I R) (hO : Ok st) (hp : Cq x (o_table st d p).2 S I J R (fun z' S' I' J' R' => Post (o_table st d p).1 0 none z' S' I' J' R')) : s_X4_table [.ref x, .int d, .int p] z S I J R Post := ⟨x, st, d, p, rfl, hR, hO, hp⟩
set_option maxRecDepth 100000 in
set_option maxHeartbeats 1000000 in
theorem m_X4_table (T : TC) (B : Nat) : Mt T B yX4_table cX4_table 4 (some .int) 1 (rmL 3 5 1605) s_X4_table := by
  refine Mt_of rfl (by rintro _ _ _ _ _ _ _ ⟨_, _, _, _, rfl, -⟩; exact Nat.le_of_ble_eq_true rfl) ?_
  intro X av z S I J R Post h C Q hI
  obtain ⟨x, st, d, p, rfl, hR, hO, hp⟩ := h
  have hR0 := hR
  obtain ⟨sa, hX, hn, htl, hsc, hord, htr, hrf, hzz⟩ := hR
  have hn12 := hO.1
  have hx := hX.1
  have hT := hX.2.2.2.2.2.2.2.2.1
  unfold o_table at hp
  rcases szF_or d p st.1 with hz | hz | ⟨hz, a, b, rfl, rfl, g1, g2, g3, g4⟩
  · rw [mkO_4 hz] at hp
    refine v_aload_n C dX4_table_0 rfl ?_
    refine v_iload_n C dX4_table_1 rfl ?_
    refine v_iload_n C dX4_table_2 rfl ?_
    refine v_callV2_1 C (m_X4_sizeFault T B) lk_X4_50 ⟨wt_125, ws_0⟩ 4 rfl dX4_table_3 ⟨Nat.le_of_ble_eq_true rfl, Nat.le_of_ble_eq_true rfl⟩ (Nat.le_of_ble_eq_true rfl) ⟨Nat.le_of_ble_eq_true rfl, Nat.le_of_ble_eq_true rfl⟩ (by assumption) (cTo_4 (by assumption)) ?_
    refine c_X4_sizeFault hx hn hn12 ?_
    rw [hz]
    refine v_istore_n C dX4_table_6 (by decide) ?_
    refine v_iload_n C dX4_table_7 rfl ?_
    refine v_if_eq C 17 dX4_table_8 (by decide) (fun h8 => ?_) (fun h8 => ?_)
    · exact absurd h8 (by decide)
    · refine v_aload_n C dX4_table_11 rfl ?_
      refine v_iload_n C dX4_table_12 rfl ?_
      refine v_callV1_1 C (m_X4_refuse T B) lk_X4_54 ⟨wt_129, ws_1⟩ 4 rfl dX4_table_13 ⟨Nat.le_of_ble_eq_true rfl, Nat.le_of_ble_eq_true rfl⟩ (Nat.le_of_ble_eq_true rfl) ⟨Nat.le_of_ble_eq_true rfl, Nat.le_of_ble_eq_true rfl⟩ (by assumption) (cTo_4 (by assumption)) ?_
      refine c_X4_refuse (k := 4) hX (by decide) (by decide) ?_
      refine v_iret C Q dX4_table_16 (Nat.le_of_ble_eq_true rfl) (Nat.le_of_ble_eq_true rfl) ?_
      have w := Cq_rf (k := 4) hR0 (by decide) hp
      exact w
  · rw [mkO_6 hz] at hp
    refine v_aload_n C dX4_table_0 rfl ?_
    refine v_iload_n C dX4_table_1 rfl ?_
    refine v_iload_n C dX4_table_2 rfl ?_
    refine v_callV2_1 C (m_X4_sizeFault T B) lk_X4_50 ⟨wt_125, ws_0⟩ 4 rfl dX4_table_3 ⟨Nat.le_of_ble_eq_true rfl, Nat.le_of_ble_eq_true rfl⟩ (Nat.le_of_ble_eq_true rfl) ⟨Nat.le_of_ble_eq_true rfl, Nat.le_of_ble_eq_true rfl⟩ (by assumption) (cTo_4 (by assumption)) ?_
    refine c_X4_sizeFault hx hn hn12 ?_
    rw [hz]
    refine v_istore_n C dX4_table_6 (by decide) ?_
    refine v_iload_n C dX4_table_7 rfl ?_
    refine v_if_eq C 17 dX4_table_8 (by decide) (fun h8 => ?_) (fun h8 => ?_)
    · exact absurd h8 (by decide)
    · refine v_aload_n C dX4_table_11 rfl ?_
      refine v_iload_n C dX4_table_12 rfl ?_
      refine v_callV1_1 C (m_X4_refuse T B) lk_X4_54 ⟨wt_129, ws_1⟩ 4 rfl dX4_table_13 ⟨Nat.le_of_ble_eq_true rfl, Nat.le_of_ble_eq_true rfl⟩ (Nat.le_of_ble_eq_true rfl) ⟨Nat.le_of_ble_eq_true rfl, Nat.le_of_ble_eq_true rfl⟩ (by assumption) (cTo_4 (by assumption)) ?_
      refine c_X4_refuse (k := 6) hX (by decide) (by decide) ?_
      refine v_iret C Q dX4_table_16 (Nat.le_of_ble_eq_true rfl) (Nat.le_of_ble_eq_true rfl) ?_
      have w := Cq_rf (k := 6) hR0 (by decide) hp
      exact w
  · rw [mkO_0 hz, vN_nI (by omega), vN_nI (by omega)] at hp
    obtain ⟨w1, w2⟩ := two8 g3
    refine v_aload_n C dX4_table_0 rfl ?_
    refine v_iload_n C dX4_table_1 rfl ?_
    refine v_iload_n C dX4_table_2 rfl ?_
    refine v_callV2_1 C (m_X4_sizeFault T B) lk_X4_50 ⟨wt_125, ws_0⟩ 4 rfl dX4_table_3 ⟨Nat.le_of_ble_eq_true rfl, Nat.le_of_ble_eq_true rfl⟩ (Nat.le_of_ble_eq_true rfl) ⟨Nat.le_of_ble_eq_true rfl, Nat.le_of_ble_eq_true rfl⟩ (by assumption) (cTo_4 (by assumption)) ?_
    refine c_X4_sizeFault hx hn hn12 ?_
    rw [hz]
    refine v_istore_n C dX4_table_6 (by decide) ?_
    refine v_iload_n C dX4_table_7 rfl ?_
    first | refine v_if_eqN C 17 dX4_table_8 (by omega) (by decide) (fun h8 => ?_) (fun h8 => ?_) | refine v_if_eq C 17 dX4_table_8 (by decide) (fun h8 => ?_) (fun h8 => ?_)
    · refine v_aload_n C dX4_table_17 rfl ?_
      refine n_2 C wt_19 (by decide) (by decide) dX4_table_18 ?_
      refine v_dup C dX4_table_21 rfl ?_
      refine v_iconstN 0 C dX4_table_22 ?_
      refine v_iload_n C dX4_table_23 rfl ?_
      refine v_iload_n C dX4_table_24 rfl ?_
      refine v_iconstN 1 C dX4_table_25 ?_
      refine v_iload_n C dX4_table_26 rfl ?_
      first | refine v_ishlN C dX4_table_27 (by omega) (by rw [Nat.one_mul]; omega) ?_ | refine v_ishl C dX4_table_27 ?_
      rw [Nat.one_mul]
      refine v_callI4 C (m_X2_init T B) lk_X4_58 rfl wt_133 dX4_table_28 ⟨Nat.le_of_ble_eq_true rfl, Nat.le_of_ble_eq_true rfl⟩ (Nat.le_of_ble_eq_true rfl) ⟨Nat.le_of_ble_eq_true rfl, Nat.le_of_ble_eq_true rfl⟩ ?_
      refine c_X2_init rfl (su_at _ _ _ _) w1 w2 (fun S1 I1 R1 n1 n2 n3 n4 n5 n6 n7 n8 n9 n10 => ?_)
      have bS : ∀ b, b < z → S1 b = S b := fun b hb => (n2 b (by omega)).trans (su_ne _ (by omega))
      have bI : ∀ b k, b < z → I1 b k = I b k := fun b k hb => (n9 b k (by omega)).trans (congrFun (mz_ne _ _ (by omega)) k)
      have bR : ∀ b k, b < z → R1 b k = R b k := fun b k hb => (n10 b k (by omega)).trans (congrFun (mz_ne _ _ (by omega)) k)
      have bJ : ∀ b k, b < z → mz J z 0 b k = J b k := fun b k hb => congrFun (mz_ne _ _ (by omega)) k
      have bX : XS S1 R1 x := hX.up (fun b h1 h2 => bS b (by omega)) (fun b k h1 h2 _ => bR b k (by omega))
      have bn : I1 x 6 = nI st.1 := (bI x 6 (by omega)).trans hn
      have bx : S1 x = (5, 0) := bX.1
      refine v_callV1_1 C (m_X4_keep T B) lk_X4_61 ⟨wt_186, ws_2⟩ 4 rfl dX4_table_31 ⟨Nat.le_of_ble_eq_true rfl, Nat.le_of_ble_eq_true rfl⟩ (Nat.le_of_ble_eq_true rfl) ⟨Nat.le_of_ble_eq_true rfl, Nat.le_of_ble_eq_true rfl⟩ bx (cTo_4 bx) ?_
      refine c_X4_keep bX bn g4 n1.1 ?_
      refine v_iret C Q dX4_table_34 (Nat.le_of_ble_eq_true rfl) (Nat.le_of_ble_eq_true rfl) ?_
      have w := Cq_add (z' := z + 5) ⟨hX, hn, htl, hsc, hord, htr, hrf, hzz⟩ (by omega) bS bI bR bJ (ScR_new (k := 0) (d := a) (p := b) n1 n3 n4 rfl n5 n6 n7 n8) hp
      exact w
    · exact absurd rfl h8
