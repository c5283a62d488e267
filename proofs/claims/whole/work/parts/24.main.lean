def CoS (S : MS) (R : MR) (k : Nat) : Prop := S k = (1, 0) ∧ R k 0 = some (k + 1) ∧ R k 3 = some (k + 2) ∧ R k 4 = some (k + 3) ∧ S (k + 1) = (7, 3) ∧ S (k + 2) = (7, 3) ∧ S (k + 3) = (7, 195)
/-- the class's own cells, from x on -/
def XS (S : MS) (R : MR) (x : Nat) : Prop := S x = (5, 0) ∧ R x 0 = some (x + 1) ∧ R x 1 = some (x + 2) ∧ R x 2 = some (x + 6) ∧ R x 3 = some (x + 9) ∧ R x 4 = some (x + 10) ∧ R x 5 = some (x + 14) ∧ S (x + 1) = (10, 12) ∧ TrS S R (x + 2) ∧ RaS S R (x + 6) ∧ S (x + 9) = (7, 4913) ∧ CoS S R (x + 10) ∧ S (x + 14) = (7, 7)
def s_X4_refuse : Sp := fun av z S I J R Post => ∃ (x k : Nat), ∃ (v : Int32), av = [.ref x, .int v] ∧ (XS S R x) ∧ (-v = nI k) ∧ (k < 7) ∧ (Post v 0 none z S (mu I (x + 14) k (I (x + 14) k + nI 1)) J R)
theorem c_X4_refuse {x k : Nat} {v : Int32} {z : Nat} {S : MS} {I : MI} {J : MJ} {R : MR} {Post : PT} (hX : XS S R x) (hv : -v = nI k) (hk : k < 7) (hp : Post v 0 none z S (mu I (x + 14) k (I (x + 14) k + nI 1)) J R) : s_X4_refuse [.ref x, .int v] z S I J R Post := ⟨x, k, v, rfl, hX, hv, hk, hp⟩
set_option maxRecDepth 100000 in
set_option maxHeartbeats 400000 in
theorem m_X4_refuse (T : TC) (B : Nat) : Mt T B yX4_refuse cX4_refuse 3 (some .int) 1 (rmL 1 0 0) s_X4_refuse := by
  refine Mt_of rfl (by rintro _ _ _ _ _ _ _ ⟨_, _, _, rfl, -⟩; exact Nat.le_of_ble_eq_true rfl) ?_
  intro X av z S I J R Post h C Q hI
  obtain ⟨x, k, v, rfl, hX, hv, hk, hp⟩ := h
  obtain ⟨hx, hx0, hx1, hx2, hx3, hx4, hx5, hs1, hT, hRa, hs9, hCo, hs14⟩ := hX
  refine v_iload_n C dX4_refuse_0 rfl ?_
  refine v_ineg C dX4_refuse_1 ?_
  rw [hv]
  refine v_istore_n C dX4_refuse_2 (by decide) ?_
  refine v_iload_n C dX4_refuse_3 rfl ?_
  first | refine v_if_ltN C 26 dX4_refuse_4 (by omega) (by decide) (fun h4 => ?_) (fun h4 => ?_) | refine v_if_lt C 26 dX4_refuse_4 (by decide) (fun h4 => ?_) (fun h4 => ?_)
  · exact absurd h4 (fun q => q)
  · refine v_iload_n C dX4_refuse_7 rfl ?_
    refine v_aload_n C dX4_refuse_8 rfl ?_
    refine g_4_5 C (by assumption) (by assumption) wt_99 dX4_refuse_9 ?_
    refine v_alen C (by assumption) dX4_refuse_12 ?_
    first | refine v_icmp_geN C 26 dX4_refuse_13 (by omega) (by omega) (by decide) (fun h13 => ?_) (fun h13 => ?_) | refine v_icmp_ge C 26 dX4_refuse_13 (by decide) (fun h13 => ?_) (fun h13 => ?_)
    · exact absurd h13 (by omega)
    · refine v_aload_n C dX4_refuse_16 rfl ?_
      refine g_4_5 C (by assumption) (by assumption) wt_99 dX4_refuse_17 ?_
      refine v_iload_n C dX4_refuse_20 rfl ?_
      refine v_dup2 C dX4_refuse_21 rfl rfl ?_
      first | refine v_ialdN C (by assumption) (by omega) (by omega) dX4_refuse_22 ?_ | refine v_iald C (by assumption) (by assumption) dX4_refuse_22 ?_
      refine v_iconstN 1 C dX4_refuse_23 ?_
      refine v_iadd C dX4_refuse_24 ?_
      first | refine v_iastN C (by assumption) (by omega) (by omega) dX4_refuse_25 ?_ | refine v_iast C (by assumption) (by assumption) dX4_refuse_25 ?_
      refine v_iload_n C dX4_refuse_26 rfl ?_
      refine v_iret C Q dX4_refuse_27 (Nat.le_of_ble_eq_true rfl) (Nat.le_of_ble_eq_true rfl) ?_
      exact hp
def s_X4_refuseLong : Sp := fun av z S I J R Post => ∃ (x k : Nat), ∃ (v : Int32), av = [.ref x, .int v] ∧ (XS S R x) ∧ (-v = nI k) ∧ (k < 7) ∧ (Post 0 (-1000 - v.toInt64) none z S (mu I (x + 14) k (I (x + 14) k + nI 1)) J R)
theorem c_X4_refuseLong {x k : Nat} {v : Int32} {z : Nat} {S : MS} {I : MI} {J : MJ} {R : MR} {Post : PT} (hX : XS S R x) (hv : -v = nI k) (hk : k < 7) (hp : Post 0 (-1000 - v.toInt64) none z S (mu I (x + 14) k (I (x + 14) k + nI 1)) J R) : s_X4_refuseLong [.ref x, .int v] z S I J R Post := ⟨x, k, v, rfl, hX, hv, hk, hp⟩
set_option maxRecDepth 100000 in
set_option maxHeartbeats 400000 in
theorem m_X4_refuseLong (T : TC) (B : Nat) : Mt T B yX4_refuseLong cX4_refuseLong 2 (some .long) 2 (rmL 2 0 0) s_X4_refuseLong := by
  refine Mt_of rfl (by rintro _ _ _ _ _ _ _ ⟨_, _, _, rfl, -⟩; exact Nat.le_of_ble_eq_true rfl) ?_
  intro X av z S I J R Post h C Q hI
  obtain ⟨x, k, v, rfl, hX, hv, hk, hp⟩ := h
  refine v_ldc2 C dX4_refuseLong_0 wt_408 ?_
  refine v_aload_n C dX4_refuseLong_3 rfl ?_
  refine v_iload_n C dX4_refuseLong_4 rfl ?_
  refine v_callV1_1 C (m_X4_refuse T B) lk_X4_54 ⟨wt_129, ws_1⟩ 4 rfl dX4_refuseLong_5 ⟨Nat.le_of_ble_eq_true rfl, Nat.le_of_ble_eq_true rfl⟩ (Nat.le_of_ble_eq_true rfl) ⟨Nat.le_of_ble_eq_true rfl, Nat.le_of_ble_eq_true rfl⟩ hX.1 (cTo_4 hX.1) ?_
  refine c_X4_refuse hX hv hk ?_
  refine v_i2l C dX4_refuseLong_8 ?_
  refine v_lsub C dX4_refuseLong_9 ?_
  refine v_lret C Q dX4_refuseLong_10 (Nat.le_of_ble_eq_true rfl) (Nat.le_of_ble_eq_true rfl) ?_
  exact hp
def s_X4_find : Sp := fun av z S I J R Post => ∃ (x n : Nat), ∃ (sa : Nat → Nat), ∃ (s : Int32), av = [.ref x, .int s] ∧ (XS S R x) ∧ (I x 6 = nI n) ∧ (n ≤ 12) ∧ (∀ k, k < n → R (x + 1) k = some (sa k)) ∧ ((Oo s n → Post 0 0 none z S I J R) ∧ (∀ k, k < n → s = nI k → Post 0 0 (some (sa k)) z S I J R))
theorem c_X4_find {x n : Nat} {sa : Nat → Nat} {s : Int32} {z : Nat} {S : MS} {I : MI} {J : MJ} {R : MR} {Post : PT} (hX : XS S R x) (hn : I x 6 = nI n) (hn12 : n ≤ 12) (hsa : ∀ k, k < n → R (x + 1) k = some (sa k)) (hp : (Oo s n → Post 0 0 none z S I J R) ∧ (∀ k, k < n → s = nI k → Post 0 0 (some (sa k)) z S I J R)) : s_X4_find [.ref x, .int s] z S I J R Post := ⟨x, n, sa, s, rfl, hX, hn, hn12, hsa, hp⟩
set_option maxRecDepth 100000 in
set_option maxHeartbeats 400000 in
theorem m_X4_find (T : TC) (B : Nat) : Mt T B yX4_find cX4_find 2 (some (.object "EvenScatter$Scatter")) 3 (rmL 1 0 0) s_X4_find := by
  refine Mt_of rfl (by rintro _ _ _ _ _ _ _ ⟨_, _, _, _, rfl, -⟩; exact Nat.le_of_ble_eq_true rfl) ?_
  intro X av z S I J R Post h C Q hI
  obtain ⟨x, n, sa, s, rfl, hX, hn, hn12, hsa, hp⟩ := h
  obtain ⟨hx, hx0, hx1, hx2, hx3, hx4, hx5, hs1, hT, hRa, hs9, hCo, hs14⟩ := hX
  rcases Oo_or s n (by omega) with ho | ⟨k, hk, rfl⟩
  · refine v_iload_n C dX4_find_0 rfl ?_
    refine v_if_lt C 21 dX4_find_1 (by decide) (fun h1 => ?_) (fun h1 => ?_)
    · refine v_null C dX4_find_21 ?_
      exact v_aret (r := none) C Q dX4_find_22 (Nat.le_of_ble_eq_true rfl) (Nat.le_of_ble_eq_true rfl) (Or.inl ⟨_, rfl⟩) (hp.1 ho)
    · refine v_iload_n C dX4_find_4 rfl ?_
      refine v_aload_n C dX4_find_5 rfl ?_
      first | refine gv_4_6 C (by assumption) (by assumption) wt_100 dX4_find_6 ?_ | refine g_4_6 C (by assumption) wt_100 dX4_find_6 ?_
      refine v_icmp_ge C 21 dX4_find_9 (by decide) (fun h9 => ?_) (fun h9 => ?_)
      · refine v_null C dX4_find_21 ?_
        exact v_aret (r := none) C Q dX4_find_22 (Nat.le_of_ble_eq_true rfl) (Nat.le_of_ble_eq_true rfl) (Or.inl ⟨_, rfl⟩) (hp.1 ho)
      · exact absurd ho (fun q => q.elim h1 h9)
  · refine v_iload_n C dX4_find_0 rfl ?_
    first | refine v_if_ltN C 21 dX4_find_1 (by omega) (by decide) (fun h1 => ?_) (fun h1 => ?_) | refine v_if_lt C 21 dX4_find_1 (by decide) (fun h1 => ?_) (fun h1 => ?_)
    · exact absurd h1 (fun q => q)
    · refine v_iload_n C dX4_find_4 rfl ?_
      refine v_aload_n C dX4_find_5 rfl ?_
      first | refine gv_4_6 C (by assumption) (by assumption) wt_100 dX4_find_6 ?_ | refine g_4_6 C (by assumption) wt_100 dX4_find_6 ?_
      first | refine v_icmp_geN C 21 dX4_find_9 (by omega) (by omega) (by decide) (fun h9 => ?_) (fun h9 => ?_) | refine v_icmp_ge C 21 dX4_find_9 (by decide) (fun h9 => ?_) (fun h9 => ?_)
      · exact absurd h9 (by omega)
      · refine v_aload_n C dX4_find_12 rfl ?_
        refine g_4_0 C (by assumption) (by assumption) wt_94 dX4_find_13 ?_
        refine v_iload_n C dX4_find_16 rfl ?_
        first | refine v_aaldN C (by assumption) (by omega) (by omega) dX4_find_17 ?_ | refine v_aald C (by assumption) (by assumption) dX4_find_17 ?_
        rw [hsa k hk]
        refine v_goto C 22 dX4_find_18 (by decide) ?_
        exact v_aret (r := some (sa k)) C Q dX4_find_22 (Nat.le_of_ble_eq_true rfl) (Nat.le_of_ble_eq_true rfl) (Or.inl ⟨_, rfl⟩) (hp.2 k hk rfl)
def s_X4_keep : Sp := fun av z S I J R Post => ∃ (x n a : Nat), av = [.ref x, .ref a] ∧ (XS S R x) ∧ (I x 6 = nI n) ∧ (n < 12) ∧ (S a = (3, 0)) ∧ (Post (nI n) 0 none z S (mu I x 6 (nI (n + 1))) J (mu R (x + 1) n (some a)))
theorem c_X4_keep {x n a : Nat} {z : Nat} {S : MS} {I : MI} {J : MJ} {R : MR} {Post : PT} (hX : XS S R x) (hn : I x 6 = nI n) (hn12 : n < 12) (ha : S a = (3, 0)) (hp : Post (nI n) 0 none z S (mu I x 6 (nI (n + 1))) J (mu R (x + 1) n (some a))) : s_X4_keep [.ref x, .ref a] z S I J R Post := ⟨x, n, a, rfl, hX, hn, hn12, ha, hp⟩
set_option maxRecDepth 100000 in
set_option maxHeartbeats 400000 in
theorem m_X4_keep (T : TC) (B : Nat) : Mt T B yX4_keep cX4_keep 3 (some .int) 1 (rmL 1 0 0) s_X4_keep := by
  refine Mt_of rfl (by rintro _ _ _ _ _ _ _ ⟨_, _, _, rfl, -⟩; exact Nat.le_of_ble_eq_true rfl) ?_
  intro X av z S I J R Post h C Q hI
  obtain ⟨x, n, a, rfl, hX, hn, hn12, ha, hp⟩ := h
  obtain ⟨hx, hx0, hx1, hx2, hx3, hx4, hx5, hs1, hT, hRa, hs9, hCo, hs14⟩ := hX
  refine v_aload_n C dX4_keep_0 rfl ?_
  first | refine gv_4_6 C (by assumption) (by assumption) wt_100 dX4_keep_1 ?_ | refine g_4_6 C (by assumption) wt_100 dX4_keep_1 ?_
  refine v_istore_n C dX4_keep_4 (by decide) ?_
  refine v_iload_n C dX4_keep_5 rfl ?_
  refine v_bipushN 12 (by decide) C dX4_keep_6 ?_
  first | refine v_icmp_geN C 28 dX4_keep_8 (by omega) (by omega) (by decide) (fun h8 => ?_) (fun h8 => ?_) | refine v_icmp_ge C 28 dX4_keep_8 (by decide) (fun h8 => ?_) (fun h8 => ?_)
  · exact absurd h8 (by omega)
  · refine v_aload_n C dX4_keep_11 rfl ?_
    refine g_4_0 C (by assumption) (by assumption) wt_94 dX4_keep_12 ?_
    refine v_iload_n C dX4_keep_15 rfl ?_
    refine v_aload_n C dX4_keep_16 rfl ?_
    first | refine v_aastN C (by assumption) (by assumption) (by omega) (by omega) dX4_keep_17 ?_ | refine v_aast C (by assumption) (by assumption) (by assumption) dX4_keep_17 ?_
    refine v_aload_n C dX4_keep_18 rfl ?_
    refine v_dup C dX4_keep_19 rfl ?_
    first | refine gv_4_6 C (by assumption) (by assumption) wt_100 dX4_keep_20 ?_ | refine g_4_6 C (by assumption) wt_100 dX4_keep_20 ?_
    refine v_iconstN 1 C dX4_keep_23 ?_
    first | refine v_iaddN C dX4_keep_24 ?_ | refine v_iadd C dX4_keep_24 ?_
    refine p_4_6 C (by assumption) wt_100 dX4_keep_25 ?_
    refine v_iload_n C dX4_keep_28 rfl ?_
    refine v_iret C Q dX4_keep_29 (Nat.le_of_ble_eq_true rfl) (Nat.le_of_ble_eq_true rfl) ?_
    exact hp
def szF (d p : Int32) (n : Nat) : Int32 := if d < nI 1 ∨ p < 0 then -4 else if nI 6 < d ∨ nI 8 < p ∨ 12 ≤ n then -6 else nI 0
def s_X4_sizeFault : Sp := fun av z S I J R Post => ∃ (x n : Nat), ∃ (d p : Int32), av = [.ref x, .int d, .int p] ∧ (S x = (5, 0)) ∧ (I x 6 = nI n) ∧ (n ≤ 12) ∧ (Post (szF d p n) 0 none z S I J R)
theorem c_X4_sizeFault {x n : Nat} {d p : Int32} {z : Nat} {S : MS} {I : MI} {J : MJ} {R : MR} {Post : PT} (hx : S x = (5, 0)) (hn : I x 6 = nI n) (hn12 : n ≤ 12) (hp : Post (szF d p n) 0 none z S I J R) : s_X4_sizeFault [.ref x, .int d, .int p] z S I J R Post := ⟨x, n, d, p, rfl, hx, hn, hn12, hp⟩
set_option maxRecDepth 100000 in
set_option maxHeartbeats 400000 in
theorem m_X4_sizeFault (T : TC) (B : Nat) : Mt T B yX4_sizeFault cX4_sizeFault 3 (some .int) 1 (rmL 1 0 0) s_X4_sizeFault := by
  refine Mt_of rfl (by rintro _ _ _ _ _ _ _ ⟨_, _, _, _, rfl, -⟩; exact Nat.le_of_ble_eq_true rfl) ?_
  intro X av z S I J R Post h C Q hI
  obtain ⟨x, n, d, p, rfl, hx, hn, hn12, hp⟩ := h
  refine v_iload_n C dX4_sizeFault_0 rfl ?_
  refine v_iconstN 1 C dX4_sizeFault_1 ?_
  refine v_icmp_lt C 9 dX4_sizeFault_2 (by decide) (fun h2 => ?_) (fun h2 => ?_)
  · refine v_bipush (v := -4) C dX4_sizeFault_9 (by decide) ?_
    refine v_iret C Q dX4_sizeFault_11 (Nat.le_of_ble_eq_true rfl) (Nat.le_of_ble_eq_true rfl) ?_
    have e : szF d p n = -4 := by
      unfold szF; rw [if_pos]
      first | exact Or.inl h2 | exact Or.inr (Int32.not_le.mp h6)
    rw [e] at hp; exact hp
  · refine v_iload_n C dX4_sizeFault_5 rfl ?_
    refine v_if_ge C 12 dX4_sizeFault_6 (by decide) (fun h6 => ?_) (fun h6 => ?_)
    · refine v_iload_n C dX4_sizeFault_12 rfl ?_
      refine v_bipushN 6 (by decide) C dX4_sizeFault_13 ?_
      refine v_icmp_gt C 33 dX4_sizeFault_15 (by decide) (fun h15 => ?_) (fun h15 => ?_)
      · refine v_bipush (v := -6) C dX4_sizeFault_33 (by decide) ?_
        refine v_iret C Q dX4_sizeFault_35 (Nat.le_of_ble_eq_true rfl) (Nat.le_of_ble_eq_true rfl) ?_
        have e : szF d p n = -6 := by
          unfold szF; rw [if_neg (fun q => q.elim h2 (fun q => absurd h6 (Int32.not_le.mpr q))), if_pos]
          first | exact Or.inl h15 | exact Or.inr (Or.inl h21) | exact Or.inr (Or.inr h30)
        rw [e] at hp; exact hp
      · refine v_iload_n C dX4_sizeFault_18 rfl ?_
        refine v_bipushN 8 (by decide) C dX4_sizeFault_19 ?_
        refine v_icmp_gt C 33 dX4_sizeFault_21 (by decide) (fun h21 => ?_) (fun h21 => ?_)
        · refine v_bipush (v := -6) C dX4_sizeFault_33 (by decide) ?_
          refine v_iret C Q dX4_sizeFault_35 (Nat.le_of_ble_eq_true rfl) (Nat.le_of_ble_eq_true rfl) ?_
          have e : szF d p n = -6 := by
            unfold szF; rw [if_neg (fun q => q.elim h2 (fun q => absurd h6 (Int32.not_le.mpr q))), if_pos]
            first | exact Or.inl h15 | exact Or.inr (Or.inl h21) | exact Or.inr (Or.inr h30)
          rw [e] at hp; exact hp
        · refine v_aload_n C dX4_sizeFault_24 rfl ?_
          first | refine gv_4_6 C (by assumption) (by assumption) wt_100 dX4_sizeFault_25 ?_ | refine g_4_6 C (by assumption) wt_100 dX4_sizeFault_25 ?_
          refine v_bipushN 12 (by decide) C dX4_sizeFault_28 ?_
          first | refine v_icmp_ltN C 36 dX4_sizeFault_30 (by omega) (by omega) (by decide) (fun h30 => ?_) (fun h30 => ?_) | refine v_icmp_lt C 36 dX4_sizeFault_30 (by decide) (fun h30 => ?_) (fun h30 => ?_)
          · refine v_iconstN 0 C dX4_sizeFault_36 ?_
            refine v_iret C Q dX4_sizeFault_37 (Nat.le_of_ble_eq_true rfl) (Nat.le_of_ble_eq_true rfl) ?_
            have e : szF d p n = nI 0 := by
              unfold szF; rw [if_neg (fun q => q.elim h2 (fun q => absurd h6 (Int32.not_le.mpr q))), if_neg (fun q => q.elim h15 (fun q => q.elim h21 (fun q => absurd h30 (by omega))))]
            rw [e] at hp; exact hp
          · refine v_bipush (v := -6) C dX4_sizeFault_33 (by decide) ?_
            refine v_iret C Q dX4_sizeFault_35 (Nat.le_of_ble_eq_true rfl) (Nat.le_of_ble_eq_true rfl) ?_
            have e : szF d p n = -6 := by
              unfold szF; rw [if_neg (fun q => q.elim h2 (fun q => absurd h6 (Int32.not_le.mpr q))), if_pos]
              first | exact Or.inl h15 | exact Or.inr (Or.inl h21) | exact Or.inr (Or.inr h30)
            rw [e] at hp; exact hp
    · refine v_bipush (v := -4) C dX4_sizeFault_9 (by decide) ?_
      refine v_iret C Q dX4_sizeFault_11 (Nat.le_of_ble_eq_true rfl) (Nat.le_of_ble_eq_true rfl) ?_
      have e : szF d p n = -4 := by
        unfold szF; rw [if_pos]
        first | exact Or.inl h2 | exact Or.inr (Int32.not_le.mp h6)
      rw [e] at hp; exact hp
def s_X4_mayBeMeasured : Sp := fun av z S I J R Post => ∃ (a c d : Nat), av = [.ref a] ∧ (S a = (3, 0)) ∧ (I a 2 = nI c) ∧ (I a 3 = nI d) ∧ (d ≤ 6) ∧ (c ≤ 256) ∧ (Post (nI (b2 (decide (d ≤ 3 ∧ c ≤ 64)))) 0 none z S I J R)
theorem c_X4_mayBeMeasured {a c d : Nat} {z : Nat} {S : MS} {I : MI} {J : MJ} {R : MR} {Post : PT} (hs : S a = (3, 0)) (hcc : I a 2 = nI c) (hd : I a 3 = nI d) (hd6 : d ≤ 6) (hc : c ≤ 256) (hp : Post (nI (b2 (decide (d ≤ 3 ∧ c ≤ 64)))) 0 none z S I J R) : s_X4_mayBeMeasured [.ref a] z S I J R Post := ⟨a, c, d, rfl, hs, hcc, hd, hd6, hc, hp⟩
set_option maxRecDepth 100000 in
set_option maxHeartbeats 400000 in
theorem m_X4_mayBeMeasured (T : TC) (B : Nat) : Mt T B yX4_mayBeMeasured cX4_mayBeMeasured 1 (some .boolean) 1 (rmL 1 0 0) s_X4_mayBeMeasured := by
  refine Mt_of rfl (by rintro _ _ _ _ _ _ _ ⟨_, _, _, rfl, -⟩; exact Nat.le_of_ble_eq_true rfl) ?_
  intro X av z S I J R Post h C Q hI
  obtain ⟨a, c, d, rfl, hs, hcc, hd, hd6, hc, hp⟩ := h
  refine v_aload_n C dX4_mayBeMeasured_0 rfl ?_
  first | refine gv_2_3 C (by assumption) (by assumption) wt_156 dX4_mayBeMeasured_1 ?_ | refine g_2_3 C (by assumption) wt_156 dX4_mayBeMeasured_1 ?_
  refine v_iconstN 3 C dX4_mayBeMeasured_4 ?_
  first | refine v_icmp_gtN C 21 dX4_mayBeMeasured_5 (by omega) (by omega) (by decide) (fun h5 => ?_) (fun h5 => ?_) | refine v_icmp_gt C 21 dX4_mayBeMeasured_5 (by decide) (fun h5 => ?_) (fun h5 => ?_)
  · refine v_iconstN 0 C dX4_mayBeMeasured_21 ?_
    refine v_zret C Q dX4_mayBeMeasured_22 (Nat.le_of_ble_eq_true rfl) (Nat.le_of_ble_eq_true rfl) (by first | exact nz_0 | exact nz_1) ?_
    first
    | (rw [show decide (d ≤ 3 ∧ c ≤ 64) = true from by simp; omega] at hp; exact hp)
    | (rw [show decide (d ≤ 3 ∧ c ≤ 64) = false from by simp; omega] at hp; exact hp)
  · refine v_aload_n C dX4_mayBeMeasured_8 rfl ?_
    first | refine gv_2_2 C (by assumption) (by assumption) wt_150 dX4_mayBeMeasured_9 ?_ | refine g_2_2 C (by assumption) wt_150 dX4_mayBeMeasured_9 ?_
    refine v_bipushN 64 (by decide) C dX4_mayBeMeasured_12 ?_
    first | refine v_icmp_gtN C 21 dX4_mayBeMeasured_14 (by omega) (by omega) (by decide) (fun h14 => ?_) (fun h14 => ?_) | refine v_icmp_gt C 21 dX4_mayBeMeasured_14 (by decide) (fun h14 => ?_) (fun h14 => ?_)
    · refine v_iconstN 0 C dX4_mayBeMeasured_21 ?_
      refine v_zret C Q dX4_mayBeMeasured_22 (Nat.le_of_ble_eq_true rfl) (Nat.le_of_ble_eq_true rfl) (by first | exact nz_0 | exact nz_1) ?_
      first
      | (rw [show decide (d ≤ 3 ∧ c ≤ 64) = true from by simp; omega] at hp; exact hp)
      | (rw [show decide (d ≤ 3 ∧ c ≤ 64) = false from by simp; omega] at hp; exact hp)
    · refine v_iconstN 1 C dX4_mayBeMeasured_17 ?_
      refine v_goto C 22 dX4_mayBeMeasured_18 (by decide) ?_
      refine v_zret C Q dX4_mayBeMeasured_22 (Nat.le_of_ble_eq_true rfl) (Nat.le_of_ble_eq_true rfl) (by first | exact nz_0 | exact nz_1) ?_
      first
      | (rw [show decide (d ≤ 3 ∧ c ≤ 64) = true from by simp; omega] at hp; exact hp)
      | (rw [show decide (d ≤ 3 ∧ c ≤ 64) = false from by simp; omega] at hp; exact hp)
