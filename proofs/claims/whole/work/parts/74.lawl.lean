set_option maxRecDepth 100000 in
set_option maxHeartbeats 1000000 in
theorem law_at {X : CX} {T : TC} {B : Nat} (C : Cx X "EvenScatterLaw" code room_1 T B 4) {b L x j : Nat} {xs : Nat → Int32} (hE : LEn X b) (hs : Scr X b L xs) (hL : L ≤ 2560) (hjL : j ≤ L) {st : St} {z : Nat} {S : MS} {I : MI} {J : MJ} {R : MR} (hJ : Jn x st z S I R) (nx : j + 5 ≤ L → Nx X b x j) : V X (40 + j) (100000 + 321 * j) z S I J R 18 [some (.ref b), some (.ref x), some (.ref (x + 15)), some (.int (nI j))] [] := by
  by_cases h5 : L < 5
  · refine v_iload_n C dL_law_18 rfl ?_
    refine v_aload_n C dL_law_19 rfl ?_
    refine v_slen C hs dL_law_20 ?_
    refine v_iconstN 5 C dL_law_21 ?_
    refine v_isub C dL_law_22 ?_
    refine v_icmp_gt C 1182 dL_law_23 (by decide) (fun h23 => ?_) (fun h23 => ?_)
    · refine v_iconstN 1 C dL_law_1182 ?_
      exact v_lend C hE dL_law_1183 (by omega) (by omega)
    · exact absurd (neg5 h5 (by omega)) h23
  · refine v_iload_n C dL_law_18 rfl ?_
    refine v_aload_n C dL_law_19 rfl ?_
    refine v_slen C hs dL_law_20 ?_
    refine v_iconstN 5 C dL_law_21 ?_
    first | refine v_isubN C dL_law_22 (by omega) ?_ | refine v_isub C dL_law_22 ?_
    first | refine v_icmp_gtN C 1182 dL_law_23 (by omega) (by omega) (by decide) (fun h23 => ?_) (fun h23 => ?_) | refine v_icmp_gt C 1182 dL_law_23 (by decide) (fun h23 => ?_) (fun h23 => ?_)
    · refine v_iconstN 1 C dL_law_1182 ?_
      exact v_lend C hE dL_law_1183 (by omega) (by omega)
    · refine v_aload_n C dL_law_26 rfl ?_
      refine v_iload_n C dL_law_27 rfl ?_
      refine v_sld C hs (by omega) (by omega) dL_law_28 ?_
      refine v_bipushN 31 (by decide) C dL_law_29 ?_
      refine v_iand C dL_law_31 ?_
      have hj5 : j + 5 ≤ L := by omega
      obtain ⟨w, hw, ew⟩ := and31 (xs j)
      rw [ew]
      rcases (show w = 0 ∨ w = 1 ∨ w = 2 ∨ w = 3 ∨ w = 4 ∨ w = 5 ∨ w = 6 ∨ w = 7 ∨ w = 8 ∨ w = 9 ∨ w = 10 ∨ w = 11 ∨ w = 12 ∨ w = 13 ∨ w = 14 ∨ w = 15 ∨ w = 16 ∨ w = 17 ∨ w = 18 ∨ w = 19 ∨ w = 20 ∨ w = 21 ∨ w = 22 ∨ w = 23 ∨ w = 24 ∨ w = 25 ∨ w = 26 ∨ w = 27 ∨ w = 28 ∨ w = 29 ∨ w = 30 ∨ w = 31 by omega) with rfl | rfl | rfl | rfl | rfl | rfl | rfl | rfl | rfl | rfl | rfl | rfl | rfl | rfl | rfl | rfl | rfl | rfl | rfl | rfl | rfl | rfl | rfl | rfl | rfl | rfl | rfl | rfl | rfl | rfl | rfl | rfl
      · refine v_tableIn C 160 dL_law_32 (by decide) (by decide) rfl (by decide) ?_
        exact law_0 C hs hL hj5 hJ (nx hj5)
      · refine v_tableIn C 193 dL_law_32 (by decide) (by decide) rfl (by decide) ?_
        exact law_1 C hs hL hj5 hJ (nx hj5)
      · refine v_tableIn C 246 dL_law_32 (by decide) (by decide) rfl (by decide) ?_
        exact law_2 C hs hL hj5 hJ (nx hj5)
      · refine v_tableIn C 269 dL_law_32 (by decide) (by decide) rfl (by decide) ?_
        exact law_3 C hs hL hj5 hJ (nx hj5)
      · refine v_tableIn C 342 dL_law_32 (by decide) (by decide) rfl (by decide) ?_
        exact law_4 C hs hL hj5 hJ (nx hj5)
      · refine v_tableIn C 365 dL_law_32 (by decide) (by decide) rfl (by decide) ?_
        exact law_5 C hs hL hj5 hJ (nx hj5)
      · refine v_tableIn C 408 dL_law_32 (by decide) (by decide) rfl (by decide) ?_
        exact law_6 C hs hL hj5 hJ (nx hj5)
      · refine v_tableIn C 441 dL_law_32 (by decide) (by decide) rfl (by decide) ?_
        exact law_7 C hs hL hj5 hJ (nx hj5)
      · refine v_tableIn C 484 dL_law_32 (by decide) (by decide) rfl (by decide) ?_
        exact law_8 C hs hL hj5 hJ (nx hj5)
      · refine v_tableIn C 557 dL_law_32 (by decide) (by decide) rfl (by decide) ?_
        exact law_9 C hs hL hj5 hJ (nx hj5)
      · refine v_tableIn C 590 dL_law_32 (by decide) (by decide) rfl (by decide) ?_
        exact law_10 C hs hL hj5 hJ (nx hj5)
      · refine v_tableIn C 633 dL_law_32 (by decide) (by decide) rfl (by decide) ?_
        exact law_11 C hs hL hj5 hJ (nx hj5)
      · refine v_tableIn C 656 dL_law_32 (by decide) (by decide) rfl (by decide) ?_
        exact law_12 C hs hL hj5 hJ (nx hj5)
      · refine v_tableIn C 689 dL_law_32 (by decide) (by decide) rfl (by decide) ?_
        exact law_13 C hs hL hj5 hJ (nx hj5)
      · refine v_tableIn C 732 dL_law_32 (by decide) (by decide) rfl (by decide) ?_
        exact law_14 C hs hL hj5 hJ (nx hj5)
      · refine v_tableIn C 765 dL_law_32 (by decide) (by decide) rfl (by decide) ?_
        exact law_15 C hs hL hj5 hJ (nx hj5)
      · refine v_tableIn C 788 dL_law_32 (by decide) (by decide) rfl (by decide) ?_
        exact law_16 C hs hL hj5 hJ (nx hj5)
      · refine v_tableIn C 811 dL_law_32 (by decide) (by decide) rfl (by decide) ?_
        exact law_17 C hs hL hj5 hJ (nx hj5)
      · refine v_tableIn C 834 dL_law_32 (by decide) (by decide) rfl (by decide) ?_
        exact law_18 C hs hL hj5 hJ (nx hj5)
      · refine v_tableIn C 857 dL_law_32 (by decide) (by decide) rfl (by decide) ?_
        exact law_19 C hs hL hj5 hJ (nx hj5)
      · refine v_tableIn C 880 dL_law_32 (by decide) (by decide) rfl (by decide) ?_
        exact law_20 C hs hL hj5 hJ (nx hj5)
      · refine v_tableIn C 923 dL_law_32 (by decide) (by decide) rfl (by decide) ?_
        exact law_21 C hs hL hj5 hJ (nx hj5)
      · refine v_tableIn C 983 dL_law_32 (by decide) (by decide) rfl (by decide) ?_
        exact law_22 C hs hL hj5 hJ (nx hj5)
      · refine v_tableIn C 1017 dL_law_32 (by decide) (by decide) rfl (by decide) ?_
        exact law_23 C hs hL hj5 hJ (nx hj5)
      · refine v_tableIn C 1051 dL_law_32 (by decide) (by decide) rfl (by decide) ?_
        exact law_24 C hs hL hj5 hJ (nx hj5)
      · refine v_tableIn C 1075 dL_law_32 (by decide) (by decide) rfl (by decide) ?_
        exact law_25 C hs hL hj5 hJ (nx hj5)
      · refine v_tableIn C 1119 dL_law_32 (by decide) (by decide) rfl (by decide) ?_
        exact law_26 C hs hL hj5 hJ (nx hj5)
      · refine v_tableIn C 1153 dL_law_32 (by decide) (by decide) rfl (by decide) ?_
        exact law_27 C hs hL hj5 hJ (nx hj5)
      · refine v_tableOut C 1176 dL_law_32 (by decide) (by decide) ?_
        exact v_widen (by omega) (by omega) (nx hj5 _ _ _ _ _ _ hJ)
      · refine v_tableOut C 1176 dL_law_32 (by decide) (by decide) ?_
        exact v_widen (by omega) (by omega) (nx hj5 _ _ _ _ _ _ hJ)
      · refine v_tableOut C 1176 dL_law_32 (by decide) (by decide) ?_
        exact v_widen (by omega) (by omega) (nx hj5 _ _ _ _ _ _ hJ)
      · refine v_tableOut C 1176 dL_law_32 (by decide) (by decide) ?_
        exact v_widen (by omega) (by omega) (nx hj5 _ _ _ _ _ _ hJ)
theorem law_loop {X : CX} {T : TC} {B : Nat} (C : Cx X "EvenScatterLaw" code room_1 T B 4) {b L x : Nat} {xs : Nat → Int32} (hE : LEn X b) (hs : Scr X b L xs) (hL : L ≤ 2560) : ∀ n j, L - j ≤ n → j ≤ L → ∀ (st : St) (z : Nat) (S : MS) (I : MI) (J : MJ) (R : MR), Jn x st z S I R → V X (40 + j) (100000 + 321 * j) z S I J R 18 [some (.ref b), some (.ref x), some (.ref (x + 15)), some (.int (nI j))] [] := by
  intro n
  induction n with
  | zero =>
    intro j hn hjL st z S I J R hJ
    exact law_at C hE hs hL hjL hJ (fun h => absurd h (by omega))
  | succ n ih =>
    intro j hn hjL st z S I J R hJ
    refine law_at C hE hs hL hjL hJ (fun h z2 S2 I2 J2 R2 st2 hJ2 => ?_)
    first | refine v_iincN 5 C dL_law_1176 rfl (by decide) ?_ | refine v_iinc C dL_law_1176 rfl rfl (by decide) ?_
    refine v_goto C 18 dL_law_1179 (by decide) ?_
    exact ih (j + 5) (by omega) h st2 z2 S2 I2 J2 R2 hJ2
theorem jn_start {x : Nat} {S1 S2 : MS} {I1 I2 : MI} {R1 R2 : MR} (a1 : XS S1 R1 x) (a3 : I1 x 6 = nI 0) (a4 : I1 x 7 = nI 0) (a5 : ∀ b k, b = x + 3 ∨ b = x + 4 ∨ b = x + 5 ∨ b = x + 14 → I1 b k = 0) (b1 : MoS S2 R2 (x + 15)) (b2 : ∀ b, b < x + 15 → S2 b = S1 b) (b3 : ∀ b k, b < x + 15 → I2 b k = I1 b k) (b5 : ∀ b k, b < x + 15 → R2 b k = R1 b k) (b6 : ∀ b k, x + 15 < b → b ≤ x + 15 + 13 → I2 b k = 0) (b7 : I2 (x + 15) 0 = 0) (b8 : I2 (x + 15) 13 = 0) : Jn x (0, fun _ _ _ => 0, fun _ _ => 0) (x + 15 + 20) S2 I2 R2 := by
  refine ⟨⟨fun _ => 0, a1.up (fun b h1 h2 => b2 b (by omega)) (fun b k h1 h2 _ => b5 b k (by omega)), (b3 _ _ (by omega)).trans a3, (b3 _ _ (by omega)).trans a4, fun k hk => absurd hk (Nat.not_lt_zero k), fun k l _ hl => absurd hl (Nat.not_lt_zero l), fun j _ => ⟨(b3 _ _ (by omega)).trans (a5 _ _ (by omega)), (b3 _ _ (by omega)).trans (a5 _ _ (by omega)), (b3 _ _ (by omega)).trans (a5 _ _ (by omega))⟩, fun k _ => (b3 _ _ (by omega)).trans (a5 _ _ (by omega)), by omega⟩, b1, ⟨b7, b8, fun s _ => ?_, fun j _ => ⟨b6 _ _ (by omega) (by omega), b6 _ _ (by omega) (by omega), b6 _ _ (by omega) (by omega)⟩, fun k _ => b6 _ _ (by omega) (by omega)⟩, ⟨Nat.zero_le _, fun k hk => absurd hk (Nat.not_lt_zero k), fun _ _ _ _ => rfl⟩⟩
  exact ⟨b6 _ _ (by omega) (by omega), b6 _ _ (by omega) (by omega), b6 _ _ (by omega) (by omega), b6 _ _ (by omega) (by omega), b6 _ _ (by omega) (by omega), fun i _ => b6 _ _ (by omega) (by omega), fun i _ => b6 _ _ (by omega) (by omega), fun i _ => b6 _ _ (by omega) (by omega), fun i _ => b6 _ _ (by omega) (by omega)⟩
set_option maxRecDepth 100000 in
set_option maxHeartbeats 1000000 in
theorem law_main {X : CX} {T : TC} {B : Nat} (C : Cx X "EvenScatterLaw" code room_1 T B 4) {b L z : Nat} {xs : Nat → Int32} (hE : LEn X b) (hs : Scr X b L xs) (hL : L ≤ 2560) {S : MS} {I : MI} {J : MJ} {R : MR} : V X 0 0 z S I J R 0 [some (.ref b), none, none, none] [] := by
  refine n_4 C wt_11 (by decide) (by decide) dL_law_0 ?_
  refine v_dup C dL_law_3 rfl ?_
  refine v_callI0 C (m_X4_init T B) lk_L_9 rfl wt_14 dL_law_4 ⟨Nat.le_of_ble_eq_true rfl, Nat.le_of_ble_eq_true rfl⟩ (Nat.le_of_ble_eq_true rfl) ⟨Nat.le_of_ble_eq_true rfl, Nat.le_of_ble_eq_true rfl⟩ ?_
  refine c_X4_init rfl (su_at _ _ _ _) (fun S1 I1 J1 R1 a1 a2 a3 a4 a5 => ?_)
  refine v_astore_n C dL_law_7 (by decide) ?_
  refine n_5 C wt_526 (by decide) (by decide) dL_law_8 ?_
  refine v_dup C dL_law_11 rfl ?_
  refine v_callI0 C (m_X5_init T B) lk_L_12 rfl wt_529 dL_law_12 ⟨Nat.le_of_ble_eq_true rfl, Nat.le_of_ble_eq_true rfl⟩ (Nat.le_of_ble_eq_true rfl) ⟨Nat.le_of_ble_eq_true rfl, Nat.le_of_ble_eq_true rfl⟩ ?_
  refine c_X5_init rfl (su_at _ _ _ _) (fun S2 I2 J2 R2 b1 b2 b3 b4 b5 b6 b7 b8 => ?_)
  refine v_astore_n C dL_law_15 (by decide) ?_
  refine v_iconstN 0 C dL_law_16 ?_
  refine v_istore_n C dL_law_17 (by decide) ?_
  refine v_widen (k := 40 + 0) (n := 100000 + 321 * 0) (by decide) (by decide) ?_
  exact law_loop C hE hs hL L 0 (by omega) (Nat.zero_le _) _ _ S2 I2 J2 R2 (jn_start a1 a3 a4 a5 b1 (fun b hb => (b2 b hb).trans (su_ne _ (by omega))) (fun b k hb => (b3 b k hb).trans (congrFun (mz_ne _ _ (by omega)) k)) (fun b k hb => (b5 b k hb).trans (congrFun (mz_ne _ _ (by omega)) k)) b6 (b7.trans (mz_at _ _ _ _)) (b8.trans (mz_at _ _ _ _)))
theorem kx_start {s : State} {args : Array Value} (hts : ∀ w ∈ lw_tbl, w.before args s = true) : ∃ T : TC, Kx T s := by
  have hg : ∀ w ∈ wG, w.before args s = true := fun w hw => hts w (wg_in hw)
  obtain ⟨c0, i0, k0⟩ := u_known (C := RX0) (T := TX0) (N := 7) (n := 7) hg inX0 (hg _ wt_64)
  obtain ⟨c1, i1, k1⟩ := u_known (C := RX1) (T := TX1) (N := 5) (n := 5) hg inX1 (hg _ wt_42)
  obtain ⟨c2, i2, k2⟩ := u_known (C := RX2) (T := TX2) (N := 9) (n := 9) hg inX2 (hg _ wt_131)
  obtain ⟨c3, i3, k3⟩ := u_known (C := RX3) (T := TX3) (N := 3) (n := 3) hg inX3 (hg _ wt_22)
  obtain ⟨c4, i4, k4⟩ := u_known (C := RX4) (T := TX4) (N := 8) (n := 8) hg inX4 (hg _ wt_12)
  obtain ⟨c5, i5, k5⟩ := u_known (C := RX5) (T := TX5) (N := 21) (n := 21) hg inX5 (hg _ wt_527)
  obtain ⟨aI, kI, pI, fI, gI, hI⟩ := Cond.arrayClass_spec (hg _ wt_40)
  obtain ⟨aJ, kJ, pJ, fJ, gJ, hJ⟩ := Cond.arrayClass_spec (hg _ wt_597)
  obtain ⟨aZ, kZ, pZ, fZ, gZ, hZ⟩ := Cond.arrayClass_spec (hg _ wt_598)
  obtain ⟨pR, aR, kR, f1, f2, f3, f4, f5⟩ := Cond.arrayOver_spec (hts _ wn_20)
  refine ⟨((fun k => if k = 0 then c0 else if k = 1 then c1 else if k = 2 then c2 else if k = 3 then c3 else if k = 4 then c4 else c5, fun k => if k = 0 then i0 else if k = 1 then i1 else if k = 2 then i2 else if k = 3 then i3 else if k = 4 then i4 else i5), aI, aJ, aZ, aR), ⟨fun k q hq => ?_, fun k q hq => ?_⟩, va_AO.of (hts _ wn_20), va_Nw.of rfl (hts _ wn_23), va_Nw.of rfl (hts _ wn_43), va_Nw.of rfl (hts _ wn_65), va_Nw.of rfl (hts _ wn_440), va_Nw.of rfl (hts _ wn_242), va_Nw.of rfl (hts _ wn_521)⟩
  · match k, hq with
    | 0, hq => cases hq; exact k0
    | 1, hq => cases hq; exact k1
    | 2, hq => cases hq; exact k2
    | 3, hq => cases hq; exact k3
    | 4, hq => cases hq; exact k4
    | 5, hq => cases hq; exact k5
    | k + 6, hq => simp [vwCl] at hq
  · match k, hq with
    | 0, hq => cases hq; exact ⟨fun n z => ⟨fun k h => (by cases h), kI, gI, pI, hI⟩, fI⟩
    | 1, hq => cases hq; exact ⟨fun n z => ⟨fun k h => (by cases h), kJ, gJ, pJ, hJ⟩, fJ⟩
    | 2, hq => cases hq; exact ⟨fun n z => ⟨fun k h => (by cases h), kZ, gZ, pZ, hZ⟩, fZ⟩
    | 3, hq => cases hq; exact ⟨fun n z => ⟨fun k h => (by cases h), kR, f3, pR, f4⟩, kR, pR, f3, f4, f1, f5⟩
    | k + 4, hq => simp [tys4] at hq
theorem whole_start {p : Program} {e : Env} {s : State} {m : MethodId} {below : List Frame} {meth : Method} {c : Code} (l : Launch) {b L : Nat} {xs : Nat → Int32} (hL : L ≤ 2560) (C0 : lw_At p s m meth c b L xs) : W p l e room_1 s m #[Value.ref b] below meth c s.heap [] 0 0 (lw_Z below #[Value.ref b] s) (entryFrame m ([Value.ref b] : List Value).toArray 4) := by
  obtain ⟨hx, hb, hr, hml, hown, hts, hX, hbl, hlocks, hgv⟩ := id C0
  obtain ⟨T, hK⟩ := kx_start hts
  have hl := lv_entry ([.ref b]) (n := 4) (Nat.le_of_ble_eq_true rfl)
  rw [lg_entry_eq]
  generalize (lg_sl ([.ref b]) ++ List.replicate (4 - (lg_sl ([.ref b])).length) Slot.unset).toArray = ls at hl ⊢
  have C : Cx (p, l, e, room_1, s, m, #[Value.ref b], below, meth, c, 4, T, s.heap.size, lw_Z below #[Value.ref b] s) "EvenScatterLaw" code room_1 T s.heap.size 4 := ⟨hx, hb, hml, hown, fun w hw => hts w (wg_in hw), hK, Nat.le_refl _, hlocks, rfl, rfl, rfl, rfl⟩
  have hE : LEn (p, l, e, room_1, s, m, #[Value.ref b], below, meth, c, 4, T, s.heap.size, lw_Z below #[Value.ref b] s) b := ⟨rfl, rfl, hr, rfl, rfl⟩
  have hs : Scr (p, l, e, room_1, s, m, #[Value.ref b], below, meth, c, 4, T, s.heap.size, lw_Z below #[Value.ref b] s) b L xs := ⟨hX, hbl⟩
  exact law_main (z := s.heap.size) (S := fun _ => (0, 0)) (I := fun _ _ => 0) (J := fun _ _ => 0) (R := fun _ _ => none) C hE hs hL s.heap [] ls ⟨rfl, Nat.le_refl _, fun a h => absurd rfl h⟩ va_S.rf (lvh_ent hl)
