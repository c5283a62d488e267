def fnd (f : Nat → Bool) : Nat → Nat → Int32
  | 0, _ => -9
  | k + 1, n => if f n = true then nI n else fnd f k (n + 1)
def bxW (D : SD) (W : Nat → Nat → Int32) (n j : Nat) : Bool := !(decide (nI (prt D n j) < W 0 j)) && decide (nI (prt D n j) < W 1 j)
def mkW (D : SD) (W : Nat → Nat → Int32) (n j : Nat) : Bool := decide (nI (prt D n j) = W 2 j)
def cntW (D : SD) (W : Nat → Nat → Int32) (c : Nat) : Nat := sumN (fun n => b2 (allB (bxW D W n) (D 2 0))) c
def mW (W : Nat → Nat → Int32) (j : Nat) : Nat := vN (W 2 j)
def myW (W : Nat → Nat → Int32) (g : Int32) (j : Nat) : Bool := !(decide (W 2 j < 0)) && decide (W 2 j ≤ g)
def shW (W : Nat → Nat → Int32) (k d p : Nat) : Int32 := if k = 3 then -2 else if allB (myW W (nI p)) d = false then -3 else if 16 < sumN (mW W) d then -6 else nI 0
def unW (D : SD) (W : Nat → Nat → Int32) : Int32 := ur (fun b => qc (fun n => bx (prt D n) (mW W) (D 3 0) (D 2 0)) b (D 4 0)) (sumN (mW W) (D 2 0)) (D 4 0) (if sumN (mW W) (D 2 0) ≤ D 3 0 then 2 ^ sumN (mW W) (D 2 0) else 1) 0
def shD (st : St) (k : Nat) : Int32 := shW st.2.2 (st.2.1 k 1 0) (st.2.1 k 2 0) (st.2.1 k 3 0)
def o_count (st : St) (s : Int32) : Int32 × St := onS st.1 s (rfs st (-1) 1) fun k => (nI (cntW (st.2.1 k) st.2.2 (st.2.1 k 4 0)), st)
def o_back (st : St) (s : Int32) : Int32 × St := onS st.1 s (rfs st (-1) 1) fun k => (fnd (fun n => allB (mkW (st.2.1 k) st.2.2 n) (st.2.1 k 2 0)) (st.2.1 k 4 0) 0, st)
def o_even (st : St) (s : Int32) : Int32 × St := onS st.1 s (rfs st (-1) 1) fun k => if shD st k = -2 then rfs st (-2) 2 else if shD st k = -3 then rfs st (-3) 3 else if shD st k = -6 then rfs st (-6) 6 else (if unW (st.2.1 k) st.2.2 = -9 then nI 1 else nI 0, st)
def o_why (st : St) (s : Int32) : Int32 × St := onS st.1 s (-9, st) fun k => if shD st k = nI 0 then (unW (st.2.1 k) st.2.2, st) else (-9, st)
def rowW (D : SD) (j i : Nat) : Nat := D 6 (j * 8 + i)
def o_grade (st : St) (s : Int32) : Int32 × St := onS st.1 s (rfs st (-1) 1) fun k => if st.2.1 k 1 0 < 3 then (nI (gr (rowW (st.2.1 k)) (st.2.1 k 3 0) (fun q => q) (st.2.1 k 2 0)), st) else rfs st (-2) 2
def o_pair (st : St) (s j l : Int32) : Int32 × St := onS st.1 s (rfs st (-1) 1) fun k => onS (st.2.1 k 2 0) j (rfs st (-1) 1) fun j => onS (st.2.1 k 2 0) l (rfs st (-1) 1) fun l => if j = l then rfs st (-1) 1 else if st.2.1 k 1 0 < 3 then (nI (gr (rowW (st.2.1 k)) (st.2.1 k 3 0) (fun q => if q = 0 then j else l) 2), st) else rfs st (-2) 2
theorem shW_or (W : Nat → Nat → Int32) (k d p : Nat) : shW W k d p = -2 ∨ shW W k d p = -3 ∨ shW W k d p = -6 ∨ (shW W k d p = nI 0 ∧ k ≠ 3 ∧ allB (myW W (nI p)) d = true ∧ sumN (mW W) d ≤ 16) := by
  unfold shW
  by_cases e1 : k = 3
  · exact Or.inl (if_pos e1)
  · rw [if_neg e1]
    by_cases e2 : allB (myW W (nI p)) d = false
    · exact Or.inr (Or.inl (if_pos e2))
    · rw [if_neg e2]
      by_cases e3 : 16 < sumN (mW W) d
      · exact Or.inr (Or.inr (Or.inl (if_pos e3)))
      · rw [if_neg e3]
        exact Or.inr (Or.inr (Or.inr ⟨rfl, e1, by simpa using e2, by omega⟩))
theorem my_nI {W : Nat → Nat → Int32} {g j : Nat} (hg : g < 2147483648) (h : myW W (nI g) j = true) : W 2 j = nI (mW W j) ∧ mW W j ≤ g := by
  simp only [myW, Bool.and_eq_true, Bool.not_eq_true', decide_eq_false_iff_not, decide_eq_true_eq] at h
  obtain ⟨k, hk, e⟩ := nI_of2 (M := nI g) (n := g) (nI_toInt hg) h.1 h.2
  unfold mW
  rw [e, vN_nI (by omega)]
  exact ⟨rfl, hk⟩
theorem shF_eq {I : MI} {t k d p : Nat} {W : Nat → Nat → Int32} (hd : d ≤ 6) (h : ∀ j, j < 6 → I (t + 3) j = W 2 j) : shF I t k d p = shW W k d p := by
  unfold shF shW
  have e1 : allB (fMay I t (nI p)) d = allB (myW W (nI p)) d := allB_congr (fun j hj => by unfold fMay myW; rw [h j (by omega)])
  have e2 : sumN (mkN I t) d = sumN (mW W) d := sumN_congr (fun j hj => by unfold mkN mW; rw [h j (by omega)])
  rw [e1, e2]
theorem c_shape_o {x : Nat} {z : Nat} {S : MS} {I : MI} {J : MJ} {R : MR} {Post : PT} (hp : Post (-1) 0 none z S I J R) : s_X4_shapeFault [.ref x, .null] z S I J R Post := Or.inl ⟨x, rfl, hp⟩
theorem c_shape_k {x a : Nat} {D : SD} {W : Nat → Nat → Int32} {z : Nat} {S : MS} {I : MI} {J : MJ} {R : MR} {Post : PT} (hX : XS S R x) (hO : OkD D) (h : ScR D a S I R) (ht : ∀ j, j < 6 → I (x + 2 + 3) j = W 2 j) (hp : Post (shW W (D 1 0) (D 2 0) (D 3 0)) 0 none z S I J R) : s_X4_shapeFault [.ref x, .ref a] z S I J R Post :=
  Or.inr ⟨x, a, D 4 0, D 1 0, D 2 0, D 3 0, rfl, hX, h.1, h.2.1, hO.1, h.2.2.2.2.1, hO.2.2.1, fun q => by rw [h.2.2.1]; unfold pwI; rw [if_neg q], hO.2.2.2.1, by rw [shF_eq hO.2.2.1 ht]; exact hp⟩
def s_X4_count : Sp := fun av z S I J R Post => ∃ (x : Nat), ∃ (st : St), ∃ (s : Int32), av = [.ref x, .int s] ∧ (Rc x st z S I R) ∧ (Ok st) ∧ (Cq x (o_count st s).2 S I J R (fun z' S' I' J' R' => Post (o_count st s).1 0 none z' S' I' J' R'))
theorem c_X4_count {x : Nat} {st : St} {s : Int32} {z : Nat} {S : MS} {I : MI} {J : MJ} {R : MR} {Post : PT} (hR : Rc x st z S I R) (hO : Ok st) (hp : Cq x (o_count st s).2 S I J R (fun z' S' I' J' R' => Post (o_count st s).1 0 none z' S' I' J' R')) : s_X4_count [.ref x, .int s] z S I J R Post := ⟨x, st, s, rfl, hR, hO, hp⟩
set_option maxRecDepth 100000 in
set_option maxHeartbeats 1000000 in
theorem m_X4_count (T : TC) (B : Nat) : Mt T B yX4_count cX4_count 5 (some .int) 1 (rmL 3 0 0) s_X4_count := by
  refine Mt_of rfl (by rintro _ _ _ _ _ _ _ ⟨_, _, _, rfl, -⟩; exact Nat.le_of_ble_eq_true rfl) ?_
  intro X av z S I J R Post h C Q hI
  obtain ⟨x, st, s, rfl, hR, hO, hp⟩ := h
  have hR0 := hR
  obtain ⟨sa, hX, hn, htl, hsc, hord, htr, hrf, hzz⟩ := hR
  have hn12 := hO.1
  have hx := hX.1
  have hT := hX.2.2.2.2.2.2.2.2.1
  have hT1 := hX.2.2.1
  have hT0 := hT.1
  rcases Oo_or s st.1 (by omega) with ho | ⟨k, hk, rfl⟩
  · have e : o_count st s = rfs st (-1) 1 := by unfold o_count; rw [onS_o ho]
    rw [e] at hp
    refine v_aload_n C dX4_count_0 rfl ?_
    refine v_iload_n C dX4_count_1 rfl ?_
    refine v_callV1_3 C (m_X4_find T B) lk_X4_65 ⟨wt_194, ws_3⟩ 4 rfl dX4_count_2 ⟨Nat.le_of_ble_eq_true rfl, Nat.le_of_ble_eq_true rfl⟩ (Nat.le_of_ble_eq_true rfl) ⟨Nat.le_of_ble_eq_true rfl, Nat.le_of_ble_eq_true rfl⟩ (by assumption) (cTo_4 (by assumption)) ?_
    refine c_find_o hX hn hn12 (fun k hk => (hsc k hk).1) ho ?_
    refine v_astore_nN C dX4_count_5 (by decide) ?_
    refine v_aload_nN C dX4_count_6 rfl ?_
    refine v_ifnonnullN C dX4_count_7 ?_
    refine v_aload_n C dX4_count_10 rfl ?_
    refine v_iconst (v := -1) C dX4_count_11 (by decide) ?_
    refine v_callV1_1 C (m_X4_refuse T B) lk_X4_54 ⟨wt_129, ws_1⟩ 4 rfl dX4_count_12 ⟨Nat.le_of_ble_eq_true rfl, Nat.le_of_ble_eq_true rfl⟩ (Nat.le_of_ble_eq_true rfl) ⟨Nat.le_of_ble_eq_true rfl, Nat.le_of_ble_eq_true rfl⟩ (by assumption) (cTo_4 (by assumption)) ?_
    refine c_X4_refuse (k := 1) hX (by decide) (by decide) ?_
    refine v_iret C Q dX4_count_15 (Nat.le_of_ble_eq_true rfl) (Nat.le_of_ble_eq_true rfl) ?_
    have w := Cq_rf (k := 1) hR0 (by decide) hp
    exact w
  · obtain ⟨hrk, hSR, hka, hkz⟩ := hsc k hk
    have hSR0 := hSR
    obtain ⟨hSc, hk0, hk1, hk2, hk3, hk4, hk5, hk6, hk7, hk8⟩ := hSR
    have hOk := hO.2.1 k hk
    obtain ⟨o1, o2, o3, o4, o5, o6, o7, o8, o9, o10, o11, o12⟩ := hOk
    have hs := hSc.1
    have e : o_count st (nI k) = (nI (cntW (st.2.1 k) st.2.2 (st.2.1 k 4 0)), st) := by unfold o_count; rw [onS_k hk (by omega)]
    rw [e] at hp
    have hcl : ∀ n, cntW (st.2.1 k) st.2.2 n ≤ n * 1 := fun n => sumN_le (fun i _ => by have := b2_lt (allB (bxW (st.2.1 k) st.2.2 i) (st.2.1 k 2 0)); omega)
    have loop : ∀ n : Nat, n ≤ st.2.1 k 4 0 → V X 0 0 z S I J R 21 [some (.ref x), none, some (.ref (sa k)), some (.int (nI (cntW (st.2.1 k) st.2.2 n))), some (.int (nI n))] [] := by
      refine lp_up (st.2.1 k 4 0) ?_
      intro n hn2 ih
      have hcn := hcl n
      have eB : n < st.2.1 k 4 0 → allB (fBox I (x + 2) (sa k) (st.2.1 k 4 0) n) (st.2.1 k 2 0) = allB (bxW (st.2.1 k) st.2.2 n) (st.2.1 k 2 0) := fun hlt => allB_congr (fun j hj => by
        unfold fBox bxW
        rw [hk8 n j hlt hj, (htr j (by omega)).1, (htr j (by omega)).2.1])
      refine v_iload C dX4_count_21 rfl ?_
      refine v_aload_n C dX4_count_23 rfl ?_
      first | refine gv_2_2 C (by assumption) (by assumption) wt_150 dX4_count_24 ?_ | refine g_2_2 C (by assumption) wt_150 dX4_count_24 ?_
      first | refine v_icmp_geN C 52 dX4_count_27 (by omega) (by omega) (by decide) (fun h27 => ?_) (fun h27 => ?_) | refine v_icmp_ge C 52 dX4_count_27 (by decide) (fun h27 => ?_) (fun h27 => ?_)
      · refine v_iload_n C dX4_count_52 rfl ?_
        refine v_iret C Q dX4_count_53 (Nat.le_of_ble_eq_true rfl) (Nat.le_of_ble_eq_true rfl) ?_
        obtain rfl : n = st.2.1 k 4 0 := by omega
        have w := Cq_same hR0 hp
        exact w
      · refine v_aload_n C dX4_count_30 rfl ?_
        refine g_4_1 C (by assumption) (by assumption) wt_95 dX4_count_31 ?_
        refine v_aload_n C dX4_count_34 rfl ?_
        refine v_iload C dX4_count_35 rfl ?_
        refine v_callV2_1 C (m_X3_boxHas T B) lk_X4_148 ⟨wt_324, wt_325⟩ 3 rfl dX4_count_37 ⟨Nat.le_of_ble_eq_true rfl, Nat.le_of_ble_eq_true rfl⟩ (Nat.le_of_ble_eq_true rfl) ⟨Nat.le_of_ble_eq_true rfl, Nat.le_of_ble_eq_true rfl⟩ (by assumption) (cTo_3 (by assumption)) ?_
        refine c_X3_boxHas hT hSc hk2 hk3 o3 h27 ?_
        rw [eB h27]
        refine v_if_eq C 46 dX4_count_40 (by decide) (fun h40 => ?_) (fun h40 => ?_)
        · have hb : b2 (allB (bxW (st.2.1 k) st.2.2 n) (st.2.1 k 2 0)) = 0 := by
            cases hq : allB (bxW (st.2.1 k) st.2.2 n) (st.2.1 k 2 0) with
            | false => rfl
            | true => rw [hq] at h40; exact absurd h40 (by decide)
          first | refine v_iincN 1 C dX4_count_46 rfl (by decide) ?_ | refine v_iinc C dX4_count_46 rfl rfl (by decide) ?_
          refine v_goto C 21 dX4_count_49 (by decide) ?_
          have hh := ih h27
          have e2 : cntW (st.2.1 k) st.2.2 (n + 1) = cntW (st.2.1 k) st.2.2 n + b2 (allB (bxW (st.2.1 k) st.2.2 n) (st.2.1 k 2 0)) := rfl
          rw [e2, hb] at hh
          exact v_less hh (by repeat (first | exact trivial | refine And.intro rfl ?_))
        · have hb : b2 (allB (bxW (st.2.1 k) st.2.2 n) (st.2.1 k 2 0)) = 1 := by
            cases hq : allB (bxW (st.2.1 k) st.2.2 n) (st.2.1 k 2 0) with
            | true => rfl
            | false => rw [hq] at h40; exact absurd rfl h40
          first | refine v_iincN 1 C dX4_count_43 rfl (by decide) ?_ | refine v_iinc C dX4_count_43 rfl rfl (by decide) ?_
          first | refine v_iincN 1 C dX4_count_46 rfl (by decide) ?_ | refine v_iinc C dX4_count_46 rfl rfl (by decide) ?_
          refine v_goto C 21 dX4_count_49 (by decide) ?_
          have hh := ih h27
          have e2 : cntW (st.2.1 k) st.2.2 (n + 1) = cntW (st.2.1 k) st.2.2 n + b2 (allB (bxW (st.2.1 k) st.2.2 n) (st.2.1 k 2 0)) := rfl
          rw [e2, hb] at hh
          exact v_less hh (by repeat (first | exact trivial | refine And.intro rfl ?_))
    refine v_aload_n C dX4_count_0 rfl ?_
    refine v_iload_n C dX4_count_1 rfl ?_
    refine v_callV1_3 C (m_X4_find T B) lk_X4_65 ⟨wt_194, ws_3⟩ 4 rfl dX4_count_2 ⟨Nat.le_of_ble_eq_true rfl, Nat.le_of_ble_eq_true rfl⟩ (Nat.le_of_ble_eq_true rfl) ⟨Nat.le_of_ble_eq_true rfl, Nat.le_of_ble_eq_true rfl⟩ (by assumption) (cTo_4 (by assumption)) ?_
    refine c_find_k hX hn hn12 (fun k hk => (hsc k hk).1) hk ?_
    refine v_astore_n C dX4_count_5 (by decide) ?_
    refine v_aload_n C dX4_count_6 rfl ?_
    refine v_ifnonnull C 16 dX4_count_7 (by decide) ?_
    refine v_iconstN 0 C dX4_count_16 ?_
    refine v_istore_n C dX4_count_17 (by decide) ?_
    refine v_iconstN 0 C dX4_count_18 ?_
    refine v_istore C dX4_count_19 (by decide) ?_
    exact v_less (loop 0 (Nat.zero_le _)) (by repeat (first | exact trivial | refine And.intro rfl ?_))
def s_X4_back : Sp := fun av z S I J R Post => ∃ (x : Nat), ∃ (st : St), ∃ (s : Int32), av = [.ref x, .int s] ∧ (Rc x st z S I R) ∧ (Ok st) ∧ (Cq x (o_back st s).2 S I J R (fun z' S' I' J' R' => Post (o_back st s).1 0 none z' S' I' J' R'))
theorem c_X4_back {x : Nat} {st : St} {s : Int32} {z : Nat} {S : MS} {I : MI} {J : MJ} {R : MR} {Post : PT} (hR : Rc x st z S I R) (hO : Ok st) (hp : Cq x (o_back st s).2 S I J R (fun z' S' I' J' R' => Post (o_back st s).1 0 none z' S' I' J' R')) : s_X4_back [.ref x, .int s] z S I J R Post := ⟨x, st, s, rfl, hR, hO, hp⟩
set_option maxRecDepth 100000 in
set_option maxHeartbeats 1000000 in
theorem m_X4_back (T : TC) (B : Nat) : Mt T B yX4_back cX4_back 4 (some .int) 1 (rmL 3 0 0) s_X4_back := by
  refine Mt_of rfl (by rintro _ _ _ _ _ _ _ ⟨_, _, _, rfl, -⟩; exact Nat.le_of_ble_eq_true rfl) ?_
  intro X av z S I J R Post h C Q hI
  obtain ⟨x, st, s, rfl, hR, hO, hp⟩ := h
  have hR0 := hR
  obtain ⟨sa, hX, hn, htl, hsc, hord, htr, hrf, hzz⟩ := hR
  have hn12 := hO.1
  have hx := hX.1
  have hT := hX.2.2.2.2.2.2.2.2.1
  have hT1 := hX.2.2.1
  have hT0 := hT.1
  rcases Oo_or s st.1 (by omega) with ho | ⟨k, hk, rfl⟩
  · have e : o_back st s = rfs st (-1) 1 := by unfold o_back; rw [onS_o ho]
    rw [e] at hp
    refine v_aload_n C dX4_back_0 rfl ?_
    refine v_iload_n C dX4_back_1 rfl ?_
    refine v_callV1_3 C (m_X4_find T B) lk_X4_65 ⟨wt_194, ws_3⟩ 4 rfl dX4_back_2 ⟨Nat.le_of_ble_eq_true rfl, Nat.le_of_ble_eq_true rfl⟩ (Nat.le_of_ble_eq_true rfl) ⟨Nat.le_of_ble_eq_true rfl, Nat.le_of_ble_eq_true rfl⟩ (by assumption) (cTo_4 (by assumption)) ?_
    refine c_find_o hX hn hn12 (fun k hk => (hsc k hk).1) ho ?_
    refine v_astore_nN C dX4_back_5 (by decide) ?_
    refine v_aload_nN C dX4_back_6 rfl ?_
    refine v_ifnonnullN C dX4_back_7 ?_
    refine v_aload_n C dX4_back_10 rfl ?_
    refine v_iconst (v := -1) C dX4_back_11 (by decide) ?_
    refine v_callV1_1 C (m_X4_refuse T B) lk_X4_54 ⟨wt_129, ws_1⟩ 4 rfl dX4_back_12 ⟨Nat.le_of_ble_eq_true rfl, Nat.le_of_ble_eq_true rfl⟩ (Nat.le_of_ble_eq_true rfl) ⟨Nat.le_of_ble_eq_true rfl, Nat.le_of_ble_eq_true rfl⟩ (by assumption) (cTo_4 (by assumption)) ?_
    refine c_X4_refuse (k := 1) hX (by decide) (by decide) ?_
    refine v_iret C Q dX4_back_15 (Nat.le_of_ble_eq_true rfl) (Nat.le_of_ble_eq_true rfl) ?_
    have w := Cq_rf (k := 1) hR0 (by decide) hp
    exact w
  · obtain ⟨hrk, hSR, hka, hkz⟩ := hsc k hk
    have hSR0 := hSR
    obtain ⟨hSc, hk0, hk1, hk2, hk3, hk4, hk5, hk6, hk7, hk8⟩ := hSR
    have hOk := hO.2.1 k hk
    obtain ⟨o1, o2, o3, o4, o5, o6, o7, o8, o9, o10, o11, o12⟩ := hOk
    have hs := hSc.1
    have e : o_back st (nI k) = (fnd (fun n => allB (mkW (st.2.1 k) st.2.2 n) (st.2.1 k 2 0)) (st.2.1 k 4 0) 0, st) := by unfold o_back; rw [onS_k hk (by omega)]
    rw [e] at hp
    have loop : ∀ n : Nat, n ≤ st.2.1 k 4 0 → fnd (fun n => allB (mkW (st.2.1 k) st.2.2 n) (st.2.1 k 2 0)) (st.2.1 k 4 0 - n) n = fnd (fun n => allB (mkW (st.2.1 k) st.2.2 n) (st.2.1 k 2 0)) (st.2.1 k 4 0) 0 → V X 0 0 z S I J R 18 [some (.ref x), none, some (.ref (sa k)), some (.int (nI n))] [] := by
      refine lp_up (st.2.1 k 4 0) ?_
      intro n hn2 ih hf
      have eB : n < st.2.1 k 4 0 → allB (fMar I (x + 2) (sa k) (st.2.1 k 4 0) n) (st.2.1 k 2 0) = allB (mkW (st.2.1 k) st.2.2 n) (st.2.1 k 2 0) := fun hlt => allB_congr (fun j hj => by
        unfold fMar mkW
        rw [hk8 n j hlt hj, (htr j (by omega)).2.2])
      refine v_iload_n C dX4_back_18 rfl ?_
      refine v_aload_n C dX4_back_19 rfl ?_
      first | refine gv_2_2 C (by assumption) (by assumption) wt_150 dX4_back_20 ?_ | refine g_2_2 C (by assumption) wt_150 dX4_back_20 ?_
      first | refine v_icmp_geN C 46 dX4_back_23 (by omega) (by omega) (by decide) (fun h23 => ?_) (fun h23 => ?_) | refine v_icmp_ge C 46 dX4_back_23 (by decide) (fun h23 => ?_) (fun h23 => ?_)
      · refine v_bipush (v := -9) C dX4_back_46 (by decide) ?_
        refine v_iret C Q dX4_back_48 (Nat.le_of_ble_eq_true rfl) (Nat.le_of_ble_eq_true rfl) ?_
        rw [show st.2.1 k 4 0 - n = 0 by omega] at hf
        simp only [fnd] at hf
        rw [← hf] at hp
        have w := Cq_same hR0 hp
        exact w
      · rw [show st.2.1 k 4 0 - n = (st.2.1 k 4 0 - (n + 1)) + 1 by omega] at hf
        simp only [fnd] at hf
        refine v_aload_n C dX4_back_26 rfl ?_
        refine g_4_1 C (by assumption) (by assumption) wt_95 dX4_back_27 ?_
        refine v_aload_n C dX4_back_30 rfl ?_
        refine v_iload_n C dX4_back_31 rfl ?_
        refine v_callV2_1 C (m_X3_marksAreParts T B) lk_X4_152 ⟨wt_333, wt_334⟩ 3 rfl dX4_back_32 ⟨Nat.le_of_ble_eq_true rfl, Nat.le_of_ble_eq_true rfl⟩ (Nat.le_of_ble_eq_true rfl) ⟨Nat.le_of_ble_eq_true rfl, Nat.le_of_ble_eq_true rfl⟩ (by assumption) (cTo_3 (by assumption)) ?_
        refine c_X3_marksAreParts hT hSc hk2 hk3 o3 h23 ?_
        rw [eB h23]
        refine v_if_eq C 40 dX4_back_35 (by decide) (fun h35 => ?_) (fun h35 => ?_)
        · have hb : allB (mkW (st.2.1 k) st.2.2 n) (st.2.1 k 2 0) = false := by
            cases hq : allB (mkW (st.2.1 k) st.2.2 n) (st.2.1 k 2 0) with
            | false => rfl
            | true => rw [hq] at h35; exact absurd h35 (by decide)
          rw [if_neg (by rw [hb]; decide)] at hf
          first | refine v_iincN 1 C dX4_back_40 rfl (by decide) ?_ | refine v_iinc C dX4_back_40 rfl rfl (by decide) ?_
          refine v_goto C 18 dX4_back_43 (by decide) ?_
          exact v_less (ih h23 hf) (by repeat (first | exact trivial | refine And.intro rfl ?_))
        · have hb : allB (mkW (st.2.1 k) st.2.2 n) (st.2.1 k 2 0) = true := by
            cases hq : allB (mkW (st.2.1 k) st.2.2 n) (st.2.1 k 2 0) with
            | true => rfl
            | false => rw [hq] at h35; exact absurd rfl h35
          rw [if_pos hb] at hf
          refine v_iload_n C dX4_back_38 rfl ?_
          refine v_iret C Q dX4_back_39 (Nat.le_of_ble_eq_true rfl) (Nat.le_of_ble_eq_true rfl) ?_
          rw [← hf] at hp
          have w := Cq_same hR0 hp
          exact w
    refine v_aload_n C dX4_back_0 rfl ?_
    refine v_iload_n C dX4_back_1 rfl ?_
    refine v_callV1_3 C (m_X4_find T B) lk_X4_65 ⟨wt_194, ws_3⟩ 4 rfl dX4_back_2 ⟨Nat.le_of_ble_eq_true rfl, Nat.le_of_ble_eq_true rfl⟩ (Nat.le_of_ble_eq_true rfl) ⟨Nat.le_of_ble_eq_true rfl, Nat.le_of_ble_eq_true rfl⟩ (by assumption) (cTo_4 (by assumption)) ?_
    refine c_find_k hX hn hn12 (fun k hk => (hsc k hk).1) hk ?_
    refine v_astore_n C dX4_back_5 (by decide) ?_
    refine v_aload_n C dX4_back_6 rfl ?_
    refine v_ifnonnull C 16 dX4_back_7 (by decide) ?_
    refine v_iconstN 0 C dX4_back_16 ?_
    refine v_istore_n C dX4_back_17 (by decide) ?_
    exact v_less (loop 0 (Nat.zero_le _) rfl) (by repeat (first | exact trivial | refine And.intro rfl ?_))
def s_X4_even : Sp := fun av z S I J R Post => ∃ (x : Nat), ∃ (st : St), ∃ (s : Int32), av = [.ref x, .int s] ∧ (Rc x st z S I R) ∧ (Ok st) ∧ (Cq x (o_even st s).2 S I J R (fun z' S' I' J' R' => Post (o_even st s).1 0 none z' S' I' J' R'))
theorem c_X4_even {x : Nat} {st : St} {s : Int32} {z : Nat} {S : MS} {I : MI} {J : MJ} {R : MR} {Post : PT} (hR : Rc x st z S I R) (hO : Ok st) (hp : Cq x (o_even st s).2 S I J R (fun z' S' I' J' R' => Post (o_even st s).1 0 none z' S' I' J' R')) : s_X4_even [.ref x, .int s] z S I J R Post := ⟨x, st, s, rfl, hR, hO, hp⟩
set_option maxRecDepth 100000 in
set_option maxHeartbeats 1000000 in
theorem m_X4_even (T : TC) (B : Nat) : Mt T B yX4_even cX4_even 4 (some .int) 1 (rmL 4 0 0) s_X4_even := by
  refine Mt_of rfl (by rintro _ _ _ _ _ _ _ ⟨_, _, _, rfl, -⟩; exact Nat.le_of_ble_eq_true rfl) ?_
  intro X av z S I J R Post h C Q hI
  obtain ⟨x, st, s, rfl, hR, hO, hp⟩ := h
  have hR0 := hR
  obtain ⟨sa, hX, hn, htl, hsc, hord, htr, hrf, hzz⟩ := hR
  have hn12 := hO.1
  have hx := hX.1
  have hT := hX.2.2.2.2.2.2.2.2.1
  rcases Oo_or s st.1 (by omega) with ho | ⟨k, hk, rfl⟩
  · have e : o_even st s = rfs st (-1) 1 := by unfold o_even; rw [onS_o ho]
    rw [e] at hp
    refine v_aload_n C dX4_even_0 rfl ?_
    refine v_iload_n C dX4_even_1 rfl ?_
    refine v_callV1_3 C (m_X4_find T B) lk_X4_65 ⟨wt_194, ws_3⟩ 4 rfl dX4_even_2 ⟨Nat.le_of_ble_eq_true rfl, Nat.le_of_ble_eq_true rfl⟩ (Nat.le_of_ble_eq_true rfl) ⟨Nat.le_of_ble_eq_true rfl, Nat.le_of_ble_eq_true rfl⟩ (by assumption) (cTo_4 (by assumption)) ?_
    refine c_find_o hX hn hn12 (fun k hk => (hsc k hk).1) ho ?_
    refine v_astore_nN C dX4_even_5 (by decide) ?_
    refine v_aload_n C dX4_even_6 rfl ?_
    refine v_aload_nN C dX4_even_7 rfl ?_
    refine v_callV1_1 C (m_X4_shapeFault T B) lk_X4_155 ⟨wt_342, ws_5⟩ 4 rfl dX4_even_8 ⟨Nat.le_of_ble_eq_true rfl, Nat.le_of_ble_eq_true rfl⟩ (Nat.le_of_ble_eq_true rfl) ⟨Nat.le_of_ble_eq_true rfl, Nat.le_of_ble_eq_true rfl⟩ (by assumption) (cTo_4 (by assumption)) ?_
    refine c_shape_o ?_
    refine v_istore_n C dX4_even_11 (by decide) ?_
    refine v_aload_nN C dX4_even_12 rfl ?_
    refine v_ifnullN C 20 dX4_even_13 (by decide) ?_
    refine v_aload_n C dX4_even_20 rfl ?_
    refine v_iload_n C dX4_even_21 rfl ?_
    refine v_callV1_1 C (m_X4_refuse T B) lk_X4_54 ⟨wt_129, ws_1⟩ 4 rfl dX4_even_22 ⟨Nat.le_of_ble_eq_true rfl, Nat.le_of_ble_eq_true rfl⟩ (Nat.le_of_ble_eq_true rfl) ⟨Nat.le_of_ble_eq_true rfl, Nat.le_of_ble_eq_true rfl⟩ (by assumption) (cTo_4 (by assumption)) ?_
    refine c_X4_refuse (k := 1) hX (by decide) (by decide) ?_
    refine v_iret C Q dX4_even_25 (Nat.le_of_ble_eq_true rfl) (Nat.le_of_ble_eq_true rfl) ?_
    have w := Cq_rf (k := 1) hR0 (by decide) hp
    exact w
  · obtain ⟨hrk, hSR, hka, hkz⟩ := hsc k hk
    have hSR0 := hSR
    obtain ⟨hSc, hk0, hk1, hk2, hk3, hk4, hk5, hk6, hk7, hk8⟩ := hSR
    have hOk := hO.2.1 k hk
    obtain ⟨o1, o2, o3, o4, o5, o6, o7, o8, o9, o10, o11, o12⟩ := hOk
    have hs := hSc.1
    have htm : ∀ j, j < 6 → I (x + 2 + 3) j = st.2.2 2 j := fun j hj => (htr j hj).2.2
    unfold o_even at hp
    rw [onS_k hk (by omega)] at hp
    rcases shW_or st.2.2 (st.2.1 k 1 0) (st.2.1 k 2 0) (st.2.1 k 3 0) with hz | hz | hz | ⟨hz, hk3', hA, hsum⟩
    · rw [show shD st k = -2 from hz, if_pos rfl] at hp
      refine v_aload_n C dX4_even_0 rfl ?_
      refine v_iload_n C dX4_even_1 rfl ?_
      refine v_callV1_3 C (m_X4_find T B) lk_X4_65 ⟨wt_194, ws_3⟩ 4 rfl dX4_even_2 ⟨Nat.le_of_ble_eq_true rfl, Nat.le_of_ble_eq_true rfl⟩ (Nat.le_of_ble_eq_true rfl) ⟨Nat.le_of_ble_eq_true rfl, Nat.le_of_ble_eq_true rfl⟩ (by assumption) (cTo_4 (by assumption)) ?_
      refine c_find_k hX hn hn12 (fun k hk => (hsc k hk).1) hk ?_
      refine v_astore_n C dX4_even_5 (by decide) ?_
      refine v_aload_n C dX4_even_6 rfl ?_
      refine v_aload_n C dX4_even_7 rfl ?_
      refine v_callV1_1 C (m_X4_shapeFault T B) lk_X4_155 ⟨wt_342, ws_5⟩ 4 rfl dX4_even_8 ⟨Nat.le_of_ble_eq_true rfl, Nat.le_of_ble_eq_true rfl⟩ (Nat.le_of_ble_eq_true rfl) ⟨Nat.le_of_ble_eq_true rfl, Nat.le_of_ble_eq_true rfl⟩ (by assumption) (cTo_4 (by assumption)) ?_
      refine c_shape_k hX (hO.2.1 k hk) hSR0 htm ?_
      rw [hz]
      refine v_istore_n C dX4_even_11 (by decide) ?_
      refine v_aload_n C dX4_even_12 rfl ?_
      refine v_ifnull C dX4_even_13 ?_
      refine v_iload_n C dX4_even_16 rfl ?_
      refine v_if_eq C 26 dX4_even_17 (by decide) (fun h17 => ?_) (fun h17 => ?_)
      · exact absurd h17 (by decide)
      · refine v_aload_n C dX4_even_20 rfl ?_
        refine v_iload_n C dX4_even_21 rfl ?_
        refine v_callV1_1 C (m_X4_refuse T B) lk_X4_54 ⟨wt_129, ws_1⟩ 4 rfl dX4_even_22 ⟨Nat.le_of_ble_eq_true rfl, Nat.le_of_ble_eq_true rfl⟩ (Nat.le_of_ble_eq_true rfl) ⟨Nat.le_of_ble_eq_true rfl, Nat.le_of_ble_eq_true rfl⟩ (by assumption) (cTo_4 (by assumption)) ?_
        refine c_X4_refuse (k := 2) hX (by decide) (by decide) ?_
        refine v_iret C Q dX4_even_25 (Nat.le_of_ble_eq_true rfl) (Nat.le_of_ble_eq_true rfl) ?_
        have w := Cq_rf (k := 2) hR0 (by decide) hp
        exact w
    · rw [show shD st k = -3 from hz, if_neg (by decide), if_pos rfl] at hp
      refine v_aload_n C dX4_even_0 rfl ?_
      refine v_iload_n C dX4_even_1 rfl ?_
      refine v_callV1_3 C (m_X4_find T B) lk_X4_65 ⟨wt_194, ws_3⟩ 4 rfl dX4_even_2 ⟨Nat.le_of_ble_eq_true rfl, Nat.le_of_ble_eq_true rfl⟩ (Nat.le_of_ble_eq_true rfl) ⟨Nat.le_of_ble_eq_true rfl, Nat.le_of_ble_eq_true rfl⟩ (by assumption) (cTo_4 (by assumption)) ?_
      refine c_find_k hX hn hn12 (fun k hk => (hsc k hk).1) hk ?_
      refine v_astore_n C dX4_even_5 (by decide) ?_
      refine v_aload_n C dX4_even_6 rfl ?_
      refine v_aload_n C dX4_even_7 rfl ?_
      refine v_callV1_1 C (m_X4_shapeFault T B) lk_X4_155 ⟨wt_342, ws_5⟩ 4 rfl dX4_even_8 ⟨Nat.le_of_ble_eq_true rfl, Nat.le_of_ble_eq_true rfl⟩ (Nat.le_of_ble_eq_true rfl) ⟨Nat.le_of_ble_eq_true rfl, Nat.le_of_ble_eq_true rfl⟩ (by assumption) (cTo_4 (by assumption)) ?_
      refine c_shape_k hX (hO.2.1 k hk) hSR0 htm ?_
      rw [hz]
      refine v_istore_n C dX4_even_11 (by decide) ?_
      refine v_aload_n C dX4_even_12 rfl ?_
      refine v_ifnull C dX4_even_13 ?_
      refine v_iload_n C dX4_even_16 rfl ?_
      refine v_if_eq C 26 dX4_even_17 (by decide) (fun h17 => ?_) (fun h17 => ?_)
      · exact absurd h17 (by decide)
      · refine v_aload_n C dX4_even_20 rfl ?_
        refine v_iload_n C dX4_even_21 rfl ?_
        refine v_callV1_1 C (m_X4_refuse T B) lk_X4_54 ⟨wt_129, ws_1⟩ 4 rfl dX4_even_22 ⟨Nat.le_of_ble_eq_true rfl, Nat.le_of_ble_eq_true rfl⟩ (Nat.le_of_ble_eq_true rfl) ⟨Nat.le_of_ble_eq_true rfl, Nat.le_of_ble_eq_true rfl⟩ (by assumption) (cTo_4 (by assumption)) ?_
        refine c_X4_refuse (k := 3) hX (by decide) (by decide) ?_
        refine v_iret C Q dX4_even_25 (Nat.le_of_ble_eq_true rfl) (Nat.le_of_ble_eq_true rfl) ?_
        have w := Cq_rf (k := 3) hR0 (by decide) hp
        exact w
    · rw [show shD st k = -6 from hz, if_neg (by decide), if_neg (by decide), if_pos rfl] at hp
      refine v_aload_n C dX4_even_0 rfl ?_
      refine v_iload_n C dX4_even_1 rfl ?_
      refine v_callV1_3 C (m_X4_find T B) lk_X4_65 ⟨wt_194, ws_3⟩ 4 rfl dX4_even_2 ⟨Nat.le_of_ble_eq_true rfl, Nat.le_of_ble_eq_true rfl⟩ (Nat.le_of_ble_eq_true rfl) ⟨Nat.le_of_ble_eq_true rfl, Nat.le_of_ble_eq_true rfl⟩ (by assumption) (cTo_4 (by assumption)) ?_
      refine c_find_k hX hn hn12 (fun k hk => (hsc k hk).1) hk ?_
      refine v_astore_n C dX4_even_5 (by decide) ?_
      refine v_aload_n C dX4_even_6 rfl ?_
      refine v_aload_n C dX4_even_7 rfl ?_
      refine v_callV1_1 C (m_X4_shapeFault T B) lk_X4_155 ⟨wt_342, ws_5⟩ 4 rfl dX4_even_8 ⟨Nat.le_of_ble_eq_true rfl, Nat.le_of_ble_eq_true rfl⟩ (Nat.le_of_ble_eq_true rfl) ⟨Nat.le_of_ble_eq_true rfl, Nat.le_of_ble_eq_true rfl⟩ (by assumption) (cTo_4 (by assumption)) ?_
      refine c_shape_k hX (hO.2.1 k hk) hSR0 htm ?_
      rw [hz]
      refine v_istore_n C dX4_even_11 (by decide) ?_
      refine v_aload_n C dX4_even_12 rfl ?_
      refine v_ifnull C dX4_even_13 ?_
      refine v_iload_n C dX4_even_16 rfl ?_
      refine v_if_eq C 26 dX4_even_17 (by decide) (fun h17 => ?_) (fun h17 => ?_)
      · exact absurd h17 (by decide)
      · refine v_aload_n C dX4_even_20 rfl ?_
        refine v_iload_n C dX4_even_21 rfl ?_
        refine v_callV1_1 C (m_X4_refuse T B) lk_X4_54 ⟨wt_129, ws_1⟩ 4 rfl dX4_even_22 ⟨Nat.le_of_ble_eq_true rfl, Nat.le_of_ble_eq_true rfl⟩ (Nat.le_of_ble_eq_true rfl) ⟨Nat.le_of_ble_eq_true rfl, Nat.le_of_ble_eq_true rfl⟩ (by assumption) (cTo_4 (by assumption)) ?_
        refine c_X4_refuse (k := 6) hX (by decide) (by decide) ?_
        refine v_iret C Q dX4_even_25 (Nat.le_of_ble_eq_true rfl) (Nat.le_of_ble_eq_true rfl) ?_
        have w := Cq_rf (k := 6) hR0 (by decide) hp
        exact w
    · rw [show shD st k = nI 0 from hz, if_neg (by decide), if_neg (by decide), if_neg (by decide)] at hp
      have hpw : I (sa k) 1 = nI (st.2.1 k 3 0) := by rw [hk1]; unfold pwI; rw [if_neg (by omega)]
      refine v_aload_n C dX4_even_0 rfl ?_
      refine v_iload_n C dX4_even_1 rfl ?_
      refine v_callV1_3 C (m_X4_find T B) lk_X4_65 ⟨wt_194, ws_3⟩ 4 rfl dX4_even_2 ⟨Nat.le_of_ble_eq_true rfl, Nat.le_of_ble_eq_true rfl⟩ (Nat.le_of_ble_eq_true rfl) ⟨Nat.le_of_ble_eq_true rfl, Nat.le_of_ble_eq_true rfl⟩ (by assumption) (cTo_4 (by assumption)) ?_
      refine c_find_k hX hn hn12 (fun k hk => (hsc k hk).1) hk ?_
      refine v_astore_n C dX4_even_5 (by decide) ?_
      refine v_aload_n C dX4_even_6 rfl ?_
      refine v_aload_n C dX4_even_7 rfl ?_
      refine v_callV1_1 C (m_X4_shapeFault T B) lk_X4_155 ⟨wt_342, ws_5⟩ 4 rfl dX4_even_8 ⟨Nat.le_of_ble_eq_true rfl, Nat.le_of_ble_eq_true rfl⟩ (Nat.le_of_ble_eq_true rfl) ⟨Nat.le_of_ble_eq_true rfl, Nat.le_of_ble_eq_true rfl⟩ (by assumption) (cTo_4 (by assumption)) ?_
      refine c_shape_k hX (hO.2.1 k hk) hSR0 htm ?_
      rw [hz]
      refine v_istore_n C dX4_even_11 (by decide) ?_
      refine v_aload_n C dX4_even_12 rfl ?_
      refine v_ifnull C dX4_even_13 ?_
      refine v_iload_n C dX4_even_16 rfl ?_
      first | refine v_if_eqN C 26 dX4_even_17 (by omega) (by decide) (fun h17 => ?_) (fun h17 => ?_) | refine v_if_eq C 26 dX4_even_17 (by decide) (fun h17 => ?_) (fun h17 => ?_)
      · refine v_aload_n C dX4_even_26 rfl ?_
        refine v_aload_n C dX4_even_27 rfl ?_
        refine v_callV1_1 C (m_X4_firstUneven T B) lk_X4_158 ⟨wt_354, ws_6⟩ 4 rfl dX4_even_28 ⟨Nat.le_of_ble_eq_true rfl, Nat.le_of_ble_eq_true rfl⟩ (Nat.le_of_ble_eq_true rfl) ⟨Nat.le_of_ble_eq_true rfl, Nat.le_of_ble_eq_true rfl⟩ (by assumption) (cTo_4 (by assumption)) ?_
        refine c_X4_firstUneven (P := prt (st.2.1 k)) (m := mW st.2.2) hX hSc (by omega) hk2 hk3 o3 hpw o4 (fun n j h1 h2 => ⟨hk8 n j h1 h2, by rw [← o7 hk3']; exact prt_lt (hO.2.1 k hk) n j⟩) (fun j hj => ⟨(htm j (by omega)).trans (my_nI (by omega) (allB_iff.mp hA j hj)).1, (my_nI (by omega) (allB_iff.mp hA j hj)).2⟩) hsum (fun I2 hF2 => ?_)
        refine v_bipush (v := -9) C dX4_even_31 (by decide) ?_
        refine v_icmp_ne C 40 dX4_even_33 (by decide) (fun h33 => ?_) (fun h33 => ?_)
        · rw [if_neg (show ¬ unW (st.2.1 k) st.2.2 = -9 from h33)] at hp
          refine v_iconstN 0 C dX4_even_40 ?_
          refine v_iret C Q dX4_even_41 (Nat.le_of_ble_eq_true rfl) (Nat.le_of_ble_eq_true rfl) ?_
          have w := Cq_scr hR0 (hF2.wide (by omega) (by omega)) (fun _ _ _ => rfl) hp
          exact w
        · rw [if_pos (show unW (st.2.1 k) st.2.2 = -9 from h33)] at hp
          refine v_iconstN 1 C dX4_even_36 ?_
          refine v_goto C 41 dX4_even_37 (by decide) ?_
          refine v_iret C Q dX4_even_41 (Nat.le_of_ble_eq_true rfl) (Nat.le_of_ble_eq_true rfl) ?_
          have w := Cq_scr hR0 (hF2.wide (by omega) (by omega)) (fun _ _ _ => rfl) hp
          exact w
      · exact absurd rfl h17
def s_X4_why : Sp := fun av z S I J R Post => ∃ (x : Nat), ∃ (st : St), ∃ (s : Int32), av = [.ref x, .int s] ∧ (Rc x st z S I R) ∧ (Ok st) ∧ (Cq x (o_why st s).2 S I J R (fun z' S' I' J' R' => Post (o_why st s).1 0 none z' S' I' J' R'))
theorem c_X4_why {x : Nat} {st : St} {s : Int32} {z : Nat} {S : MS} {I : MI} {J : MJ} {R : MR} {Post : PT} (hR : Rc x st z S I R) (hO : Ok st) (hp : Cq x (o_why st s).2 S I J R (fun z' S' I' J' R' => Post (o_why st s).1 0 none z' S' I' J' R')) : s_X4_why [.ref x, .int s] z S I J R Post := ⟨x, st, s, rfl, hR, hO, hp⟩
set_option maxRecDepth 100000 in
set_option maxHeartbeats 1000000 in
theorem m_X4_why (T : TC) (B : Nat) : Mt T B yX4_why cX4_why 3 (some .int) 1 (rmL 4 0 0) s_X4_why := by
  refine Mt_of rfl (by rintro _ _ _ _ _ _ _ ⟨_, _, _, rfl, -⟩; exact Nat.le_of_ble_eq_true rfl) ?_
  intro X av z S I J R Post h C Q hI
  obtain ⟨x, st, s, rfl, hR, hO, hp⟩ := h
  have hR0 := hR
  obtain ⟨sa, hX, hn, htl, hsc, hord, htr, hrf, hzz⟩ := hR
  have hn12 := hO.1
  have hx := hX.1
  have hT := hX.2.2.2.2.2.2.2.2.1
  rcases Oo_or s st.1 (by omega) with ho | ⟨k, hk, rfl⟩
  · have e : o_why st s = (-9, st) := by unfold o_why; rw [onS_o ho]
    rw [e] at hp
    refine v_aload_n C dX4_why_0 rfl ?_
    refine v_iload_n C dX4_why_1 rfl ?_
    refine v_callV1_3 C (m_X4_find T B) lk_X4_65 ⟨wt_194, ws_3⟩ 4 rfl dX4_why_2 ⟨Nat.le_of_ble_eq_true rfl, Nat.le_of_ble_eq_true rfl⟩ (Nat.le_of_ble_eq_true rfl) ⟨Nat.le_of_ble_eq_true rfl, Nat.le_of_ble_eq_true rfl⟩ (by assumption) (cTo_4 (by assumption)) ?_
    refine c_find_o hX hn hn12 (fun k hk => (hsc k hk).1) ho ?_
    refine v_astore_nN C dX4_why_5 (by decide) ?_
    refine v_aload_nN C dX4_why_6 rfl ?_
    refine v_ifnullN C 18 dX4_why_7 (by decide) ?_
    refine v_bipush (v := -9) C dX4_why_18 (by decide) ?_
    refine v_iret C Q dX4_why_20 (Nat.le_of_ble_eq_true rfl) (Nat.le_of_ble_eq_true rfl) ?_
    have w := Cq_same hR0 hp
    exact w
  · obtain ⟨hrk, hSR, hka, hkz⟩ := hsc k hk
    have hSR0 := hSR
    obtain ⟨hSc, hk0, hk1, hk2, hk3, hk4, hk5, hk6, hk7, hk8⟩ := hSR
    have hOk := hO.2.1 k hk
    obtain ⟨o1, o2, o3, o4, o5, o6, o7, o8, o9, o10, o11, o12⟩ := hOk
    have hs := hSc.1
    have htm : ∀ j, j < 6 → I (x + 2 + 3) j = st.2.2 2 j := fun j hj => (htr j hj).2.2
    unfold o_why at hp
    rw [onS_k hk (by omega)] at hp
    have bad : ∀ v : Int32, ¬ v = 0 → shW st.2.2 (st.2.1 k 1 0) (st.2.1 k 2 0) (st.2.1 k 3 0) = v → V X 0 0 z S I J R 0 [some (.ref x), some (.int (nI k)), none] [] := by
      intro v hv0 hz
      rw [show shD st k = v from hz, if_neg (show ¬ v = nI 0 from hv0)] at hp
      refine v_aload_n C dX4_why_0 rfl ?_
      refine v_iload_n C dX4_why_1 rfl ?_
      refine v_callV1_3 C (m_X4_find T B) lk_X4_65 ⟨wt_194, ws_3⟩ 4 rfl dX4_why_2 ⟨Nat.le_of_ble_eq_true rfl, Nat.le_of_ble_eq_true rfl⟩ (Nat.le_of_ble_eq_true rfl) ⟨Nat.le_of_ble_eq_true rfl, Nat.le_of_ble_eq_true rfl⟩ (by assumption) (cTo_4 (by assumption)) ?_
      refine c_find_k hX hn hn12 (fun k hk => (hsc k hk).1) hk ?_
      refine v_astore_n C dX4_why_5 (by decide) ?_
      refine v_aload_n C dX4_why_6 rfl ?_
      refine v_ifnull C dX4_why_7 ?_
      refine v_aload_n C dX4_why_10 rfl ?_
      refine v_aload_n C dX4_why_11 rfl ?_
      refine v_callV1_1 C (m_X4_shapeFault T B) lk_X4_155 ⟨wt_342, ws_5⟩ 4 rfl dX4_why_12 ⟨Nat.le_of_ble_eq_true rfl, Nat.le_of_ble_eq_true rfl⟩ (Nat.le_of_ble_eq_true rfl) ⟨Nat.le_of_ble_eq_true rfl, Nat.le_of_ble_eq_true rfl⟩ (by assumption) (cTo_4 (by assumption)) ?_
      refine c_shape_k hX (hO.2.1 k hk) hSR0 htm ?_
      rw [hz]
      refine v_if_eq C 21 dX4_why_15 (by decide) (fun h15 => ?_) (fun h15 => ?_)
      · exact absurd h15 hv0
      · refine v_bipush (v := -9) C dX4_why_18 (by decide) ?_
        refine v_iret C Q dX4_why_20 (Nat.le_of_ble_eq_true rfl) (Nat.le_of_ble_eq_true rfl) ?_
        have w := Cq_same hR0 hp
        exact w
    rcases shW_or st.2.2 (st.2.1 k 1 0) (st.2.1 k 2 0) (st.2.1 k 3 0) with hz | hz | hz | ⟨hz, hk3', hA, hsum⟩
    · exact bad _ (by decide) hz
    · exact bad _ (by decide) hz
    · exact bad _ (by decide) hz
    · rw [show shD st k = nI 0 from hz, if_pos rfl] at hp
      have hpw : I (sa k) 1 = nI (st.2.1 k 3 0) := by rw [hk1]; unfold pwI; rw [if_neg (by omega)]
      refine v_aload_n C dX4_why_0 rfl ?_
      refine v_iload_n C dX4_why_1 rfl ?_
      refine v_callV1_3 C (m_X4_find T B) lk_X4_65 ⟨wt_194, ws_3⟩ 4 rfl dX4_why_2 ⟨Nat.le_of_ble_eq_true rfl, Nat.le_of_ble_eq_true rfl⟩ (Nat.le_of_ble_eq_true rfl) ⟨Nat.le_of_ble_eq_true rfl, Nat.le_of_ble_eq_true rfl⟩ (by assumption) (cTo_4 (by assumption)) ?_
      refine c_find_k hX hn hn12 (fun k hk => (hsc k hk).1) hk ?_
      refine v_astore_n C dX4_why_5 (by decide) ?_
      refine v_aload_n C dX4_why_6 rfl ?_
      refine v_ifnull C dX4_why_7 ?_
      refine v_aload_n C dX4_why_10 rfl ?_
      refine v_aload_n C dX4_why_11 rfl ?_
      refine v_callV1_1 C (m_X4_shapeFault T B) lk_X4_155 ⟨wt_342, ws_5⟩ 4 rfl dX4_why_12 ⟨Nat.le_of_ble_eq_true rfl, Nat.le_of_ble_eq_true rfl⟩ (Nat.le_of_ble_eq_true rfl) ⟨Nat.le_of_ble_eq_true rfl, Nat.le_of_ble_eq_true rfl⟩ (by assumption) (cTo_4 (by assumption)) ?_
      refine c_shape_k hX (hO.2.1 k hk) hSR0 htm ?_
      rw [hz]
      first | refine v_if_eqN C 21 dX4_why_15 (by omega) (by decide) (fun h15 => ?_) (fun h15 => ?_) | refine v_if_eq C 21 dX4_why_15 (by decide) (fun h15 => ?_) (fun h15 => ?_)
      · refine v_aload_n C dX4_why_21 rfl ?_
        refine v_aload_n C dX4_why_22 rfl ?_
        refine v_callV1_1 C (m_X4_firstUneven T B) lk_X4_158 ⟨wt_354, ws_6⟩ 4 rfl dX4_why_23 ⟨Nat.le_of_ble_eq_true rfl, Nat.le_of_ble_eq_true rfl⟩ (Nat.le_of_ble_eq_true rfl) ⟨Nat.le_of_ble_eq_true rfl, Nat.le_of_ble_eq_true rfl⟩ (by assumption) (cTo_4 (by assumption)) ?_
        refine c_X4_firstUneven (P := prt (st.2.1 k)) (m := mW st.2.2) hX hSc (by omega) hk2 hk3 o3 hpw o4 (fun n j h1 h2 => ⟨hk8 n j h1 h2, by rw [← o7 hk3']; exact prt_lt (hO.2.1 k hk) n j⟩) (fun j hj => ⟨(htm j (by omega)).trans (my_nI (by omega) (allB_iff.mp hA j hj)).1, (my_nI (by omega) (allB_iff.mp hA j hj)).2⟩) hsum (fun I2 hF2 => ?_)
        refine v_iret C Q dX4_why_26 (Nat.le_of_ble_eq_true rfl) (Nat.le_of_ble_eq_true rfl) ?_
        have w := Cq_scr hR0 (hF2.wide (by omega) (by omega)) (fun _ _ _ => rfl) hp
        exact w
      · exact absurd rfl h15
