def TrS (S : MS) (R : MR) (t : Nat) : Prop := S t = (4, 0) ∧ R t 0 = some (t + 1) ∧ R t 1 = some (t + 2) ∧ R t 2 = some (t + 3) ∧ S (t + 1) = (7, 6) ∧ S (t + 2) = (7, 6) ∧ S (t + 3) = (7, 6)
def allB (f : Nat → Bool) : Nat → Bool
  | 0 => true
  | d + 1 => allB f d && f d
theorem allB_false {f : Nat → Bool} {j d : Nat} (hj : j < d) (h : f j = false) : allB f d = false := by
  induction d with
  | zero => omega
  | succ d ih =>
    by_cases e : j = d
    · subst e; simp [allB, h]
    · simp [allB, ih (by omega)]
theorem allB_iff {f : Nat → Bool} {d : Nat} : allB f d = true ↔ ∀ j, j < d → f j = true := by
  constructor
  · intro h j hj
    cases hf : f j with
    | true => rfl
    | false => rw [allB_false hj hf] at h; cases h
  · intro h
    induction d with
    | zero => rfl
    | succ d ih => simp [allB, ih (fun j hj => h j (by omega)), h d (by omega)]
theorem allB_congr {f g : Nat → Bool} {d : Nat} (h : ∀ j, j < d → f j = g j) : allB f d = allB g d := by
  induction d with
  | zero => rfl
  | succ d ih => simp [allB, ih (fun j hj => h j (by omega)), h d (by omega)]
def b2 (b : Bool) : Nat := if b = true then 1 else 0
theorem b2_lt (b : Bool) : b2 b < 2 := by cases b <;> decide
theorem nz_b2 (b : Bool) : narrow .boolean (.int (nI (b2 b))) = .int (nI (b2 b)) := by cases b with
  | false => exact nz_0
  | true => exact nz_1
def sumN (f : Nat → Nat) : Nat → Nat
  | 0 => 0
  | n + 1 => sumN f n + f n
theorem sumN_congr {f g : Nat → Nat} {n : Nat} (h : ∀ i, i < n → f i = g i) : sumN f n = sumN g n := by
  induction n with
  | zero => rfl
  | succ n ih => simp [sumN, ih (fun j hj => h j (by omega)), h n (by omega)]
theorem sumN_le {f : Nat → Nat} {n M : Nat} (h : ∀ i, i < n → f i ≤ M) : sumN f n ≤ n * M := by
  induction n with
  | zero => simp [sumN]
  | succ n ih =>
    have h1 := ih (fun j hj => h j (by omega))
    have h2 := h n (by omega)
    simp only [sumN, Nat.add_mul, Nat.one_mul]
    omega
/-- the point's place in a BOX, a corner box; its PARTS and the MARKS -/
def fBox (I : MI) (t a c n : Nat) (j : Nat) : Bool := !(decide (I (a + 4) (j * c + n) < I (t + 1) j)) && decide (I (a + 4) (j * c + n) < I (t + 2) j)
def fCor (I : MI) (t a c n : Nat) (cl : Bool) (j : Nat) : Bool := decide (I (a + 4) (j * c + n) < I (t + 2) j) || (decide (I (a + 4) (j * c + n) = I (t + 2) j) && cl)
def fMar (I : MI) (t a c n : Nat) (j : Nat) : Bool := decide (I (a + 4) (j * c + n) = I (t + 3) j)
def fHig (I : MI) (t c : Nat) (j : Nat) : Bool := !(decide (I (t + 2) j < 0)) && decide (I (t + 2) j ≤ nI c)
def fMay (I : MI) (t : Nat) (g : Int32) (j : Nat) : Bool := !(decide (I (t + 3) j < 0)) && decide (I (t + 3) j ≤ g)
def s_X3_boxHas : Sp := fun av z S I J R Post => ∃ (t a c d n : Nat), av = [.ref t, .ref a, .int (nI n)] ∧ (TrS S R t) ∧ (ScS S R a c) ∧ (I a 2 = nI c) ∧ (I a 3 = nI d) ∧ (d ≤ 6) ∧ (n < c) ∧ (Post (nI (b2 (allB (fBox I t a c n) d))) 0 none z S I J R)
theorem c_X3_boxHas {t a c d n : Nat} {z : Nat} {S : MS} {I : MI} {J : MJ} {R : MR} {Post : PT} (hT : TrS S R t) (hSc : ScS S R a c) (hcc : I a 2 = nI c) (hd : I a 3 = nI d) (hd6 : d ≤ 6) (hn : n < c) (hp : Post (nI (b2 (allB (fBox I t a c n) d))) 0 none z S I J R) : s_X3_boxHas [.ref t, .ref a, .int (nI n)] z S I J R Post := ⟨t, a, c, d, n, rfl, hT, hSc, hcc, hd, hd6, hn, hp⟩
set_option maxRecDepth 100000 in
set_option maxHeartbeats 400000 in
theorem m_X3_boxHas (T : TC) (B : Nat) : Mt T B yX3_boxHas cX3_boxHas 5 (some .boolean) 1 (rmL 2 0 0) s_X3_boxHas := by
  refine Mt_of rfl (by rintro _ _ _ _ _ _ _ ⟨_, _, _, _, _, rfl, -⟩; exact Nat.le_of_ble_eq_true rfl) ?_
  intro X av z S I J R Post h C Q hI
  obtain ⟨t, a, c, d, n, rfl, hT, hSc, hcc, hd, hd6, hn, hp⟩ := h
  have hSc0 := hSc
  obtain ⟨hs, hr5, hr6, hr7, hr8, hs1, hs2, hs3, hs4, hc1, hc2⟩ := hSc
  obtain ⟨ht, ht0, ht1, ht2, ht3, ht4, ht5⟩ := hT
  have loop : ∀ j : Nat, j ≤ d → allB (fBox I t a c n) j = true → V X 0 0 z S I J R 2 [some (.ref t), some (.ref a), some (.int (nI n)), some (.int (nI j)), none] [] := by
    refine lp_up d ?_
    intro j hj ih hA
    refine v_iload_n C dX3_boxHas_2 rfl ?_
    refine v_aload_n C dX3_boxHas_3 rfl ?_
    first | refine gv_2_3 C (by assumption) (by assumption) wt_154 dX3_boxHas_4 ?_ | refine g_2_3 C (by assumption) wt_154 dX3_boxHas_4 ?_
    first | refine v_icmp_geN C 48 dX3_boxHas_7 (by omega) (by omega) (by decide) (fun h7 => ?_) (fun h7 => ?_) | refine v_icmp_ge C 48 dX3_boxHas_7 (by decide) (fun h7 => ?_) (fun h7 => ?_)
    · refine v_iconstN 1 C dX3_boxHas_48 ?_
      refine v_zret C Q dX3_boxHas_49 (Nat.le_of_ble_eq_true rfl) (Nat.le_of_ble_eq_true rfl) nz_1 ?_
      obtain rfl : j = d := by omega
      rw [hA] at hp; exact hp
    · refine v_aload_n C dX3_boxHas_10 rfl ?_
      refine v_iload_n C dX3_boxHas_11 rfl ?_
      refine v_iload_n C dX3_boxHas_12 rfl ?_
      refine v_callV2_1 C (m_X2_partAt T B) lk_X3_27 ⟨wt_295, wt_296⟩ 2 rfl dX3_boxHas_13 ⟨Nat.le_of_ble_eq_true rfl, Nat.le_of_ble_eq_true rfl⟩ (Nat.le_of_ble_eq_true rfl) ⟨Nat.le_of_ble_eq_true rfl, Nat.le_of_ble_eq_true rfl⟩ (by assumption) (cTo_2 (by assumption)) ?_
      refine c_X2_partAt hSc0 hcc hn (by omega) ?_
      refine v_istore C dX3_boxHas_16 (by decide) ?_
      refine v_iload C dX3_boxHas_18 rfl ?_
      refine v_aload_n C dX3_boxHas_20 rfl ?_
      refine g_3_0 C (by assumption) (by assumption) wt_27 dX3_boxHas_21 ?_
      refine v_iload_n C dX3_boxHas_24 rfl ?_
      first | refine v_ialdN C (by assumption) (by omega) (by omega) dX3_boxHas_25 ?_ | refine v_iald C (by assumption) (by assumption) dX3_boxHas_25 ?_
      refine v_icmp_lt C 40 dX3_boxHas_26 (by decide) (fun h26 => ?_) (fun h26 => ?_)
      · refine v_iconstN 0 C dX3_boxHas_40 ?_
        refine v_zret C Q dX3_boxHas_41 (Nat.le_of_ble_eq_true rfl) (Nat.le_of_ble_eq_true rfl) nz_0 ?_
        rw [allB_false (f := fBox I t a c n) h7 (by simp [fBox, h26, *])] at hp; exact hp
      · refine v_iload C dX3_boxHas_29 rfl ?_
        refine v_aload_n C dX3_boxHas_31 rfl ?_
        refine g_3_1 C (by assumption) (by assumption) wt_29 dX3_boxHas_32 ?_
        refine v_iload_n C dX3_boxHas_35 rfl ?_
        first | refine v_ialdN C (by assumption) (by omega) (by omega) dX3_boxHas_36 ?_ | refine v_iald C (by assumption) (by assumption) dX3_boxHas_36 ?_
        refine v_icmp_lt C 42 dX3_boxHas_37 (by decide) (fun h37 => ?_) (fun h37 => ?_)
        · first | refine v_iincN 1 C dX3_boxHas_42 rfl (by decide) ?_ | refine v_iinc C dX3_boxHas_42 rfl rfl (by decide) ?_
          refine v_goto C 2 dX3_boxHas_45 (by decide) ?_
          exact v_less (ih h7 (by simp [allB, hA, fBox, h26, h37])) (by repeat (first | exact trivial | refine And.intro rfl ?_))
        · refine v_iconstN 0 C dX3_boxHas_40 ?_
          refine v_zret C Q dX3_boxHas_41 (Nat.le_of_ble_eq_true rfl) (Nat.le_of_ble_eq_true rfl) nz_0 ?_
          rw [allB_false (f := fBox I t a c n) h7 (by simp [fBox, h26, *])] at hp; exact hp
  refine v_iconstN 0 C dX3_boxHas_0 ?_
  refine v_istore_n C dX3_boxHas_1 (by decide) ?_
  exact loop 0 (Nat.zero_le _) rfl
def s_X3_cornerHas : Sp := fun av z S I J R Post => ∃ (t a c d n : Nat), ∃ (cl : Bool), av = [.ref t, .ref a, .int (nI n), .int (nI (b2 cl))] ∧ (TrS S R t) ∧ (ScS S R a c) ∧ (I a 2 = nI c) ∧ (I a 3 = nI d) ∧ (d ≤ 6) ∧ (n < c) ∧ (Post (nI (b2 (allB (fCor I t a c n cl) d))) 0 none z S I J R)
theorem c_X3_cornerHas {t a c d n : Nat} {cl : Bool} {z : Nat} {S : MS} {I : MI} {J : MJ} {R : MR} {Post : PT} (hT : TrS S R t) (hSc : ScS S R a c) (hcc : I a 2 = nI c) (hd : I a 3 = nI d) (hd6 : d ≤ 6) (hn : n < c) (hp : Post (nI (b2 (allB (fCor I t a c n cl) d))) 0 none z S I J R) : s_X3_cornerHas [.ref t, .ref a, .int (nI n), .int (nI (b2 cl))] z S I J R Post := ⟨t, a, c, d, n, cl, rfl, hT, hSc, hcc, hd, hd6, hn, hp⟩
set_option maxRecDepth 100000 in
set_option maxHeartbeats 400000 in
theorem m_X3_cornerHas (T : TC) (B : Nat) : Mt T B yX3_cornerHas cX3_cornerHas 6 (some .boolean) 1 (rmL 2 0 0) s_X3_cornerHas := by
  refine Mt_of rfl (by rintro _ _ _ _ _ _ _ ⟨_, _, _, _, _, _, rfl, -⟩; exact Nat.le_of_ble_eq_true rfl) ?_
  intro X av z S I J R Post h C Q hI
  obtain ⟨t, a, c, d, n, cl, rfl, hT, hSc, hcc, hd, hd6, hn, hp⟩ := h
  have hSc0 := hSc
  obtain ⟨hs, hr5, hr6, hr7, hr8, hs1, hs2, hs3, hs4, hc1, hc2⟩ := hSc
  obtain ⟨ht, ht0, ht1, ht2, ht3, ht4, ht5⟩ := hT
  have loop : ∀ j : Nat, j ≤ d → allB (fCor I t a c n cl) j = true → V X 0 0 z S I J R 3 [some (.ref t), some (.ref a), some (.int (nI n)), some (.int (nI (b2 cl))), some (.int (nI j)), none] [] := by
    refine lp_up d ?_
    intro j hj ih hA
    have hb := b2_lt cl
    refine v_iload C dX3_cornerHas_3 rfl ?_
    refine v_aload_n C dX3_cornerHas_5 rfl ?_
    first | refine gv_2_3 C (by assumption) (by assumption) wt_154 dX3_cornerHas_6 ?_ | refine g_2_3 C (by assumption) wt_154 dX3_cornerHas_6 ?_
    first | refine v_icmp_geN C 57 dX3_cornerHas_9 (by omega) (by omega) (by decide) (fun h9 => ?_) (fun h9 => ?_) | refine v_icmp_ge C 57 dX3_cornerHas_9 (by decide) (fun h9 => ?_) (fun h9 => ?_)
    · refine v_iconstN 1 C dX3_cornerHas_57 ?_
      refine v_zret C Q dX3_cornerHas_58 (Nat.le_of_ble_eq_true rfl) (Nat.le_of_ble_eq_true rfl) nz_1 ?_
      obtain rfl : j = d := by omega
      rw [hA] at hp; exact hp
    · refine v_aload_n C dX3_cornerHas_12 rfl ?_
      refine v_iload_n C dX3_cornerHas_13 rfl ?_
      refine v_iload C dX3_cornerHas_14 rfl ?_
      refine v_callV2_1 C (m_X2_partAt T B) lk_X3_27 ⟨wt_295, wt_296⟩ 2 rfl dX3_cornerHas_16 ⟨Nat.le_of_ble_eq_true rfl, Nat.le_of_ble_eq_true rfl⟩ (Nat.le_of_ble_eq_true rfl) ⟨Nat.le_of_ble_eq_true rfl, Nat.le_of_ble_eq_true rfl⟩ (by assumption) (cTo_2 (by assumption)) ?_
      refine c_X2_partAt hSc0 hcc hn (by omega) ?_
      refine v_istore C dX3_cornerHas_19 (by decide) ?_
      refine v_iload C dX3_cornerHas_21 rfl ?_
      refine v_aload_n C dX3_cornerHas_23 rfl ?_
      refine g_3_1 C (by assumption) (by assumption) wt_29 dX3_cornerHas_24 ?_
      refine v_iload C dX3_cornerHas_27 rfl ?_
      first | refine v_ialdN C (by assumption) (by omega) (by omega) dX3_cornerHas_29 ?_ | refine v_iald C (by assumption) (by assumption) dX3_cornerHas_29 ?_
      refine v_icmp_gt C 49 dX3_cornerHas_30 (by decide) (fun h30 => ?_) (fun h30 => ?_)
      · have hfF : fCor I t a c n cl j = false := by
          have e1 := Int32.not_lt.mpr (Int32.le_of_lt h30)
          have e2 : ¬ I (a + 4) (j * c + n) = I (t + 2) j := fun q => Int32.lt_irrefl (q ▸ h30)
          simp [fCor, e1, e2]
        refine v_iconstN 0 C dX3_cornerHas_49 ?_
        refine v_zret C Q dX3_cornerHas_50 (Nat.le_of_ble_eq_true rfl) (Nat.le_of_ble_eq_true rfl) nz_0 ?_
        rw [allB_false (f := fCor I t a c n cl) h9 hfF] at hp; exact hp
      · refine v_iload C dX3_cornerHas_33 rfl ?_
        refine v_aload_n C dX3_cornerHas_35 rfl ?_
        refine g_3_1 C (by assumption) (by assumption) wt_29 dX3_cornerHas_36 ?_
        refine v_iload C dX3_cornerHas_39 rfl ?_
        first | refine v_ialdN C (by assumption) (by omega) (by omega) dX3_cornerHas_41 ?_ | refine v_iald C (by assumption) (by assumption) dX3_cornerHas_41 ?_
        refine v_icmp_ne C 51 dX3_cornerHas_42 (by decide) (fun h42 => ?_) (fun h42 => ?_)
        · have hfT : fCor I t a c n cl j = true := by
            have e1 := Int32.lt_of_le_of_ne (Int32.not_lt.mp h30) h42
            simp [fCor, e1]
          first | refine v_iincN 1 C dX3_cornerHas_51 rfl (by decide) ?_ | refine v_iinc C dX3_cornerHas_51 rfl rfl (by decide) ?_
          refine v_goto C 3 dX3_cornerHas_54 (by decide) ?_
          exact v_less (ih h9 (by simp [allB, hA, hfT])) (by repeat (first | exact trivial | refine And.intro rfl ?_))
        · refine v_iload_n C dX3_cornerHas_45 rfl ?_
          first | refine v_if_neN C 51 dX3_cornerHas_46 (by omega) (by decide) (fun h46 => ?_) (fun h46 => ?_) | refine v_if_ne C 51 dX3_cornerHas_46 (by decide) (fun h46 => ?_) (fun h46 => ?_)
          · have hfT : fCor I t a c n cl j = true := by
              have : cl = true := by cases cl <;> simp [b2] at h46 ⊢
              simp [fCor, h42, this]
            first | refine v_iincN 1 C dX3_cornerHas_51 rfl (by decide) ?_ | refine v_iinc C dX3_cornerHas_51 rfl rfl (by decide) ?_
            refine v_goto C 3 dX3_cornerHas_54 (by decide) ?_
            exact v_less (ih h9 (by simp [allB, hA, hfT])) (by repeat (first | exact trivial | refine And.intro rfl ?_))
          · have hfF : fCor I t a c n cl j = false := by
              have : cl = false := by cases cl <;> simp [b2] at h46 ⊢
              simp [fCor, h42, this, Int32.lt_irrefl]
            refine v_iconstN 0 C dX3_cornerHas_49 ?_
            refine v_zret C Q dX3_cornerHas_50 (Nat.le_of_ble_eq_true rfl) (Nat.le_of_ble_eq_true rfl) nz_0 ?_
            rw [allB_false (f := fCor I t a c n cl) h9 hfF] at hp; exact hp
  refine v_iconstN 0 C dX3_cornerHas_0 ?_
  refine v_istore C dX3_cornerHas_1 (by decide) ?_
  exact loop 0 (Nat.zero_le _) rfl
def s_X3_marksAreParts : Sp := fun av z S I J R Post => ∃ (t a c d n : Nat), av = [.ref t, .ref a, .int (nI n)] ∧ (TrS S R t) ∧ (ScS S R a c) ∧ (I a 2 = nI c) ∧ (I a 3 = nI d) ∧ (d ≤ 6) ∧ (n < c) ∧ (Post (nI (b2 (allB (fMar I t a c n) d))) 0 none z S I J R)
theorem c_X3_marksAreParts {t a c d n : Nat} {z : Nat} {S : MS} {I : MI} {J : MJ} {R : MR} {Post : PT} (hT : TrS S R t) (hSc : ScS S R a c) (hcc : I a 2 = nI c) (hd : I a 3 = nI d) (hd6 : d ≤ 6) (hn : n < c) (hp : Post (nI (b2 (allB (fMar I t a c n) d))) 0 none z S I J R) : s_X3_marksAreParts [.ref t, .ref a, .int (nI n)] z S I J R Post := ⟨t, a, c, d, n, rfl, hT, hSc, hcc, hd, hd6, hn, hp⟩
set_option maxRecDepth 100000 in
set_option maxHeartbeats 400000 in
theorem m_X3_marksAreParts (T : TC) (B : Nat) : Mt T B yX3_marksAreParts cX3_marksAreParts 4 (some .boolean) 1 (rmL 2 0 0) s_X3_marksAreParts := by
  refine Mt_of rfl (by rintro _ _ _ _ _ _ _ ⟨_, _, _, _, _, rfl, -⟩; exact Nat.le_of_ble_eq_true rfl) ?_
  intro X av z S I J R Post h C Q hI
  obtain ⟨t, a, c, d, n, rfl, hT, hSc, hcc, hd, hd6, hn, hp⟩ := h
  have hSc0 := hSc
  obtain ⟨hs, hr5, hr6, hr7, hr8, hs1, hs2, hs3, hs4, hc1, hc2⟩ := hSc
  obtain ⟨ht, ht0, ht1, ht2, ht3, ht4, ht5⟩ := hT
  have loop : ∀ j : Nat, j ≤ d → allB (fMar I t a c n) j = true → V X 0 0 z S I J R 2 [some (.ref t), some (.ref a), some (.int (nI n)), some (.int (nI j))] [] := by
    refine lp_up d ?_
    intro j hj ih hA
    refine v_iload_n C dX3_marksAreParts_2 rfl ?_
    refine v_aload_n C dX3_marksAreParts_3 rfl ?_
    first | refine gv_2_3 C (by assumption) (by assumption) wt_154 dX3_marksAreParts_4 ?_ | refine g_2_3 C (by assumption) wt_154 dX3_marksAreParts_4 ?_
    first | refine v_icmp_geN C 33 dX3_marksAreParts_7 (by omega) (by omega) (by decide) (fun h7 => ?_) (fun h7 => ?_) | refine v_icmp_ge C 33 dX3_marksAreParts_7 (by decide) (fun h7 => ?_) (fun h7 => ?_)
    · refine v_iconstN 1 C dX3_marksAreParts_33 ?_
      refine v_zret C Q dX3_marksAreParts_34 (Nat.le_of_ble_eq_true rfl) (Nat.le_of_ble_eq_true rfl) nz_1 ?_
      obtain rfl : j = d := by omega
      rw [hA] at hp; exact hp
    · refine v_aload_n C dX3_marksAreParts_10 rfl ?_
      refine v_iload_n C dX3_marksAreParts_11 rfl ?_
      refine v_iload_n C dX3_marksAreParts_12 rfl ?_
      refine v_callV2_1 C (m_X2_partAt T B) lk_X3_27 ⟨wt_295, wt_296⟩ 2 rfl dX3_marksAreParts_13 ⟨Nat.le_of_ble_eq_true rfl, Nat.le_of_ble_eq_true rfl⟩ (Nat.le_of_ble_eq_true rfl) ⟨Nat.le_of_ble_eq_true rfl, Nat.le_of_ble_eq_true rfl⟩ (by assumption) (cTo_2 (by assumption)) ?_
      refine c_X2_partAt hSc0 hcc hn (by omega) ?_
      refine v_aload_n C dX3_marksAreParts_16 rfl ?_
      refine g_3_2 C (by assumption) (by assumption) wt_31 dX3_marksAreParts_17 ?_
      refine v_iload_n C dX3_marksAreParts_20 rfl ?_
      first | refine v_ialdN C (by assumption) (by omega) (by omega) dX3_marksAreParts_21 ?_ | refine v_iald C (by assumption) (by assumption) dX3_marksAreParts_21 ?_
      refine v_icmp_eq C 27 dX3_marksAreParts_22 (by decide) (fun h22 => ?_) (fun h22 => ?_)
      · first | refine v_iincN 1 C dX3_marksAreParts_27 rfl (by decide) ?_ | refine v_iinc C dX3_marksAreParts_27 rfl rfl (by decide) ?_
        refine v_goto C 2 dX3_marksAreParts_30 (by decide) ?_
        exact v_less (ih h7 (by simp [allB, hA, fMar, h22])) (by repeat (first | exact trivial | refine And.intro rfl ?_))
      · refine v_iconstN 0 C dX3_marksAreParts_25 ?_
        refine v_zret C Q dX3_marksAreParts_26 (Nat.le_of_ble_eq_true rfl) (Nat.le_of_ble_eq_true rfl) nz_0 ?_
        rw [allB_false (f := fMar I t a c n) h7 (by simp [fMar, h22])] at hp; exact hp
  refine v_iconstN 0 C dX3_marksAreParts_0 ?_
  refine v_istore_n C dX3_marksAreParts_1 (by decide) ?_
  exact loop 0 (Nat.zero_le _) rfl
def s_X3_highsMayBe : Sp := fun av z S I J R Post => ∃ (t a c d : Nat), av = [.ref t, .ref a] ∧ (TrS S R t) ∧ (S a = (3, 0)) ∧ (I a 2 = nI c) ∧ (I a 3 = nI d) ∧ (d ≤ 6) ∧ (Post (nI (b2 (allB (fHig I t c) d))) 0 none z S I J R)
theorem c_X3_highsMayBe {t a c d : Nat} {z : Nat} {S : MS} {I : MI} {J : MJ} {R : MR} {Post : PT} (hT : TrS S R t) (hs : S a = (3, 0)) (hcc : I a 2 = nI c) (hd : I a 3 = nI d) (hd6 : d ≤ 6) (hp : Post (nI (b2 (allB (fHig I t c) d))) 0 none z S I J R) : s_X3_highsMayBe [.ref t, .ref a] z S I J R Post := ⟨t, a, c, d, rfl, hT, hs, hcc, hd, hd6, hp⟩
set_option maxRecDepth 100000 in
set_option maxHeartbeats 400000 in
theorem m_X3_highsMayBe (T : TC) (B : Nat) : Mt T B yX3_highsMayBe cX3_highsMayBe 3 (some .boolean) 1 (rmL 1 0 0) s_X3_highsMayBe := by
  refine Mt_of rfl (by rintro _ _ _ _ _ _ _ ⟨_, _, _, _, rfl, -⟩; exact Nat.le_of_ble_eq_true rfl) ?_
  intro X av z S I J R Post h C Q hI
  obtain ⟨t, a, c, d, rfl, hT, hs, hcc, hd, hd6, hp⟩ := h
  obtain ⟨ht, ht0, ht1, ht2, ht3, ht4, ht5⟩ := hT
  have loop : ∀ j : Nat, j ≤ d → allB (fHig I t c) j = true → V X 0 0 z S I J R 2 [some (.ref t), some (.ref a), some (.int (nI j))] [] := by
    refine lp_up d ?_
    intro j hj ih hA
    refine v_iload_n C dX3_highsMayBe_2 rfl ?_
    refine v_aload_n C dX3_highsMayBe_3 rfl ?_
    first | refine gv_2_3 C (by assumption) (by assumption) wt_154 dX3_highsMayBe_4 ?_ | refine g_2_3 C (by assumption) wt_154 dX3_highsMayBe_4 ?_
    first | refine v_icmp_geN C 40 dX3_highsMayBe_7 (by omega) (by omega) (by decide) (fun h7 => ?_) (fun h7 => ?_) | refine v_icmp_ge C 40 dX3_highsMayBe_7 (by decide) (fun h7 => ?_) (fun h7 => ?_)
    · refine v_iconstN 1 C dX3_highsMayBe_40 ?_
      refine v_zret C Q dX3_highsMayBe_41 (Nat.le_of_ble_eq_true rfl) (Nat.le_of_ble_eq_true rfl) nz_1 ?_
      obtain rfl : j = d := by omega
      rw [hA] at hp; exact hp
    · refine v_aload_n C dX3_highsMayBe_10 rfl ?_
      refine g_3_1 C (by assumption) (by assumption) wt_29 dX3_highsMayBe_11 ?_
      refine v_iload_n C dX3_highsMayBe_14 rfl ?_
      first | refine v_ialdN C (by assumption) (by omega) (by omega) dX3_highsMayBe_15 ?_ | refine v_iald C (by assumption) (by assumption) dX3_highsMayBe_15 ?_
      refine v_if_lt C 32 dX3_highsMayBe_16 (by decide) (fun h16 => ?_) (fun h16 => ?_)
      · refine v_iconstN 0 C dX3_highsMayBe_32 ?_
        refine v_zret C Q dX3_highsMayBe_33 (Nat.le_of_ble_eq_true rfl) (Nat.le_of_ble_eq_true rfl) nz_0 ?_
        rw [allB_false (f := fHig I t c) h7 (by simp [fHig, h16, *])] at hp; exact hp
      · refine v_aload_n C dX3_highsMayBe_19 rfl ?_
        refine g_3_1 C (by assumption) (by assumption) wt_29 dX3_highsMayBe_20 ?_
        refine v_iload_n C dX3_highsMayBe_23 rfl ?_
        first | refine v_ialdN C (by assumption) (by omega) (by omega) dX3_highsMayBe_24 ?_ | refine v_iald C (by assumption) (by assumption) dX3_highsMayBe_24 ?_
        refine v_aload_n C dX3_highsMayBe_25 rfl ?_
        first | refine gv_2_2 C (by assumption) (by assumption) wt_151 dX3_highsMayBe_26 ?_ | refine g_2_2 C (by assumption) wt_151 dX3_highsMayBe_26 ?_
        refine v_icmp_le C 34 dX3_highsMayBe_29 (by decide) (fun h29 => ?_) (fun h29 => ?_)
        · first | refine v_iincN 1 C dX3_highsMayBe_34 rfl (by decide) ?_ | refine v_iinc C dX3_highsMayBe_34 rfl rfl (by decide) ?_
          refine v_goto C 2 dX3_highsMayBe_37 (by decide) ?_
          exact v_less (ih h7 (by simp [allB, hA, fHig, h16, h29])) (by repeat (first | exact trivial | refine And.intro rfl ?_))
        · refine v_iconstN 0 C dX3_highsMayBe_32 ?_
          refine v_zret C Q dX3_highsMayBe_33 (Nat.le_of_ble_eq_true rfl) (Nat.le_of_ble_eq_true rfl) nz_0 ?_
          rw [allB_false (f := fHig I t c) h7 (by simp [fHig, h16, *])] at hp; exact hp
  refine v_iconstN 0 C dX3_highsMayBe_0 ?_
  refine v_istore_n C dX3_highsMayBe_1 (by decide) ?_
  exact loop 0 (Nat.zero_le _) rfl
def s_X3_marksMayBe : Sp := fun av z S I J R Post => ∃ (t a d : Nat), ∃ (g : Int32), av = [.ref t, .ref a, .int g] ∧ (TrS S R t) ∧ (S a = (3, 0)) ∧ (I a 3 = nI d) ∧ (d ≤ 6) ∧ (Post (nI (b2 (allB (fMay I t g) d))) 0 none z S I J R)
theorem c_X3_marksMayBe {t a d : Nat} {g : Int32} {z : Nat} {S : MS} {I : MI} {J : MJ} {R : MR} {Post : PT} (hT : TrS S R t) (hs : S a = (3, 0)) (hd : I a 3 = nI d) (hd6 : d ≤ 6) (hp : Post (nI (b2 (allB (fMay I t g) d))) 0 none z S I J R) : s_X3_marksMayBe [.ref t, .ref a, .int g] z S I J R Post := ⟨t, a, d, g, rfl, hT, hs, hd, hd6, hp⟩
set_option maxRecDepth 100000 in
set_option maxHeartbeats 400000 in
theorem m_X3_marksMayBe (T : TC) (B : Nat) : Mt T B yX3_marksMayBe cX3_marksMayBe 4 (some .boolean) 1 (rmL 1 0 0) s_X3_marksMayBe := by
  refine Mt_of rfl (by rintro _ _ _ _ _ _ _ ⟨_, _, _, _, rfl, -⟩; exact Nat.le_of_ble_eq_true rfl) ?_
  intro X av z S I J R Post h C Q hI
  obtain ⟨t, a, d, g, rfl, hT, hs, hd, hd6, hp⟩ := h
  obtain ⟨ht, ht0, ht1, ht2, ht3, ht4, ht5⟩ := hT
  have loop : ∀ j : Nat, j ≤ d → allB (fMay I t g) j = true → V X 0 0 z S I J R 2 [some (.ref t), some (.ref a), some (.int g), some (.int (nI j))] [] := by
    refine lp_up d ?_
    intro j hj ih hA
    refine v_iload_n C dX3_marksMayBe_2 rfl ?_
    refine v_aload_n C dX3_marksMayBe_3 rfl ?_
    first | refine gv_2_3 C (by assumption) (by assumption) wt_154 dX3_marksMayBe_4 ?_ | refine g_2_3 C (by assumption) wt_154 dX3_marksMayBe_4 ?_
    first | refine v_icmp_geN C 37 dX3_marksMayBe_7 (by omega) (by omega) (by decide) (fun h7 => ?_) (fun h7 => ?_) | refine v_icmp_ge C 37 dX3_marksMayBe_7 (by decide) (fun h7 => ?_) (fun h7 => ?_)
    · refine v_iconstN 1 C dX3_marksMayBe_37 ?_
      refine v_zret C Q dX3_marksMayBe_38 (Nat.le_of_ble_eq_true rfl) (Nat.le_of_ble_eq_true rfl) nz_1 ?_
      obtain rfl : j = d := by omega
      rw [hA] at hp; exact hp
    · refine v_aload_n C dX3_marksMayBe_10 rfl ?_
      refine g_3_2 C (by assumption) (by assumption) wt_31 dX3_marksMayBe_11 ?_
      refine v_iload_n C dX3_marksMayBe_14 rfl ?_
      first | refine v_ialdN C (by assumption) (by omega) (by omega) dX3_marksMayBe_15 ?_ | refine v_iald C (by assumption) (by assumption) dX3_marksMayBe_15 ?_
      refine v_if_lt C 29 dX3_marksMayBe_16 (by decide) (fun h16 => ?_) (fun h16 => ?_)
      · refine v_iconstN 0 C dX3_marksMayBe_29 ?_
        refine v_zret C Q dX3_marksMayBe_30 (Nat.le_of_ble_eq_true rfl) (Nat.le_of_ble_eq_true rfl) nz_0 ?_
        rw [allB_false (f := fMay I t g) h7 (by simp [fMay, h16, *])] at hp; exact hp
      · refine v_aload_n C dX3_marksMayBe_19 rfl ?_
        refine g_3_2 C (by assumption) (by assumption) wt_31 dX3_marksMayBe_20 ?_
        refine v_iload_n C dX3_marksMayBe_23 rfl ?_
        first | refine v_ialdN C (by assumption) (by omega) (by omega) dX3_marksMayBe_24 ?_ | refine v_iald C (by assumption) (by assumption) dX3_marksMayBe_24 ?_
        refine v_iload_n C dX3_marksMayBe_25 rfl ?_
        refine v_icmp_le C 31 dX3_marksMayBe_26 (by decide) (fun h26 => ?_) (fun h26 => ?_)
        · first | refine v_iincN 1 C dX3_marksMayBe_31 rfl (by decide) ?_ | refine v_iinc C dX3_marksMayBe_31 rfl rfl (by decide) ?_
          refine v_goto C 2 dX3_marksMayBe_34 (by decide) ?_
          exact v_less (ih h7 (by simp [allB, hA, fMay, h16, h26])) (by repeat (first | exact trivial | refine And.intro rfl ?_))
        · refine v_iconstN 0 C dX3_marksMayBe_29 ?_
          refine v_zret C Q dX3_marksMayBe_30 (Nat.le_of_ble_eq_true rfl) (Nat.le_of_ble_eq_true rfl) nz_0 ?_
          rw [allB_false (f := fMay I t g) h7 (by simp [fMay, h16, *])] at hp; exact hp
  refine v_iconstN 0 C dX3_marksMayBe_0 ?_
  refine v_istore_n C dX3_marksMayBe_1 (by decide) ?_
  exact loop 0 (Nat.zero_le _) rfl
def s_X3_markSum : Sp := fun av z S I J R Post => ∃ (t a d : Nat), ∃ (m : Nat → Nat), av = [.ref t, .ref a] ∧ (TrS S R t) ∧ (S a = (3, 0)) ∧ (I a 3 = nI d) ∧ (d ≤ 6) ∧ (∀ j, j < d → I (t + 3) j = nI (m j)) ∧ (Post (nI (sumN m d)) 0 none z S I J R)
theorem c_X3_markSum {t a d : Nat} {m : Nat → Nat} {z : Nat} {S : MS} {I : MI} {J : MJ} {R : MR} {Post : PT} (hT : TrS S R t) (hs : S a = (3, 0)) (hd : I a 3 = nI d) (hd6 : d ≤ 6) (hm : ∀ j, j < d → I (t + 3) j = nI (m j)) (hp : Post (nI (sumN m d)) 0 none z S I J R) : s_X3_markSum [.ref t, .ref a] z S I J R Post := ⟨t, a, d, m, rfl, hT, hs, hd, hd6, hm, hp⟩
set_option maxRecDepth 100000 in
set_option maxHeartbeats 400000 in
theorem m_X3_markSum (T : TC) (B : Nat) : Mt T B yX3_markSum cX3_markSum 4 (some .int) 1 (rmL 1 0 0) s_X3_markSum := by
  refine Mt_of rfl (by rintro _ _ _ _ _ _ _ ⟨_, _, _, _, rfl, -⟩; exact Nat.le_of_ble_eq_true rfl) ?_
  intro X av z S I J R Post h C Q hI
  obtain ⟨t, a, d, m, rfl, hT, hs, hd, hd6, hm, hp⟩ := h
  obtain ⟨ht, ht0, ht1, ht2, ht3, ht4, ht5⟩ := hT
  have loop : ∀ j : Nat, j ≤ d → V X 0 0 z S I J R 4 [some (.ref t), some (.ref a), some (.int (nI (sumN m j))), some (.int (nI j))] [] := by
    refine lp_up d ?_
    intro j hj ih
    refine v_iload_n C dX3_markSum_4 rfl ?_
    refine v_aload_n C dX3_markSum_5 rfl ?_
    first | refine gv_2_3 C (by assumption) (by assumption) wt_154 dX3_markSum_6 ?_ | refine g_2_3 C (by assumption) wt_154 dX3_markSum_6 ?_
    first | refine v_icmp_geN C 27 dX3_markSum_9 (by omega) (by omega) (by decide) (fun h9 => ?_) (fun h9 => ?_) | refine v_icmp_ge C 27 dX3_markSum_9 (by decide) (fun h9 => ?_) (fun h9 => ?_)
    · refine v_iload_n C dX3_markSum_27 rfl ?_
      refine v_iret C Q dX3_markSum_28 (Nat.le_of_ble_eq_true rfl) (Nat.le_of_ble_eq_true rfl) ?_
      obtain rfl : j = d := by omega
      exact hp
    · refine v_iload_n C dX3_markSum_12 rfl ?_
      refine v_aload_n C dX3_markSum_13 rfl ?_
      refine g_3_2 C (by assumption) (by assumption) wt_31 dX3_markSum_14 ?_
      refine v_iload_n C dX3_markSum_17 rfl ?_
      first | refine v_ialdN C (by assumption) (by omega) (by omega) dX3_markSum_18 ?_ | refine v_iald C (by assumption) (by assumption) dX3_markSum_18 ?_
      rw [hm j h9]
      first | refine v_iaddN C dX3_markSum_19 ?_ | refine v_iadd C dX3_markSum_19 ?_
      refine v_istore_n C dX3_markSum_20 (by decide) ?_
      first | refine v_iincN 1 C dX3_markSum_21 rfl (by decide) ?_ | refine v_iinc C dX3_markSum_21 rfl rfl (by decide) ?_
      refine v_goto C 4 dX3_markSum_24 (by decide) ?_
      exact v_less (ih h9) (by repeat (first | exact trivial | refine And.intro rfl ?_))
  refine v_iconstN 0 C dX3_markSum_0 ?_
  refine v_istore_n C dX3_markSum_1 (by decide) ?_
  refine v_iconstN 0 C dX3_markSum_2 ?_
  refine v_istore_n C dX3_markSum_3 (by decide) ?_
  exact loop 0 (Nat.zero_le _)
