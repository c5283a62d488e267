def jv (i : Nat) : Int32 := nI i - nI 1
theorem jv_s (m : Nat) : jv (m + 1) = nI m := nI_pred m
theorem jv_0 : jv 0 < 0 := by decide
theorem jv_dec (m : Nat) : nI m + Int32.ofInt (-1) = jv m := by
  unfold jv
  rw [Int32.sub_eq_add_neg]
  rfl
def s_X0_sizeOf : Sp := fun av z S I J R Post => ∃ (k a d : Nat), ∃ (h : Nat → Nat), av = [.ref k, .ref a] ∧ (CoS S R k) ∧ (S a = (3, 0)) ∧ (I a 3 = nI d) ∧ (d ≤ 3) ∧ (∀ j, j < d → I (k + 2) j = nI (h j) ∧ h j < 1000) ∧ (Post 0 (lN (prodN h d)) none z S I J R)
theorem c_X0_sizeOf {k a d : Nat} {h : Nat → Nat} {z : Nat} {S : MS} {I : MI} {J : MJ} {R : MR} {Post : PT} (hK : CoS S R k) (hs : S a = (3, 0)) (hd : I a 3 = nI d) (hd3 : d ≤ 3) (hh : ∀ j, j < d → I (k + 2) j = nI (h j) ∧ h j < 1000) (hp : Post 0 (lN (prodN h d)) none z S I J R) : s_X0_sizeOf [.ref k, .ref a] z S I J R Post := ⟨k, a, d, h, rfl, hK, hs, hd, hd3, hh, hp⟩
set_option maxRecDepth 100000 in
set_option maxHeartbeats 400000 in
theorem m_X0_sizeOf (T : TC) (B : Nat) : Mt T B yX0_sizeOf cX0_sizeOf 5 (some .long) 2 (rmL 1 0 0) s_X0_sizeOf := by
  refine Mt_of rfl (by rintro _ _ _ _ _ _ _ ⟨_, _, _, _, rfl, -⟩; exact Nat.le_of_ble_eq_true rfl) ?_
  intro X av z S I J R Post h C Q hI
  obtain ⟨k, a, d, h, rfl, hK, hs, hd, hd3, hh, hp⟩ := h
  obtain ⟨hk, hk0, hk3, hk4, hk1', hk2', hk3'⟩ := hK
  have loop : ∀ j : Nat, j ≤ d → V X 0 0 z S I J R 5 [some (.ref k), some (.ref a), some (.long (lN (prodN h j))), none, some (.int (nI j))] [] := by
    refine lp_up d ?_
    intro j hj ih
    refine v_iload C dX0_sizeOf_5 rfl ?_
    refine v_aload_n C dX0_sizeOf_7 rfl ?_
    first | refine gv_2_3 C (by assumption) (by assumption) wt_155 dX0_sizeOf_8 ?_ | refine g_2_3 C (by assumption) wt_155 dX0_sizeOf_8 ?_
    first | refine v_icmp_geN C 31 dX0_sizeOf_11 (by omega) (by omega) (by decide) (fun h11 => ?_) (fun h11 => ?_) | refine v_icmp_ge C 31 dX0_sizeOf_11 (by decide) (fun h11 => ?_) (fun h11 => ?_)
    · refine v_lload_n C dX0_sizeOf_31 rfl ?_
      refine v_lret C Q dX0_sizeOf_32 (Nat.le_of_ble_eq_true rfl) (Nat.le_of_ble_eq_true rfl) ?_
      obtain rfl : j = d := by omega
      exact hp
    · obtain ⟨e1, e2⟩ := hh j h11
      refine v_lload_n C dX0_sizeOf_14 rfl ?_
      refine v_aload_n C dX0_sizeOf_15 rfl ?_
      refine g_0_3 C (by assumption) (by assumption) wt_75 dX0_sizeOf_16 ?_
      refine v_iload C dX0_sizeOf_19 rfl ?_
      first | refine v_ialdN C (by assumption) (by omega) (by omega) dX0_sizeOf_21 ?_ | refine v_iald C (by assumption) (by assumption) dX0_sizeOf_21 ?_
      rw [e1]
      first | refine v_i2lN C dX0_sizeOf_22 (by omega) ?_ | refine v_i2l C dX0_sizeOf_22 ?_
      first | refine v_lmulN C dX0_sizeOf_23 ?_ | refine v_lmul C dX0_sizeOf_23 ?_
      refine v_lstore_n C dX0_sizeOf_24 (by decide) ?_
      first | refine v_iincN 1 C dX0_sizeOf_25 rfl (by decide) ?_ | refine v_iinc C dX0_sizeOf_25 rfl rfl (by decide) ?_
      refine v_goto C 5 dX0_sizeOf_28 (by decide) ?_
      exact v_less (ih h11) (by repeat (first | exact trivial | refine And.intro rfl ?_))
  refine v_lconst (v := lN 1) C dX0_sizeOf_0 rfl ?_
  refine v_lstore_n C dX0_sizeOf_1 (by decide) ?_
  refine v_iconstN 0 C dX0_sizeOf_2 ?_
  refine v_istore C dX0_sizeOf_3 (by decide) ?_
  exact loop 0 (Nat.zero_le _)
def dgn (b : Nat) : Nat → Nat
  | 0 => 0
  | j + 1 => dgn b j * b + 1
def s_X0_diagonalOf : Sp := fun av z S I J R Post => ∃ (k a d b : Nat), av = [.ref k, .ref a] ∧ (S k = (1, 0)) ∧ (S a = (3, 0)) ∧ (I a 3 = nI d) ∧ (d ≤ 3) ∧ (I k 5 = nI b) ∧ (Post (nI (dgn b d)) 0 none z S I J R)
theorem c_X0_diagonalOf {k a d b : Nat} {z : Nat} {S : MS} {I : MI} {J : MJ} {R : MR} {Post : PT} (hk : S k = (1, 0)) (hs : S a = (3, 0)) (hd : I a 3 = nI d) (hd3 : d ≤ 3) (hb : I k 5 = nI b) (hp : Post (nI (dgn b d)) 0 none z S I J R) : s_X0_diagonalOf [.ref k, .ref a] z S I J R Post := ⟨k, a, d, b, rfl, hk, hs, hd, hd3, hb, hp⟩
set_option maxRecDepth 100000 in
set_option maxHeartbeats 400000 in
theorem m_X0_diagonalOf (T : TC) (B : Nat) : Mt T B yX0_diagonalOf cX0_diagonalOf 4 (some .int) 1 (rmL 1 0 0) s_X0_diagonalOf := by
  refine Mt_of rfl (by rintro _ _ _ _ _ _ _ ⟨_, _, _, _, rfl, -⟩; exact Nat.le_of_ble_eq_true rfl) ?_
  intro X av z S I J R Post h C Q hI
  obtain ⟨k, a, d, b, rfl, hk, hs, hd, hd3, hb, hp⟩ := h
  have loop : ∀ j : Nat, j ≤ d → V X 0 0 z S I J R 4 [some (.ref k), some (.ref a), some (.int (nI (dgn b j))), some (.int (nI j))] [] := by
    refine lp_up d ?_
    intro j hj ih
    refine v_iload_n C dX0_diagonalOf_4 rfl ?_
    refine v_aload_n C dX0_diagonalOf_5 rfl ?_
    first | refine gv_2_3 C (by assumption) (by assumption) wt_155 dX0_diagonalOf_6 ?_ | refine g_2_3 C (by assumption) wt_155 dX0_diagonalOf_6 ?_
    first | refine v_icmp_geN C 27 dX0_diagonalOf_9 (by omega) (by omega) (by decide) (fun h9 => ?_) (fun h9 => ?_) | refine v_icmp_ge C 27 dX0_diagonalOf_9 (by decide) (fun h9 => ?_) (fun h9 => ?_)
    · refine v_iload_n C dX0_diagonalOf_27 rfl ?_
      refine v_iret C Q dX0_diagonalOf_28 (Nat.le_of_ble_eq_true rfl) (Nat.le_of_ble_eq_true rfl) ?_
      obtain rfl : j = d := by omega
      exact hp
    · refine v_iload_n C dX0_diagonalOf_12 rfl ?_
      refine v_aload_n C dX0_diagonalOf_13 rfl ?_
      first | refine gv_0_5 C (by assumption) (by assumption) wt_77 dX0_diagonalOf_14 ?_ | refine g_0_5 C (by assumption) wt_77 dX0_diagonalOf_14 ?_
      first | refine v_imulN C dX0_diagonalOf_17 ?_ | refine v_imul C dX0_diagonalOf_17 ?_
      refine v_iconstN 1 C dX0_diagonalOf_18 ?_
      first | refine v_iaddN C dX0_diagonalOf_19 ?_ | refine v_iadd C dX0_diagonalOf_19 ?_
      refine v_istore_n C dX0_diagonalOf_20 (by decide) ?_
      first | refine v_iincN 1 C dX0_diagonalOf_21 rfl (by decide) ?_ | refine v_iinc C dX0_diagonalOf_21 rfl rfl (by decide) ?_
      refine v_goto C 4 dX0_diagonalOf_24 (by decide) ?_
      exact v_less (ih h9) (by repeat (first | exact trivial | refine And.intro rfl ?_))
  refine v_iconstN 0 C dX0_diagonalOf_0 ?_
  refine v_istore_n C dX0_diagonalOf_1 (by decide) ?_
  refine v_iconstN 0 C dX0_diagonalOf_2 ?_
  refine v_istore_n C dX0_diagonalOf_3 (by decide) ?_
  exact loop 0 (Nat.zero_le _)
def fMB (I : MI) (k b c : Nat) (h : Nat → Nat) (op : Bool) (j : Nat) : Bool := (op && decide (h j = c)) || !(decide (I (k + 3) (j * b + h j) = 0))
theorem jb_lt {j d b h : Nat} (hj : j < d) (hh : h < b) : j * b + h < d * b := by
  have : (j + 1) * b ≤ d * b := Nat.mul_le_mul_right b hj
  rw [Nat.add_mul, Nat.one_mul] at this
  omega
def s_X0_cornerMayBe : Sp := fun av z S I J R Post => ∃ (k a c d : Nat), ∃ (h : Nat → Nat), ∃ (op : Bool), av = [.ref k, .ref a, .int (nI (b2 op))] ∧ (CoS S R k) ∧ (S a = (3, 0)) ∧ (I a 2 = nI c) ∧ (I a 3 = nI d) ∧ (d ≤ 3) ∧ (I k 5 = nI (c + 1)) ∧ (d * (c + 1) ≤ 195) ∧ (c ≤ 256) ∧ (∀ j, j < d → I (k + 2) j = nI (h j) ∧ h j ≤ c) ∧ (Post (nI (b2 (allB (fMB I k (c + 1) c h op) d))) 0 none z S I J R)
theorem c_X0_cornerMayBe {k a c d : Nat} {h : Nat → Nat} {op : Bool} {z : Nat} {S : MS} {I : MI} {J : MJ} {R : MR} {Post : PT} (hK : CoS S R k) (hs : S a = (3, 0)) (hcc : I a 2 = nI c) (hd : I a 3 = nI d) (hd3 : d ≤ 3) (hb : I k 5 = nI (c + 1)) (hdb : d * (c + 1) ≤ 195) (hc : c ≤ 256) (hh : ∀ j, j < d → I (k + 2) j = nI (h j) ∧ h j ≤ c) (hp : Post (nI (b2 (allB (fMB I k (c + 1) c h op) d))) 0 none z S I J R) : s_X0_cornerMayBe [.ref k, .ref a, .int (nI (b2 op))] z S I J R Post := ⟨k, a, c, d, h, op, rfl, hK, hs, hcc, hd, hd3, hb, hdb, hc, hh, hp⟩
set_option maxRecDepth 100000 in
set_option maxHeartbeats 400000 in
theorem m_X0_cornerMayBe (T : TC) (B : Nat) : Mt T B yX0_cornerMayBe cX0_cornerMayBe 5 (some .boolean) 1 (rmL 1 0 0) s_X0_cornerMayBe := by
  refine Mt_of rfl (by rintro _ _ _ _ _ _ _ ⟨_, _, _, _, _, _, rfl, -⟩; exact Nat.le_of_ble_eq_true rfl) ?_
  intro X av z S I J R Post h C Q hI
  obtain ⟨k, a, c, d, h, op, rfl, hK, hs, hcc, hd, hd3, hb, hdb, hc, hh, hp⟩ := h
  obtain ⟨hk, hk0, hk3, hk4, hk1', hk2', hk3'⟩ := hK
  have hob := b2_lt op
  have loop : ∀ j : Nat, j ≤ d → allB (fMB I k (c + 1) c h op) j = true → V X 0 0 z S I J R 2 [some (.ref k), some (.ref a), some (.int (nI (b2 op))), some (.int (nI j)), none] [] := by
    refine lp_up d ?_
    intro j hj ih hA
    have mid : j < d → ∀ w : Bool, w = (op && decide (h j = c)) → V X 0 0 z S I J R 32 [some (.ref k), some (.ref a), some (.int (nI (b2 op))), some (.int (nI j)), none] [.int (nI (b2 w))] := by
      intro hjd w hw
      have hwb := b2_lt w
      obtain ⟨e1, e2⟩ := hh j hjd
      have hix := jb_lt (b := c + 1) (h := h j) hjd (by omega)
      refine v_istore C dX0_cornerMayBe_32 (by decide) ?_
      refine v_iload C dX0_cornerMayBe_34 rfl ?_
      first | refine v_if_neN C 62 dX0_cornerMayBe_36 (by omega) (by decide) (fun h36 => ?_) (fun h36 => ?_) | refine v_if_ne C 62 dX0_cornerMayBe_36 (by decide) (fun h36 => ?_) (fun h36 => ?_)
      · have hf : fMB I k (c + 1) c h op j = true := by
          have : w = true := by cases w <;> simp [b2] at h36 ⊢
          simp [fMB, ← hw, this]
        first | refine v_iincN 1 C dX0_cornerMayBe_62 rfl (by decide) ?_ | refine v_iinc C dX0_cornerMayBe_62 rfl rfl (by decide) ?_
        refine v_goto C 2 dX0_cornerMayBe_65 (by decide) ?_
        exact v_less (ih hjd (by simp [allB, hA, hf])) (by repeat (first | exact trivial | refine And.intro rfl ?_))
      · refine v_aload_n C dX0_cornerMayBe_39 rfl ?_
        refine g_0_4 C (by assumption) (by assumption) wt_76 dX0_cornerMayBe_40 ?_
        refine v_iload_n C dX0_cornerMayBe_43 rfl ?_
        refine v_aload_n C dX0_cornerMayBe_44 rfl ?_
        first | refine gv_0_5 C (by assumption) (by assumption) wt_77 dX0_cornerMayBe_45 ?_ | refine g_0_5 C (by assumption) wt_77 dX0_cornerMayBe_45 ?_
        first | refine v_imulN C dX0_cornerMayBe_48 ?_ | refine v_imul C dX0_cornerMayBe_48 ?_
        refine v_aload_n C dX0_cornerMayBe_49 rfl ?_
        refine g_0_3 C (by assumption) (by assumption) wt_75 dX0_cornerMayBe_50 ?_
        refine v_iload_n C dX0_cornerMayBe_53 rfl ?_
        first | refine v_ialdN C (by assumption) (by omega) (by omega) dX0_cornerMayBe_54 ?_ | refine v_iald C (by assumption) (by assumption) dX0_cornerMayBe_54 ?_
        rw [e1]
        first | refine v_iaddN C dX0_cornerMayBe_55 ?_ | refine v_iadd C dX0_cornerMayBe_55 ?_
        first | refine v_ialdN C (by assumption) (by omega) (by omega) dX0_cornerMayBe_56 ?_ | refine v_iald C (by assumption) (by assumption) dX0_cornerMayBe_56 ?_
        refine v_if_ne C 62 dX0_cornerMayBe_57 (by decide) (fun h57 => ?_) (fun h57 => ?_)
        · have hf : fMB I k (c + 1) c h op j = true := by simp [fMB, h57]
          first | refine v_iincN 1 C dX0_cornerMayBe_62 rfl (by decide) ?_ | refine v_iinc C dX0_cornerMayBe_62 rfl rfl (by decide) ?_
          refine v_goto C 2 dX0_cornerMayBe_65 (by decide) ?_
          exact v_less (ih hjd (by simp [allB, hA, hf])) (by repeat (first | exact trivial | refine And.intro rfl ?_))
        · have hf : fMB I k (c + 1) c h op j = false := by
            have : w = false := by cases w <;> simp [b2] at h36 ⊢
            simp [fMB, ← hw, this, h57]
          refine v_iconstN 0 C dX0_cornerMayBe_60 ?_
          refine v_zret C Q dX0_cornerMayBe_61 (Nat.le_of_ble_eq_true rfl) (Nat.le_of_ble_eq_true rfl) nz_0 ?_
          rw [allB_false (f := fMB I k (c + 1) c h op) hjd hf] at hp; exact hp
    refine v_iload_n C dX0_cornerMayBe_2 rfl ?_
    refine v_aload_n C dX0_cornerMayBe_3 rfl ?_
    first | refine gv_2_3 C (by assumption) (by assumption) wt_155 dX0_cornerMayBe_4 ?_ | refine g_2_3 C (by assumption) wt_155 dX0_cornerMayBe_4 ?_
    first | refine v_icmp_geN C 68 dX0_cornerMayBe_7 (by omega) (by omega) (by decide) (fun h7 => ?_) (fun h7 => ?_) | refine v_icmp_ge C 68 dX0_cornerMayBe_7 (by decide) (fun h7 => ?_) (fun h7 => ?_)
    · refine v_iconstN 1 C dX0_cornerMayBe_68 ?_
      refine v_zret C Q dX0_cornerMayBe_69 (Nat.le_of_ble_eq_true rfl) (Nat.le_of_ble_eq_true rfl) nz_1 ?_
      obtain rfl : j = d := by omega
      rw [hA] at hp; exact hp
    · obtain ⟨e1, e2⟩ := hh j h7
      refine v_iload_n C dX0_cornerMayBe_10 rfl ?_
      first | refine v_if_eqN C 31 dX0_cornerMayBe_11 (by omega) (by decide) (fun h11 => ?_) (fun h11 => ?_) | refine v_if_eq C 31 dX0_cornerMayBe_11 (by decide) (fun h11 => ?_) (fun h11 => ?_)
      · have ho : op = false := by cases op <;> simp [b2] at h11 ⊢
        have hm := mid h7 false (by simp [ho])
        refine v_iconstN 0 C dX0_cornerMayBe_31 ?_
        exact v_less hm (by repeat (first | exact trivial | refine And.intro rfl ?_))
      · have ho : op = true := by cases op <;> simp [b2] at h11 ⊢
        refine v_aload_n C dX0_cornerMayBe_14 rfl ?_
        refine g_0_3 C (by assumption) (by assumption) wt_75 dX0_cornerMayBe_15 ?_
        refine v_iload_n C dX0_cornerMayBe_18 rfl ?_
        first | refine v_ialdN C (by assumption) (by omega) (by omega) dX0_cornerMayBe_19 ?_ | refine v_iald C (by assumption) (by assumption) dX0_cornerMayBe_19 ?_
        rw [e1]
        refine v_aload_n C dX0_cornerMayBe_20 rfl ?_
        first | refine gv_2_2 C (by assumption) (by assumption) wt_149 dX0_cornerMayBe_21 ?_ | refine g_2_2 C (by assumption) wt_149 dX0_cornerMayBe_21 ?_
        first | refine v_icmp_neN C 31 dX0_cornerMayBe_24 (by omega) (by omega) (by decide) (fun h24 => ?_) (fun h24 => ?_) | refine v_icmp_ne C 31 dX0_cornerMayBe_24 (by decide) (fun h24 => ?_) (fun h24 => ?_)
        · have hm := mid h7 false (by simp [h24])
          refine v_iconstN 0 C dX0_cornerMayBe_31 ?_
          exact v_less hm (by repeat (first | exact trivial | refine And.intro rfl ?_))
        · have hm := mid h7 true (by simp [ho, h24])
          refine v_iconstN 1 C dX0_cornerMayBe_27 ?_
          refine v_goto C 32 dX0_cornerMayBe_28 (by decide) ?_
          exact v_less hm (by repeat (first | exact trivial | refine And.intro rfl ?_))
  refine v_iconstN 0 C dX0_cornerMayBe_0 ?_
  refine v_istore_n C dX0_cornerMayBe_1 (by decide) ?_
  exact loop 0 (Nat.zero_le _) rfl
def s_X0_setHighs : Sp := fun av z S I J R Post => ∃ (k a d b x : Nat), av = [.ref k, .ref a, .int (nI x)] ∧ (CoS S R k) ∧ (S a = (3, 0)) ∧ (k ≠ a ∧ k + 2 ≠ a) ∧ (I a 3 = nI d) ∧ (d ≤ 3) ∧ (I k 5 = nI b) ∧ (1 ≤ b) ∧ (b < 1000) ∧ (x < 100000) ∧ (∀ I' : MI, Fr I I' (k + 2) 0 3 → (∀ j, j < d → I' (k + 2) j = nI (x / b ^ (d - 1 - j) % b)) → Post 0 0 none z S I' J R)
theorem c_X0_setHighs {k a d b x : Nat} {z : Nat} {S : MS} {I : MI} {J : MJ} {R : MR} {Post : PT} (hK : CoS S R k) (hs : S a = (3, 0)) (hka : k ≠ a ∧ k + 2 ≠ a) (hd : I a 3 = nI d) (hd3 : d ≤ 3) (hb : I k 5 = nI b) (hb1 : 1 ≤ b) (hb2 : b < 1000) (hx : x < 100000) (hp : ∀ I' : MI, Fr I I' (k + 2) 0 3 → (∀ j, j < d → I' (k + 2) j = nI (x / b ^ (d - 1 - j) % b)) → Post 0 0 none z S I' J R) : s_X0_setHighs [.ref k, .ref a, .int (nI x)] z S I J R Post := ⟨k, a, d, b, x, rfl, hK, hs, hka, hd, hd3, hb, hb1, hb2, hx, hp⟩
set_option maxRecDepth 100000 in
set_option maxHeartbeats 400000 in
theorem m_X0_setHighs (T : TC) (B : Nat) : Mt T B yX0_setHighs cX0_setHighs 5 none 0 (rmL 1 0 0) s_X0_setHighs := by
  refine Mt_of rfl (by rintro _ _ _ _ _ _ _ ⟨_, _, _, _, _, rfl, -⟩; exact Nat.le_of_ble_eq_true rfl) ?_
  intro X av z S I J R Post h C Q hI
  obtain ⟨k, a, d, b, x, rfl, hK, hs, hka, hd, hd3, hb, hb1, hb2, hx, hp⟩ := h
  obtain ⟨hk, hk0, hk3, hk4, hk1', hk2', hk3'⟩ := hK
  have loop : ∀ i : Nat, i ≤ d → ∀ I' : MI, Fr I I' (k + 2) 0 3 → (∀ j, i ≤ j → j < d → I' (k + 2) j = nI (x / b ^ (d - 1 - j) % b)) → V X 0 0 z S I' J R 10 [some (.ref k), some (.ref a), some (.int (nI x)), some (.int (nI (x / b ^ (d - i)))), some (.int (jv i))] [] := by
    intro i
    induction i with
    | zero =>
      intro hi I' hF hI
      refine v_iload C dX0_setHighs_10 rfl ?_
      refine v_if_lt C 41 dX0_setHighs_12 (by decide) (fun h12 => ?_) (fun h12 => ?_)
      · refine v_ret C Q dX0_setHighs_41 (Nat.le_of_ble_eq_true rfl) (Nat.le_of_ble_eq_true rfl) ?_
        exact hp I' hF (fun j hj => hI j (Nat.zero_le _) hj)
      · exact absurd jv_0 h12
    | succ i ih =>
      intro hi I' hF hI
      have f5 : I' k 5 = nI b := (hF k 5 (by omega)).trans hb
      have hle : x / b ^ (d - (i + 1)) ≤ x := Nat.div_le_self _ _
      rw [jv_s]
      refine v_iload C dX0_setHighs_10 rfl ?_
      first | refine v_if_ltN C 41 dX0_setHighs_12 (by omega) (by decide) (fun h12 => ?_) (fun h12 => ?_) | refine v_if_lt C 41 dX0_setHighs_12 (by decide) (fun h12 => ?_) (fun h12 => ?_)
      · exact absurd h12 (fun q => q)
      · refine v_aload_n C dX0_setHighs_15 rfl ?_
        refine g_0_3 C (by assumption) (by assumption) wt_75 dX0_setHighs_16 ?_
        refine v_iload C dX0_setHighs_19 rfl ?_
        refine v_iload_n C dX0_setHighs_21 rfl ?_
        refine v_aload_n C dX0_setHighs_22 rfl ?_
        first | refine gv_0_5 C (by assumption) (by assumption) wt_77 dX0_setHighs_23 ?_ | refine g_0_5 C (by assumption) wt_77 dX0_setHighs_23 ?_
        first | refine v_iremN C dX0_setHighs_26 (by omega) (by omega) (by omega) ?_ | refine v_irem C dX0_setHighs_26 (by assumption) ?_
        first | refine v_iastN C (by assumption) (by omega) (by omega) dX0_setHighs_27 ?_ | refine v_iast C (by assumption) (by assumption) dX0_setHighs_27 ?_
        refine v_iload_n C dX0_setHighs_28 rfl ?_
        refine v_aload_n C dX0_setHighs_29 rfl ?_
        first | refine gv_0_5 C (by assumption) ((congrFun (mu_ne _ _ (by omega)) 5).trans f5) wt_77 dX0_setHighs_30 ?_ | refine g_0_5 C (by assumption) wt_77 dX0_setHighs_30 ?_
        first | refine v_idivN C dX0_setHighs_33 (by omega) (by omega) (by omega) ?_ | refine v_idiv C dX0_setHighs_33 (by assumption) ?_
        refine v_istore_n C dX0_setHighs_34 (by decide) ?_
        refine v_iinc (v := jv i) C dX0_setHighs_35 rfl (jv_dec i) (by decide) ?_
        refine v_goto C 10 dX0_setHighs_38 (by decide) ?_
        rw [Nat.div_div_eq_div_mul, ← Nat.pow_succ, show (d - (i + 1)).succ = d - i by omega]
        exact v_less (ih (by omega) _ (hF.mu (Nat.zero_le _) (by omega)) (fun j h1 h2 => by
          by_cases e : j = i
          · subst e; rw [mu_at, show d - (j + 1) = d - 1 - j by omega]
          · rw [mu_other _ _ (fun q => e q.2)]; exact hI j (by omega) h2)) (by repeat (first | exact trivial | refine And.intro rfl ?_))
  have h0 := loop d (Nat.le_refl _) I Fr.rf (fun j h1 h2 => absurd h1 (by omega))
  rw [Nat.sub_self, Nat.pow_zero, Nat.div_one] at h0
  refine v_iload_n C dX0_setHighs_0 rfl ?_
  refine v_istore_n C dX0_setHighs_1 (by decide) ?_
  refine v_aload_n C dX0_setHighs_2 rfl ?_
  first | refine gv_2_3 C (by assumption) (by assumption) wt_155 dX0_setHighs_3 ?_ | refine g_2_3 C (by assumption) wt_155 dX0_setHighs_3 ?_
  refine v_iconstN 1 C dX0_setHighs_6 ?_
  refine v_isub C dX0_setHighs_7 ?_
  refine v_istore C dX0_setHighs_8 (by decide) ?_
  exact v_less h0 (by repeat (first | exact trivial | refine And.intro rfl ?_))
def s_X0_consider : Sp := fun av z S I J R Post => ∃ (k a d : Nat), ∃ (v : Int64), ∃ (cl : Bool), av = [.ref k, .ref a, .long v, .int (nI (b2 cl))] ∧ (CoS S R k) ∧ (S a = (3, 0)) ∧ (k ≠ a) ∧ (I a 3 = nI d) ∧ (d ≤ 3) ∧ ((J k 1 < v → Post 0 0 none z S (mcp (mu I k 2 (nI (b2 cl))) (k + 2) 0 (k + 1) 0 d) (mu J k 1 v) R) ∧ (v ≤ J k 1 → Post 0 0 none z S I J R))
theorem c_X0_consider {k a d : Nat} {v : Int64} {cl : Bool} {z : Nat} {S : MS} {I : MI} {J : MJ} {R : MR} {Post : PT} (hK : CoS S R k) (hs : S a = (3, 0)) (hka : k ≠ a) (hd : I a 3 = nI d) (hd3 : d ≤ 3) (hp : (J k 1 < v → Post 0 0 none z S (mcp (mu I k 2 (nI (b2 cl))) (k + 2) 0 (k + 1) 0 d) (mu J k 1 v) R) ∧ (v ≤ J k 1 → Post 0 0 none z S I J R)) : s_X0_consider [.ref k, .ref a, .long v, .int (nI (b2 cl))] z S I J R Post := ⟨k, a, d, v, cl, rfl, hK, hs, hka, hd, hd3, hp⟩
set_option maxRecDepth 100000 in
set_option maxHeartbeats 400000 in
theorem m_X0_consider (T : TC) (B : Nat) : Mt T B yX0_consider cX0_consider 5 none 0 (rmL 2 0 0) s_X0_consider := by
  refine Mt_of rfl (by rintro _ _ _ _ _ _ _ ⟨_, _, _, _, _, rfl, -⟩; exact Nat.le_of_ble_eq_true rfl) ?_
  intro X av z S I J R Post h C Q hI
  obtain ⟨k, a, d, v, cl, rfl, hK, hs, hka, hd, hd3, hp⟩ := h
  obtain ⟨hk, hk0, hk3, hk4, hk1', hk2', hk3'⟩ := hK
  refine v_lload_n C dX0_consider_0 rfl ?_
  refine v_aload_n C dX0_consider_1 rfl ?_
  first | refine gv_0_1 C (by assumption) (by assumption) wt_71 dX0_consider_2 ?_ | refine g_0_1 C (by assumption) wt_71 dX0_consider_2 ?_
  refine v_lcmp C dX0_consider_5 ?_
  refine v_lcif_le C 37 dX0_consider_6 (by decide) (fun h6 => ?_) (fun h6 => ?_)
  · refine v_ret C Q dX0_consider_37 (Nat.le_of_ble_eq_true rfl) (Nat.le_of_ble_eq_true rfl) ?_
    first | exact hp.1 (Int64.not_le.mp h6) | exact hp.2 h6
  · refine v_aload_n C dX0_consider_9 rfl ?_
    refine v_lload_n C dX0_consider_10 rfl ?_
    refine p_0_1 C (by assumption) wt_71 dX0_consider_11 ?_
    refine v_aload_n C dX0_consider_14 rfl ?_
    refine v_iload C dX0_consider_15 rfl ?_
    refine p_0_2 C (by assumption) wt_73 dX0_consider_17 ⟨nz_b2 cl, by cases cl <;> decide +kernel⟩ ?_
    refine v_aload_n C dX0_consider_20 rfl ?_
    refine g_0_3 C (by assumption) (by assumption) wt_75 dX0_consider_21 ?_
    refine v_iconstN 0 C dX0_consider_24 ?_
    refine v_aload_n C dX0_consider_25 rfl ?_
    refine g_0_0 C (by assumption) (by assumption) wt_69 dX0_consider_26 ?_
    refine v_iconstN 0 C dX0_consider_29 ?_
    refine v_aload_n C dX0_consider_30 rfl ?_
    first | refine gv_2_3 C (by assumption) ((congrFun (mu_ne _ _ (by omega)) 3).trans hd) wt_155 dX0_consider_31 ?_ | refine g_2_3 C (by assumption) wt_155 dX0_consider_31 ?_
    refine v_copyi C wt_475 wt_259 wt_258 hk2' hk1' (by omega) (by omega) (by omega) (by omega) (Nat.le_of_ble_eq_true rfl) (by decide) dX0_consider_34 ?_
    refine v_ret C Q dX0_consider_37 (Nat.le_of_ble_eq_true rfl) (Nat.le_of_ble_eq_true rfl) ?_
    first | exact hp.1 (Int64.not_le.mp h6) | exact hp.2 h6
