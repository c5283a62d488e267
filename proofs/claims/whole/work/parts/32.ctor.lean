/-! the constructors of the class's own cells -/
def s_X3_init : Sp := fun av z S I J R Post => ∃ (t : Nat), av = [.ref t] ∧ (z = t + 1) ∧ (S t = (4, 0)) ∧ (∀ (S' : MS) (I' : MI) (R' : MR), TrS S' R' t → (∀ b, ¬ (t < b ∧ b ≤ t + 3) → S' b = S b) → (∀ b k, t < b → b ≤ t + 3 → I' b k = 0) → FrS I I' (t + 1) (t + 3) → (∀ b k, b ≠ t → R' b k = R b k) → Post 0 0 none (t + 4) S' I' J R')
theorem c_X3_init {t : Nat} {z : Nat} {S : MS} {I : MI} {J : MJ} {R : MR} {Post : PT} (hz : z = t + 1) (hs : S t = (4, 0)) (hp : ∀ (S' : MS) (I' : MI) (R' : MR), TrS S' R' t → (∀ b, ¬ (t < b ∧ b ≤ t + 3) → S' b = S b) → (∀ b k, t < b → b ≤ t + 3 → I' b k = 0) → FrS I I' (t + 1) (t + 3) → (∀ b k, b ≠ t → R' b k = R b k) → Post 0 0 none (t + 4) S' I' J R') : s_X3_init [.ref t] z S I J R Post := ⟨t, rfl, hz, hs, hp⟩
set_option maxRecDepth 100000 in
set_option maxHeartbeats 1000000 in
theorem m_X3_init (T : TC) (B : Nat) : Mt T B yX3_init cX3_init 1 none 0 (rmL 2 3 18) s_X3_init := by
  refine Mt_of rfl (by rintro _ _ _ _ _ _ _ ⟨_, rfl, -⟩; exact Nat.le_of_ble_eq_true rfl) ?_
  intro X av z S I J R Post h C Q hI
  obtain ⟨t, rfl, hz, hs, hp⟩ := h
  have hI := hI rfl
  subst hz
  have e1 : su S (t + 1) 7 6 t = (4, 0) := (su_ne _ (by omega)).trans hs
  have e2 : su (su S (t + 1) 7 6) (t + 1 + 1) 7 6 t = (4, 0) := (su_ne _ (by omega)).trans e1
  have e3 : su (su (su S (t + 1) 7 6) (t + 1 + 1) 7 6) (t + 1 + 1 + 1) 7 6 t = (4, 0) := (su_ne _ (by omega)).trans e2
  refine v_aload_n C dX3_init_0 rfl ?_
  refine v_objInit C wt_26 (Nat.le_of_ble_eq_true rfl) (Nat.le_of_ble_eq_true rfl) dX3_init_1 ?_
  refine v_aload_n C dX3_init_4 rfl ?_
  refine v_bipushN 6 (by decide) C dX3_init_5 ?_
  refine v_newI C (by omega) (by decide) (by decide) dX3_init_7 ?_
  refine p_3_0 C hI (by assumption) wt_27 dX3_init_9 rfl ?_
  refine v_aload_n C dX3_init_12 rfl ?_
  refine v_bipushN 6 (by decide) C dX3_init_13 ?_
  refine v_newI C (by omega) (by decide) (by decide) dX3_init_15 ?_
  refine p_3_1 C hI (by assumption) wt_29 dX3_init_17 rfl ?_
  refine v_aload_n C dX3_init_20 rfl ?_
  refine v_bipushN 6 (by decide) C dX3_init_21 ?_
  refine v_newI C (by omega) (by decide) (by decide) dX3_init_23 ?_
  refine p_3_2 C hI (by assumption) wt_31 dX3_init_25 rfl ?_
  refine v_ret C Q dX3_init_28 (Nat.le_of_ble_eq_true rfl) (Nat.le_of_ble_eq_true rfl) ?_
  refine hp _ _ _ ⟨e3, by simp [mu], by simp [mu], by simp [mu], (su_ne _ (by omega)).trans ((su_ne _ (by omega)).trans (su_at _ _ _ _)), (su_ne _ (by omega)).trans (su_at _ _ _ _), su_at _ _ _ _⟩ (fun b hb => ?_) (fun b k h1 h2 => ?_) (fun b k hb => ?_) (fun b k hb => ?_)
  · rw [su_ne _ (by omega), su_ne _ (by omega), su_ne _ (by omega)]
  · rcases (show b = t + 3 ∨ b = t + 2 ∨ b = t + 1 by omega) with rfl | rfl | rfl
    · exact mz_at _ _ _ _
    · rw [mz_ne _ _ (by omega)]; exact mz_at _ _ _ _
    · rw [mz_ne _ _ (by omega), mz_ne _ _ (by omega)]; exact mz_at _ _ _ _
  · rw [mz_ne _ _ (by omega), mz_ne _ _ (by omega), mz_ne _ _ (by omega)]
  · rw [mu_ne _ _ hb, mu_ne _ _ hb, mu_ne _ _ hb]
def s_X1_init : Sp := fun av z S I J R Post => ∃ (t : Nat), av = [.ref t] ∧ (z = t + 1) ∧ (S t = (2, 0)) ∧ (∀ (S' : MS) (I' : MI) (R' : MR), RaS S' R' t → (∀ b, ¬ (t < b ∧ b ≤ t + 2) → S' b = S b) → FrS I I' (t + 1) (t + 2) → (∀ b k, b ≠ t → R' b k = R b k) → Post 0 0 none (t + 3) S' I' J R')
theorem c_X1_init {t : Nat} {z : Nat} {S : MS} {I : MI} {J : MJ} {R : MR} {Post : PT} (hz : z = t + 1) (hs : S t = (2, 0)) (hp : ∀ (S' : MS) (I' : MI) (R' : MR), RaS S' R' t → (∀ b, ¬ (t < b ∧ b ≤ t + 2) → S' b = S b) → FrS I I' (t + 1) (t + 2) → (∀ b k, b ≠ t → R' b k = R b k) → Post 0 0 none (t + 3) S' I' J R') : s_X1_init [.ref t] z S I J R Post := ⟨t, rfl, hz, hs, hp⟩
set_option maxRecDepth 100000 in
set_option maxHeartbeats 1000000 in
theorem m_X1_init (T : TC) (B : Nat) : Mt T B yX1_init cX1_init 1 none 0 (rmL 2 2 14) s_X1_init := by
  refine Mt_of rfl (by rintro _ _ _ _ _ _ _ ⟨_, rfl, -⟩; exact Nat.le_of_ble_eq_true rfl) ?_
  intro X av z S I J R Post h C Q hI
  obtain ⟨t, rfl, hz, hs, hp⟩ := h
  have hI := hI rfl
  subst hz
  have e1 : su S (t + 1) 7 6 t = (2, 0) := (su_ne _ (by omega)).trans hs
  have e2 : su (su S (t + 1) 7 6) (t + 1 + 1) 7 8 t = (2, 0) := (su_ne _ (by omega)).trans e1
  refine v_aload_n C dX1_init_0 rfl ?_
  refine v_objInit C wt_46 (Nat.le_of_ble_eq_true rfl) (Nat.le_of_ble_eq_true rfl) dX1_init_1 ?_
  refine v_aload_n C dX1_init_4 rfl ?_
  refine v_bipushN 6 (by decide) C dX1_init_5 ?_
  refine v_newI C (by omega) (by decide) (by decide) dX1_init_7 ?_
  refine p_1_0 C hI (by assumption) wt_47 dX1_init_9 rfl ?_
  refine v_aload_n C dX1_init_12 rfl ?_
  refine v_bipushN 8 (by decide) C dX1_init_13 ?_
  refine v_newI C (by omega) (by decide) (by decide) dX1_init_15 ?_
  refine p_1_1 C hI (by assumption) wt_48 dX1_init_17 rfl ?_
  refine v_ret C Q dX1_init_20 (Nat.le_of_ble_eq_true rfl) (Nat.le_of_ble_eq_true rfl) ?_
  refine hp _ _ _ ⟨e2, by simp [mu], by simp [mu], (su_ne _ (by omega)).trans (su_at _ _ _ _), su_at _ _ _ _⟩ (fun b hb => ?_) (fun b k hb => ?_) (fun b k hb => ?_)
  · rw [su_ne _ (by omega), su_ne _ (by omega)]
  · rw [mz_ne _ _ (by omega), mz_ne _ _ (by omega)]
  · rw [mu_ne _ _ hb, mu_ne _ _ hb]
def s_X0_init : Sp := fun av z S I J R Post => ∃ (t : Nat), av = [.ref t] ∧ (z = t + 1) ∧ (S t = (1, 0)) ∧ (∀ (S' : MS) (I' : MI) (R' : MR), CoS S' R' t → (∀ b, ¬ (t < b ∧ b ≤ t + 3) → S' b = S b) → FrS I I' (t + 1) (t + 3) → (∀ b k, b ≠ t → R' b k = R b k) → Post 0 0 none (t + 4) S' I' J R')
theorem c_X0_init {t : Nat} {z : Nat} {S : MS} {I : MI} {J : MJ} {R : MR} {Post : PT} (hz : z = t + 1) (hs : S t = (1, 0)) (hp : ∀ (S' : MS) (I' : MI) (R' : MR), CoS S' R' t → (∀ b, ¬ (t < b ∧ b ≤ t + 3) → S' b = S b) → FrS I I' (t + 1) (t + 3) → (∀ b k, b ≠ t → R' b k = R b k) → Post 0 0 none (t + 4) S' I' J R') : s_X0_init [.ref t] z S I J R Post := ⟨t, rfl, hz, hs, hp⟩
set_option maxRecDepth 100000 in
set_option maxHeartbeats 1000000 in
theorem m_X0_init (T : TC) (B : Nat) : Mt T B yX0_init cX0_init 1 none 0 (rmL 2 3 201) s_X0_init := by
  refine Mt_of rfl (by rintro _ _ _ _ _ _ _ ⟨_, rfl, -⟩; exact Nat.le_of_ble_eq_true rfl) ?_
  intro X av z S I J R Post h C Q hI
  obtain ⟨t, rfl, hz, hs, hp⟩ := h
  have hI := hI rfl
  subst hz
  have e1 : su S (t + 1) 7 3 t = (1, 0) := (su_ne _ (by omega)).trans hs
  have e2 : su (su S (t + 1) 7 3) (t + 1 + 1) 7 3 t = (1, 0) := (su_ne _ (by omega)).trans e1
  have e3 : su (su (su S (t + 1) 7 3) (t + 1 + 1) 7 3) (t + 1 + 1 + 1) 7 195 t = (1, 0) := (su_ne _ (by omega)).trans e2
  refine v_aload_n C dX0_init_0 rfl ?_
  refine v_objInit C wt_68 (Nat.le_of_ble_eq_true rfl) (Nat.le_of_ble_eq_true rfl) dX0_init_1 ?_
  refine v_aload_n C dX0_init_4 rfl ?_
  refine v_iconstN 3 C dX0_init_5 ?_
  refine v_newI C (by omega) (by decide) (by decide) dX0_init_6 ?_
  refine p_0_0 C hI (by assumption) wt_69 dX0_init_8 rfl ?_
  refine v_aload_n C dX0_init_11 rfl ?_
  refine v_iconstN 3 C dX0_init_12 ?_
  refine v_newI C (by omega) (by decide) (by decide) dX0_init_13 ?_
  refine p_0_3 C hI (by assumption) wt_75 dX0_init_15 rfl ?_
  refine v_aload_n C dX0_init_18 rfl ?_
  refine v_sipushN 195 (by decide +kernel) C dX0_init_19 ?_
  refine v_newI C (by omega) (by decide) (by decide) dX0_init_22 ?_
  refine p_0_4 C hI (by assumption) wt_76 dX0_init_24 rfl ?_
  refine v_ret C Q dX0_init_27 (Nat.le_of_ble_eq_true rfl) (Nat.le_of_ble_eq_true rfl) ?_
  refine hp _ _ _ ⟨e3, by simp [mu], by simp [mu], by simp [mu], (su_ne _ (by omega)).trans ((su_ne _ (by omega)).trans (su_at _ _ _ _)), (su_ne _ (by omega)).trans (su_at _ _ _ _), su_at _ _ _ _⟩ (fun b hb => ?_) (fun b k hb => ?_) (fun b k hb => ?_)
  · rw [su_ne _ (by omega), su_ne _ (by omega), su_ne _ (by omega)]
  · rw [mz_ne _ _ (by omega), mz_ne _ _ (by omega), mz_ne _ _ (by omega)]
  · rw [mu_ne _ _ hb, mu_ne _ _ hb, mu_ne _ _ hb]
