theorem TrS.up {S S' : MS} {R R' : MR} {t : Nat} (h : TrS S R t) (hS : ∀ b, t ≤ b → b ≤ t + 3 → S' b = S b) (hR : ∀ k, R' t k = R t k) : TrS S' R' t := by
  obtain ⟨a1, a2, a3, a4, a5, a6, a7⟩ := h
  exact ⟨(hS _ (by omega) (by omega)).trans a1, (hR _).trans a2, (hR _).trans a3, (hR _).trans a4, (hS _ (by omega) (by omega)).trans a5, (hS _ (by omega) (by omega)).trans a6, (hS _ (by omega) (by omega)).trans a7⟩
theorem RaS.up {S S' : MS} {R R' : MR} {t : Nat} (h : RaS S R t) (hS : ∀ b, t ≤ b → b ≤ t + 2 → S' b = S b) (hR : ∀ k, R' t k = R t k) : RaS S' R' t := by
  obtain ⟨a1, a2, a3, a4, a5⟩ := h
  exact ⟨(hS _ (by omega) (by omega)).trans a1, (hR _).trans a2, (hR _).trans a3, (hS _ (by omega) (by omega)).trans a4, (hS _ (by omega) (by omega)).trans a5⟩
theorem CoS.up {S S' : MS} {R R' : MR} {t : Nat} (h : CoS S R t) (hS : ∀ b, t ≤ b → b ≤ t + 3 → S' b = S b) (hR : ∀ k, R' t k = R t k) : CoS S' R' t := by
  obtain ⟨a1, a2, a3, a4, a5, a6, a7⟩ := h
  exact ⟨(hS _ (by omega) (by omega)).trans a1, (hR _).trans a2, (hR _).trans a3, (hR _).trans a4, (hS _ (by omega) (by omega)).trans a5, (hS _ (by omega) (by omega)).trans a6, (hS _ (by omega) (by omega)).trans a7⟩
theorem ScS.up {S S' : MS} {R R' : MR} {t c : Nat} (h : ScS S R t c) (hS : ∀ b, t ≤ b → b ≤ t + 4 → S' b = S b) (hR : ∀ k, R' t k = R t k) : ScS S' R' t c := by
  obtain ⟨a1, a2, a3, a4, a5, a6, a7, a8, a9, a10, a11⟩ := h
  exact ⟨(hS _ (by omega) (by omega)).trans a1, (hR _).trans a2, (hR _).trans a3, (hR _).trans a4, (hR _).trans a5, (hS _ (by omega) (by omega)).trans a6, (hS _ (by omega) (by omega)).trans a7, (hS _ (by omega) (by omega)).trans a8, (hS _ (by omega) (by omega)).trans a9, a10, a11⟩
theorem XS.up {S S' : MS} {R R' : MR} {x : Nat} (h : XS S R x) (hS : ∀ b, x ≤ b → b ≤ x + 14 → S' b = S b) (hR : ∀ b k, x ≤ b → b ≤ x + 14 → b ≠ x + 1 → R' b k = R b k) : XS S' R' x := by
  obtain ⟨a1, a2, a3, a4, a5, a6, a7, a8, a9, a10, a11, a12, a13⟩ := h
  exact ⟨(hS _ (by omega) (by omega)).trans a1, (hR _ _ (by omega) (by omega) (by omega)).trans a2, (hR _ _ (by omega) (by omega) (by omega)).trans a3, (hR _ _ (by omega) (by omega) (by omega)).trans a4, (hR _ _ (by omega) (by omega) (by omega)).trans a5, (hR _ _ (by omega) (by omega) (by omega)).trans a6, (hR _ _ (by omega) (by omega) (by omega)).trans a7, (hS _ (by omega) (by omega)).trans a8, a9.up (fun b h1 h2 => hS b (by omega) (by omega)) (fun k => hR _ k (by omega) (by omega) (by omega)), a10.up (fun b h1 h2 => hS b (by omega) (by omega)) (fun k => hR _ k (by omega) (by omega) (by omega)), (hS _ (by omega) (by omega)).trans a11, a12.up (fun b h1 h2 => hS b (by omega) (by omega)) (fun k => hR _ k (by omega) (by omega) (by omega)), (hS _ (by omega) (by omega)).trans a13⟩
def s_X4_init : Sp := fun av z S I J R Post => ∃ (x : Nat), av = [.ref x] ∧ (z = x + 1) ∧ (S x = (5, 0)) ∧ (∀ (S' : MS) (I' : MI) (J' : MJ) (R' : MR), XS S' R' x → (∀ b, ¬ (x < b ∧ b ≤ x + 14) → S' b = S b) → I' x 6 = nI 0 → I' x 7 = nI 0 → (∀ b k, b = x + 3 ∨ b = x + 4 ∨ b = x + 5 ∨ b = x + 14 → I' b k = 0) → Post 0 0 none (x + 15) S' I' J' R')
theorem c_X4_init {x : Nat} {z : Nat} {S : MS} {I : MI} {J : MJ} {R : MR} {Post : PT} (hz : z = x + 1) (hs : S x = (5, 0)) (hp : ∀ (S' : MS) (I' : MI) (J' : MJ) (R' : MR), XS S' R' x → (∀ b, ¬ (x < b ∧ b ≤ x + 14) → S' b = S b) → I' x 6 = nI 0 → I' x 7 = nI 0 → (∀ b k, b = x + 3 ∨ b = x + 4 ∨ b = x + 5 ∨ b = x + 14 → I' b k = 0) → Post 0 0 none (x + 15) S' I' J' R') : s_X4_init [.ref x] z S I J R Post := ⟨x, rfl, hz, hs, hp⟩
set_option maxRecDepth 100000 in
set_option maxHeartbeats 2000000 in
theorem m_X4_init (T : TC) (B : Nat) : Mt T B yX4_init cX4_init 1 none 0 (rmL 3 14 5180) s_X4_init := by
  refine Mt_of rfl (by rintro _ _ _ _ _ _ _ ⟨_, rfl, -⟩; exact Nat.le_of_ble_eq_true rfl) ?_
  intro X av z S I J R Post h C Q hI
  obtain ⟨x, rfl, hz, hs, hp⟩ := h
  have hI := hI rfl
  subst hz
  have e1 : su S (x + 1) 10 12 x = (5, 0) := (su_ne _ (by omega)).trans hs
  refine v_aload_n C dX4_init_0 rfl ?_
  refine v_objInit C wt_16 (Nat.le_of_ble_eq_true rfl) (Nat.le_of_ble_eq_true rfl) dX4_init_1 ?_
  refine v_aload_n C dX4_init_4 rfl ?_
  refine v_bipushN 12 (by decide) C dX4_init_5 ?_
  refine v_newR C (by omega) (by decide) (by decide) wt_19 dX4_init_7 ?_
  refine p_4_0 C hI (by assumption) wt_94 dX4_init_10 rfl ?_
  refine v_aload_n C dX4_init_13 rfl ?_
  refine n_3 C wt_21 (by decide) (by decide) dX4_init_14 ?_
  refine v_dup C dX4_init_17 rfl ?_
  refine v_callIN0 C (m_X3_init T B) (fun _ h => h.2.2.1) lk_X4_17 rfl wt_24 dX4_init_18 ⟨Nat.le_of_ble_eq_true rfl, Nat.le_of_ble_eq_true rfl⟩ (Nat.le_of_ble_eq_true rfl) ⟨Nat.le_of_ble_eq_true rfl, Nat.le_of_ble_eq_true rfl⟩ ?_
  refine c_X3_init rfl (su_at _ _ _ _) (fun S1 I1 R1 t1 t2 t3 t4 t5 => ?_)
  have f1 : S1 x = (5, 0) := (t2 x (by omega)).trans ((su_ne _ (by omega)).trans e1)
  refine p_4_1 C hI (by assumption) wt_95 dX4_init_21 rfl ?_
  refine v_aload_n C dX4_init_24 rfl ?_
  refine n_1 C wt_41 (by decide) (by decide) dX4_init_25 ?_
  refine v_dup C dX4_init_28 rfl ?_
  refine v_callIN0 C (m_X1_init T B) (fun _ h => h.2.2.2.1) lk_X4_24 rfl wt_44 dX4_init_29 ⟨Nat.le_of_ble_eq_true rfl, Nat.le_of_ble_eq_true rfl⟩ (Nat.le_of_ble_eq_true rfl) ⟨Nat.le_of_ble_eq_true rfl, Nat.le_of_ble_eq_true rfl⟩ ?_
  refine c_X1_init rfl (su_at _ _ _ _) (fun S2 I2 R2 r1 r2 r4 r5 => ?_)
  have f2 : S2 x = (5, 0) := (r2 x (by omega)).trans ((su_ne _ (by omega)).trans f1)
  refine p_4_2 C hI (by assumption) wt_96 dX4_init_32 rfl ?_
  refine v_aload_n C dX4_init_35 rfl ?_
  refine v_sipushN 4913 (by decide +kernel) C dX4_init_36 ?_
  refine v_newI C (by omega) (by decide) (by decide) dX4_init_39 ?_
  have f2b : su S2 (x + 9) 7 4913 x = (5, 0) := (su_ne _ (by omega)).trans f2
  refine p_4_3 C hI (by assumption) wt_97 dX4_init_41 rfl ?_
  refine v_aload_n C dX4_init_44 rfl ?_
  refine n_0 C wt_63 (by decide) (by decide) dX4_init_45 ?_
  refine v_dup C dX4_init_48 rfl ?_
  refine v_callIN0 C (m_X0_init T B) (fun _ h => h.2.2.2.2.1) lk_X4_35 rfl wt_66 dX4_init_49 ⟨Nat.le_of_ble_eq_true rfl, Nat.le_of_ble_eq_true rfl⟩ (Nat.le_of_ble_eq_true rfl) ⟨Nat.le_of_ble_eq_true rfl, Nat.le_of_ble_eq_true rfl⟩ ?_
  refine c_X0_init rfl (su_at _ _ _ _) (fun S3 I3 R3 k1 k2 k4 k5 => ?_)
  have f3 : S3 x = (5, 0) := (k2 x (by omega)).trans ((su_ne _ (by omega)).trans f2b)
  refine p_4_4 C hI (by assumption) wt_98 dX4_init_52 rfl ?_
  refine v_aload_n C dX4_init_55 rfl ?_
  refine v_bipushN 7 (by decide) C dX4_init_56 ?_
  refine v_newI C (by omega) (by decide) (by decide) dX4_init_58 ?_
  have f4 : su S3 (x + 14) 7 7 x = (5, 0) := (su_ne _ (by omega)).trans f3
  refine p_4_5 C hI (by assumption) wt_99 dX4_init_60 rfl ?_
  refine v_aload_n C dX4_init_63 rfl ?_
  refine v_iconstN 0 C dX4_init_64 ?_
  refine p_4_6 C (by assumption) wt_100 dX4_init_65 ?_
  refine v_aload_n C dX4_init_68 rfl ?_
  refine v_iconstN 0 C dX4_init_69 ?_
  refine p_4_7 C (by assumption) wt_101 dX4_init_70 ?_
  refine v_ret C Q dX4_init_73 (Nat.le_of_ble_eq_true rfl) (Nat.le_of_ble_eq_true rfl) ?_
  have zS : ∀ b, x ≤ b → b ≤ x + 9 → su S3 (x + 14) 7 7 b = su S2 (x + 9) 7 4913 b := fun b h1 h2 => by rw [su_ne _ (by omega), k2 b (by omega), su_ne _ (by omega)]
  have z2 : ∀ b, x ≤ b → b ≤ x + 5 → su S3 (x + 14) 7 7 b = S1 b := fun b h1 h2 => by rw [zS b h1 (by omega), su_ne _ (by omega), r2 b (by omega), su_ne _ (by omega)]
  have a1 := fun k => k5 x k (by omega)
  have a2 := fun k => r5 x k (by omega)
  have a3 := fun k => t5 x k (by omega)
  refine hp _ _ _ _ ⟨f4, ?_, ?_, ?_, ?_, ?_, ?_, ?_, ?_, ?_, ?_, ?_, ?_⟩ ?_ ?_ ?_ ?_
  · simp [mu, mz, a1, a2, a3] <;> omega
  · simp [mu, mz, a1, a2, a3] <;> omega
  · simp [mu, mz, a1, a2, a3] <;> omega
  · simp [mu, mz, a1, a2, a3] <;> omega
  · simp [mu, mz, a1, a2, a3] <;> omega
  · simp [mu, mz, a1, a2, a3] <;> omega
  · rw [z2 _ (by omega) (by omega), t2 _ (by omega), su_ne _ (by omega), su_at]
  · refine t1.up (fun b h1 h2 => z2 b (by omega) (by omega)) (fun k => ?_)
    rw [mu_ne _ _ (by omega), mu_ne _ _ (by omega), k5 _ _ (by omega), mz_ne _ _ (by omega), mu_ne _ _ (by omega), mu_ne _ _ (by omega), r5 _ _ (by omega), mz_ne _ _ (by omega), mu_ne _ _ (by omega)]
  · refine r1.up (fun b h1 h2 => ?_) (fun k => ?_)
    · rw [zS b (by omega) (by omega), su_ne _ (by omega)]
    · rw [mu_ne _ _ (by omega), mu_ne _ _ (by omega), k5 _ _ (by omega), mz_ne _ _ (by omega), mu_ne _ _ (by omega), mu_ne _ _ (by omega)]
  · rw [zS _ (by omega) (by omega)]; exact su_at _ _ _ _
  · refine k1.up (fun b h1 h2 => su_ne _ (by omega)) (fun k => ?_)
    rw [mu_ne _ _ (by omega), mu_ne _ _ (by omega)]
  · exact su_at _ _ _ _
  · intro b hb
    rw [su_ne _ (by omega), k2 b (by omega), su_ne _ (by omega), su_ne _ (by omega), r2 b (by omega), su_ne _ (by omega), t2 b (by omega), su_ne _ (by omega), su_ne _ (by omega)]
  · rw [mu_other _ _ (by omega)]; exact mu_at _ _ _ _
  · exact mu_at _ _ _ _
  · intro b k hb
    rw [mu_ne _ _ (by omega), mu_ne _ _ (by omega)]
    by_cases e : b = x + 14
    · subst e; exact mz_at _ _ _ _
    · rw [mz_ne _ _ e, k4 b k (by omega), mz_ne _ _ (by omega), mz_ne _ _ (by omega), r4 b k (by omega), mz_ne _ _ (by omega)]
      exact t3 b k (by omega) (by omega)
