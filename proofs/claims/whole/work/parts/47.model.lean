/-! the model -/
def MoS (S : MS) (R : MR) (M : Nat) : Prop := S M = (6, 0) ∧ R M 1 = some (M + 1) ∧ R M 2 = some (M + 2) ∧ R M 3 = some (M + 3) ∧ R M 4 = some (M + 4) ∧ R M 5 = some (M + 5) ∧ R M 6 = some (M + 6) ∧ R M 7 = some (M + 7) ∧ R M 8 = some (M + 8) ∧ R M 9 = some (M + 9) ∧ R M 10 = some (M + 10) ∧ R M 11 = some (M + 11) ∧ R M 12 = some (M + 12) ∧ R M 14 = some (M + 13) ∧ R M 15 = some (M + 14) ∧ R M 16 = some (M + 15) ∧ R M 17 = some (M + 16) ∧ R M 18 = some (M + 17) ∧ R M 19 = some (M + 18) ∧ R M 20 = some (M + 19) ∧ S (M + 1) = (7, 12) ∧ S (M + 2) = (7, 12) ∧ S (M + 3) = (7, 12) ∧ S (M + 4) = (7, 12) ∧ S (M + 5) = (7, 12) ∧ S (M + 6) = (7, 576) ∧ S (M + 7) = (7, 72) ∧ S (M + 8) = (7, 72) ∧ S (M + 9) = (7, 18432) ∧ S (M + 10) = (7, 6) ∧ S (M + 11) = (7, 6) ∧ S (M + 12) = (7, 6) ∧ S (M + 13) = (7, 7) ∧ S (M + 14) = (8, 9) ∧ S (M + 15) = (7, 65536) ∧ S (M + 16) = (7, 6) ∧ S (M + 17) = (7, 6) ∧ S (M + 18) = (7, 6) ∧ S (M + 19) = (9, 195)
def MsR (I : MI) (M s : Nat) (D : SD) : Prop := I (M + 1) s = nI (D 1 0) ∧ I (M + 2) s = nI (D 2 0) ∧ I (M + 3) s = pwI D ∧ I (M + 4) s = nI (D 4 0) ∧ I (M + 5) s = nI (D 5 0) ∧ (∀ i, i < 48 → I (M + 6) (48 * s + i) = nI (D 6 i)) ∧ (∀ j, j < 6 → I (M + 7) (6 * s + j) = nI (D 7 j)) ∧ (∀ j, j < 6 → I (M + 8) (6 * s + j) = nI (D 8 j)) ∧ (∀ i, i < 1536 → I (M + 9) (1536 * s + i) = nI (D 9 i))
def Rm (M : Nat) (st : St) (I : MI) : Prop := I M 0 = nI st.1 ∧ I M 13 = st.2.2 4 0 ∧ (∀ s, s < 12 → MsR I M s (st.2.1 s)) ∧ (∀ j, j < 6 → I (M + 10) j = st.2.2 0 j ∧ I (M + 11) j = st.2.2 1 j ∧ I (M + 12) j = st.2.2 2 j) ∧ (∀ k, k < 7 → I (M + 13) k = st.2.2 3 k)
def Mq (M : Nat) (st : St) (I : MI) (J : MJ) (Q : MI → MJ → Prop) : Prop := ∀ I' J', Rm M st I' → FrS I I' M (M + 19) → (∀ q k, q ≠ M + 14 → J' q k = J q k) → Q I' J'
theorem Mq_same {M : Nat} {st : St} {I : MI} {J : MJ} {Q : MI → MJ → Prop} (h : Rm M st I) (q : Mq M st I J Q) : Q I J := q I J h FrS.rf (fun _ _ _ => rfl)
theorem MsR.up {M s : Nat} {D : SD} {I I' : MI} (h : MsR I M s D) (hF : ∀ q k, M + 1 ≤ q → q ≤ M + 9 → I' q k = I q k) : MsR I' M s D := by
  obtain ⟨a1, a2, a3, a4, a5, a6, a7, a8, a9⟩ := h
  exact ⟨(hF _ _ (by omega) (by omega)).trans a1, (hF _ _ (by omega) (by omega)).trans a2, (hF _ _ (by omega) (by omega)).trans a3, (hF _ _ (by omega) (by omega)).trans a4, (hF _ _ (by omega) (by omega)).trans a5, fun i hi => (hF _ _ (by omega) (by omega)).trans (a6 i hi), fun i hi => (hF _ _ (by omega) (by omega)).trans (a7 i hi), fun i hi => (hF _ _ (by omega) (by omega)).trans (a8 i hi), fun i hi => (hF _ _ (by omega) (by omega)).trans (a9 i hi)⟩
theorem Mq_fr {M : Nat} {st : St} {I I' : MI} {J : MJ} {W : Nat → Nat → Int32} {Q : MI → MJ → Prop} (h : Rm M st I) (hF : FrS I I' M (M + 19)) (hq : ∀ q k, M + 1 ≤ q → q ≤ M + 9 → I' q k = I q k) (h0 : I' M 0 = I M 0) (h7 : I' M 13 = W 4 0) (ht : ∀ j, j < 6 → I' (M + 10) j = W 0 j ∧ I' (M + 11) j = W 1 j ∧ I' (M + 12) j = W 2 j) (hr : ∀ k, k < 7 → I' (M + 13) k = W 3 k) (q : Mq M (st.1, st.2.1, W) I J Q) : Q I' J := by
  obtain ⟨h1, h2, h3, h4, h5⟩ := h
  exact q I' J ⟨h0.trans h1, h7, fun s hs => (h3 s hs).up hq, ht, hr⟩ hF (fun _ _ _ => rfl)
theorem Mq_rf {M k : Nat} {st : St} {I : MI} {J : MJ} {Q : MI → MJ → Prop} (h : Rm M st I) (hk : k < 7) (q : Mq M (st.1, st.2.1, mu st.2.2 3 k (st.2.2 3 k + nI 1)) I J Q) : Q (mu I (M + 13) k (I (M + 13) k + nI 1)) J := by
  have h0 := h
  obtain ⟨h1, h2, h3, h4, h5⟩ := h
  refine Mq_fr h0 (FrS.rf.mu (by omega) (by omega)) (fun b i h1 h2 => congrFun (mu_ne _ _ (by omega)) i) (by rw [mu_ne _ _ (by omega)]) ?_ (fun j hj => ?_) (fun i hi => ?_) q
  · rw [mu_ne _ _ (by omega), mu_ne _ _ (by omega)]; exact h2
  · rw [mu_ne _ _ (by omega), mu_ne _ _ (by omega), mu_ne _ _ (by omega), mu_ne _ _ (by omega), mu_ne _ _ (by omega), mu_ne _ _ (by omega)]; exact h4 j hj
  · by_cases e : i = k
    · subst e; rw [mu_at, mu_at, h5 i hi]
    · rw [mu_other _ _ (fun p => e p.2), mu_other _ _ (fun p => e p.2)]; exact h5 i hi
/-- scratch cells alone have changed -/
theorem Mq_scr {M : Nat} {st : St} {I I' : MI} {J J' : MJ} {Q : MI → MJ → Prop} (h : Rm M st I) (hF : FrS I I' (M + 14) (M + 19)) (hJ : ∀ q k, q ≠ M + 14 → J' q k = J q k) (q : Mq M st I J Q) : Q I' J' := by
  obtain ⟨h1, h2, h3, h4, h5⟩ := h
  refine q I' J' ⟨(hF _ _ (by omega)).trans h1, (hF _ _ (by omega)).trans h2, fun s hs => ?_, fun j hj => ?_, fun i hi => (hF _ _ (by omega)).trans (h5 i hi)⟩ (hF.wide (by omega) (by omega)) hJ
  · obtain ⟨a1, a2, a3, a4, a5, a6, a7, a8, a9⟩ := h3 s hs
    exact ⟨(hF _ _ (by omega)).trans a1, (hF _ _ (by omega)).trans a2, (hF _ _ (by omega)).trans a3, (hF _ _ (by omega)).trans a4, (hF _ _ (by omega)).trans a5, fun i hi => (hF _ _ (by omega)).trans (a6 i hi), fun i hi => (hF _ _ (by omega)).trans (a7 i hi), fun i hi => (hF _ _ (by omega)).trans (a8 i hi), fun i hi => (hF _ _ (by omega)).trans (a9 i hi)⟩
  · rw [hF _ _ (by omega), hF _ _ (by omega), hF _ _ (by omega)]; exact h4 j hj
def s_X5_init : Sp := fun av z S I J R Post => ∃ (M : Nat), av = [.ref M] ∧ (z = M + 1) ∧ (S M = (6, 0)) ∧ (∀ (S' : MS) (I' : MI) (J' : MJ) (R' : MR), MoS S' R' M → (∀ b, b < M → S' b = S b) → (∀ b k, b < M → I' b k = I b k) → (∀ b k, b < M → J' b k = J b k) → (∀ b k, b < M → R' b k = R b k) → (∀ b k, M < b → b ≤ M + 13 → I' b k = 0) → I' M 0 = I M 0 → I' M 13 = I M 13 → Post 0 0 none (M + 20) S' I' J' R')
theorem c_X5_init {M : Nat} {z : Nat} {S : MS} {I : MI} {J : MJ} {R : MR} {Post : PT} (hz : z = M + 1) (hs : S M = (6, 0)) (hp : ∀ (S' : MS) (I' : MI) (J' : MJ) (R' : MR), MoS S' R' M → (∀ b, b < M → S' b = S b) → (∀ b k, b < M → I' b k = I b k) → (∀ b k, b < M → J' b k = J b k) → (∀ b k, b < M → R' b k = R b k) → (∀ b k, M < b → b ≤ M + 13 → I' b k = 0) → I' M 0 = I M 0 → I' M 13 = I M 13 → Post 0 0 none (M + 20) S' I' J' R') : s_X5_init [.ref M] z S I J R Post := ⟨M, rfl, hz, hs, hp⟩
set_option maxRecDepth 100000 in
set_option maxHeartbeats 4000000 in
theorem m_X5_init (T : TC) (B : Nat) : Mt T B yX5_init cX5_init 1 none 0 (rmL 2 19 90000) s_X5_init := by
  refine Mt_of rfl (by rintro _ _ _ _ _ _ _ ⟨_, rfl, -⟩; exact Nat.le_of_ble_eq_true rfl) ?_
  intro X av z S I J R Post h C Q hI
  obtain ⟨M, rfl, hz, hs, hp⟩ := h
  have hI := hI rfl
  subst hz
  have q1 : su S (M + 1) 7 12 M = (6, 0) := (su_ne _ (by omega)).trans hs
  have q2 : su (su S (M + 1) 7 12) (M + 1 + 1) 7 12 M = (6, 0) := (su_ne _ (by omega)).trans q1
  have q3 : su (su (su S (M + 1) 7 12) (M + 1 + 1) 7 12) (M + 1 + 1 + 1) 7 12 M = (6, 0) := (su_ne _ (by omega)).trans q2
  have q4 : su (su (su (su S (M + 1) 7 12) (M + 1 + 1) 7 12) (M + 1 + 1 + 1) 7 12) (M + 1 + 1 + 1 + 1) 7 12 M = (6, 0) := (su_ne _ (by omega)).trans q3
  have q5 : su (su (su (su (su S (M + 1) 7 12) (M + 1 + 1) 7 12) (M + 1 + 1 + 1) 7 12) (M + 1 + 1 + 1 + 1) 7 12) (M + 1 + 1 + 1 + 1 + 1) 7 12 M = (6, 0) := (su_ne _ (by omega)).trans q4
  have q6 : su (su (su (su (su (su S (M + 1) 7 12) (M + 1 + 1) 7 12) (M + 1 + 1 + 1) 7 12) (M + 1 + 1 + 1 + 1) 7 12) (M + 1 + 1 + 1 + 1 + 1) 7 12) (M + 1 + 1 + 1 + 1 + 1 + 1) 7 576 M = (6, 0) := (su_ne _ (by omega)).trans q5
  have q7 : su (su (su (su (su (su (su S (M + 1) 7 12) (M + 1 + 1) 7 12) (M + 1 + 1 + 1) 7 12) (M + 1 + 1 + 1 + 1) 7 12) (M + 1 + 1 + 1 + 1 + 1) 7 12) (M + 1 + 1 + 1 + 1 + 1 + 1) 7 576) (M + 1 + 1 + 1 + 1 + 1 + 1 + 1) 7 72 M = (6, 0) := (su_ne _ (by omega)).trans q6
  have q8 : su (su (su (su (su (su (su (su S (M + 1) 7 12) (M + 1 + 1) 7 12) (M + 1 + 1 + 1) 7 12) (M + 1 + 1 + 1 + 1) 7 12) (M + 1 + 1 + 1 + 1 + 1) 7 12) (M + 1 + 1 + 1 + 1 + 1 + 1) 7 576) (M + 1 + 1 + 1 + 1 + 1 + 1 + 1) 7 72) (M + 1 + 1 + 1 + 1 + 1 + 1 + 1 + 1) 7 72 M = (6, 0) := (su_ne _ (by omega)).trans q7
  have q9 : su (su (su (su (su (su (su (su (su S (M + 1) 7 12) (M + 1 + 1) 7 12) (M + 1 + 1 + 1) 7 12) (M + 1 + 1 + 1 + 1) 7 12) (M + 1 + 1 + 1 + 1 + 1) 7 12) (M + 1 + 1 + 1 + 1 + 1 + 1) 7 576) (M + 1 + 1 + 1 + 1 + 1 + 1 + 1) 7 72) (M + 1 + 1 + 1 + 1 + 1 + 1 + 1 + 1) 7 72) (M + 1 + 1 + 1 + 1 + 1 + 1 + 1 + 1 + 1) 7 18432 M = (6, 0) := (su_ne _ (by omega)).trans q8
  have q10 : su (su (su (su (su (su (su (su (su (su S (M + 1) 7 12) (M + 1 + 1) 7 12) (M + 1 + 1 + 1) 7 12) (M + 1 + 1 + 1 + 1) 7 12) (M + 1 + 1 + 1 + 1 + 1) 7 12) (M + 1 + 1 + 1 + 1 + 1 + 1) 7 576) (M + 1 + 1 + 1 + 1 + 1 + 1 + 1) 7 72) (M + 1 + 1 + 1 + 1 + 1 + 1 + 1 + 1) 7 72) (M + 1 + 1 + 1 + 1 + 1 + 1 + 1 + 1 + 1) 7 18432) (M + 1 + 1 + 1 + 1 + 1 + 1 + 1 + 1 + 1 + 1) 7 6 M = (6, 0) := (su_ne _ (by omega)).trans q9
  have q11 : su (su (su (su (su (su (su (su (su (su (su S (M + 1) 7 12) (M + 1 + 1) 7 12) (M + 1 + 1 + 1) 7 12) (M + 1 + 1 + 1 + 1) 7 12) (M + 1 + 1 + 1 + 1 + 1) 7 12) (M + 1 + 1 + 1 + 1 + 1 + 1) 7 576) (M + 1 + 1 + 1 + 1 + 1 + 1 + 1) 7 72) (M + 1 + 1 + 1 + 1 + 1 + 1 + 1 + 1) 7 72) (M + 1 + 1 + 1 + 1 + 1 + 1 + 1 + 1 + 1) 7 18432) (M + 1 + 1 + 1 + 1 + 1 + 1 + 1 + 1 + 1 + 1) 7 6) (M + 1 + 1 + 1 + 1 + 1 + 1 + 1 + 1 + 1 + 1 + 1) 7 6 M = (6, 0) := (su_ne _ (by omega)).trans q10
  have q12 : su (su (su (su (su (su (su (su (su (su (su (su S (M + 1) 7 12) (M + 1 + 1) 7 12) (M + 1 + 1 + 1) 7 12) (M + 1 + 1 + 1 + 1) 7 12) (M + 1 + 1 + 1 + 1 + 1) 7 12) (M + 1 + 1 + 1 + 1 + 1 + 1) 7 576) (M + 1 + 1 + 1 + 1 + 1 + 1 + 1) 7 72) (M + 1 + 1 + 1 + 1 + 1 + 1 + 1 + 1) 7 72) (M + 1 + 1 + 1 + 1 + 1 + 1 + 1 + 1 + 1) 7 18432) (M + 1 + 1 + 1 + 1 + 1 + 1 + 1 + 1 + 1 + 1) 7 6) (M + 1 + 1 + 1 + 1 + 1 + 1 + 1 + 1 + 1 + 1 + 1) 7 6) (M + 1 + 1 + 1 + 1 + 1 + 1 + 1 + 1 + 1 + 1 + 1 + 1) 7 6 M = (6, 0) := (su_ne _ (by omega)).trans q11
  have q13 : su (su (su (su (su (su (su (su (su (su (su (su (su S (M + 1) 7 12) (M + 1 + 1) 7 12) (M + 1 + 1 + 1) 7 12) (M + 1 + 1 + 1 + 1) 7 12) (M + 1 + 1 + 1 + 1 + 1) 7 12) (M + 1 + 1 + 1 + 1 + 1 + 1) 7 576) (M + 1 + 1 + 1 + 1 + 1 + 1 + 1) 7 72) (M + 1 + 1 + 1 + 1 + 1 + 1 + 1 + 1) 7 72) (M + 1 + 1 + 1 + 1 + 1 + 1 + 1 + 1 + 1) 7 18432) (M + 1 + 1 + 1 + 1 + 1 + 1 + 1 + 1 + 1 + 1) 7 6) (M + 1 + 1 + 1 + 1 + 1 + 1 + 1 + 1 + 1 + 1 + 1) 7 6) (M + 1 + 1 + 1 + 1 + 1 + 1 + 1 + 1 + 1 + 1 + 1 + 1) 7 6) (M + 1 + 1 + 1 + 1 + 1 + 1 + 1 + 1 + 1 + 1 + 1 + 1 + 1) 7 7 M = (6, 0) := (su_ne _ (by omega)).trans q12
  have q14 : su (su (su (su (su (su (su (su (su (su (su (su (su (su S (M + 1) 7 12) (M + 1 + 1) 7 12) (M + 1 + 1 + 1) 7 12) (M + 1 + 1 + 1 + 1) 7 12) (M + 1 + 1 + 1 + 1 + 1) 7 12) (M + 1 + 1 + 1 + 1 + 1 + 1) 7 576) (M + 1 + 1 + 1 + 1 + 1 + 1 + 1) 7 72) (M + 1 + 1 + 1 + 1 + 1 + 1 + 1 + 1) 7 72) (M + 1 + 1 + 1 + 1 + 1 + 1 + 1 + 1 + 1) 7 18432) (M + 1 + 1 + 1 + 1 + 1 + 1 + 1 + 1 + 1 + 1) 7 6) (M + 1 + 1 + 1 + 1 + 1 + 1 + 1 + 1 + 1 + 1 + 1) 7 6) (M + 1 + 1 + 1 + 1 + 1 + 1 + 1 + 1 + 1 + 1 + 1 + 1) 7 6) (M + 1 + 1 + 1 + 1 + 1 + 1 + 1 + 1 + 1 + 1 + 1 + 1 + 1) 7 7) (M + 1 + 1 + 1 + 1 + 1 + 1 + 1 + 1 + 1 + 1 + 1 + 1 + 1 + 1) 8 9 M = (6, 0) := (su_ne _ (by omega)).trans q13
  have q15 : su (su (su (su (su (su (su (su (su (su (su (su (su (su (su S (M + 1) 7 12) (M + 1 + 1) 7 12) (M + 1 + 1 + 1) 7 12) (M + 1 + 1 + 1 + 1) 7 12) (M + 1 + 1 + 1 + 1 + 1) 7 12) (M + 1 + 1 + 1 + 1 + 1 + 1) 7 576) (M + 1 + 1 + 1 + 1 + 1 + 1 + 1) 7 72) (M + 1 + 1 + 1 + 1 + 1 + 1 + 1 + 1) 7 72) (M + 1 + 1 + 1 + 1 + 1 + 1 + 1 + 1 + 1) 7 18432) (M + 1 + 1 + 1 + 1 + 1 + 1 + 1 + 1 + 1 + 1) 7 6) (M + 1 + 1 + 1 + 1 + 1 + 1 + 1 + 1 + 1 + 1 + 1) 7 6) (M + 1 + 1 + 1 + 1 + 1 + 1 + 1 + 1 + 1 + 1 + 1 + 1) 7 6) (M + 1 + 1 + 1 + 1 + 1 + 1 + 1 + 1 + 1 + 1 + 1 + 1 + 1) 7 7) (M + 1 + 1 + 1 + 1 + 1 + 1 + 1 + 1 + 1 + 1 + 1 + 1 + 1 + 1) 8 9) (M + 1 + 1 + 1 + 1 + 1 + 1 + 1 + 1 + 1 + 1 + 1 + 1 + 1 + 1 + 1) 7 65536 M = (6, 0) := (su_ne _ (by omega)).trans q14
  have q16 : su (su (su (su (su (su (su (su (su (su (su (su (su (su (su (su S (M + 1) 7 12) (M + 1 + 1) 7 12) (M + 1 + 1 + 1) 7 12) (M + 1 + 1 + 1 + 1) 7 12) (M + 1 + 1 + 1 + 1 + 1) 7 12) (M + 1 + 1 + 1 + 1 + 1 + 1) 7 576) (M + 1 + 1 + 1 + 1 + 1 + 1 + 1) 7 72) (M + 1 + 1 + 1 + 1 + 1 + 1 + 1 + 1) 7 72) (M + 1 + 1 + 1 + 1 + 1 + 1 + 1 + 1 + 1) 7 18432) (M + 1 + 1 + 1 + 1 + 1 + 1 + 1 + 1 + 1 + 1) 7 6) (M + 1 + 1 + 1 + 1 + 1 + 1 + 1 + 1 + 1 + 1 + 1) 7 6) (M + 1 + 1 + 1 + 1 + 1 + 1 + 1 + 1 + 1 + 1 + 1 + 1) 7 6) (M + 1 + 1 + 1 + 1 + 1 + 1 + 1 + 1 + 1 + 1 + 1 + 1 + 1) 7 7) (M + 1 + 1 + 1 + 1 + 1 + 1 + 1 + 1 + 1 + 1 + 1 + 1 + 1 + 1) 8 9) (M + 1 + 1 + 1 + 1 + 1 + 1 + 1 + 1 + 1 + 1 + 1 + 1 + 1 + 1 + 1) 7 65536) (M + 1 + 1 + 1 + 1 + 1 + 1 + 1 + 1 + 1 + 1 + 1 + 1 + 1 + 1 + 1 + 1) 7 6 M = (6, 0) := (su_ne _ (by omega)).trans q15
  have q17 : su (su (su (su (su (su (su (su (su (su (su (su (su (su (su (su (su S (M + 1) 7 12) (M + 1 + 1) 7 12) (M + 1 + 1 + 1) 7 12) (M + 1 + 1 + 1 + 1) 7 12) (M + 1 + 1 + 1 + 1 + 1) 7 12) (M + 1 + 1 + 1 + 1 + 1 + 1) 7 576) (M + 1 + 1 + 1 + 1 + 1 + 1 + 1) 7 72) (M + 1 + 1 + 1 + 1 + 1 + 1 + 1 + 1) 7 72) (M + 1 + 1 + 1 + 1 + 1 + 1 + 1 + 1 + 1) 7 18432) (M + 1 + 1 + 1 + 1 + 1 + 1 + 1 + 1 + 1 + 1) 7 6) (M + 1 + 1 + 1 + 1 + 1 + 1 + 1 + 1 + 1 + 1 + 1) 7 6) (M + 1 + 1 + 1 + 1 + 1 + 1 + 1 + 1 + 1 + 1 + 1 + 1) 7 6) (M + 1 + 1 + 1 + 1 + 1 + 1 + 1 + 1 + 1 + 1 + 1 + 1 + 1) 7 7) (M + 1 + 1 + 1 + 1 + 1 + 1 + 1 + 1 + 1 + 1 + 1 + 1 + 1 + 1) 8 9) (M + 1 + 1 + 1 + 1 + 1 + 1 + 1 + 1 + 1 + 1 + 1 + 1 + 1 + 1 + 1) 7 65536) (M + 1 + 1 + 1 + 1 + 1 + 1 + 1 + 1 + 1 + 1 + 1 + 1 + 1 + 1 + 1 + 1) 7 6) (M + 1 + 1 + 1 + 1 + 1 + 1 + 1 + 1 + 1 + 1 + 1 + 1 + 1 + 1 + 1 + 1 + 1) 7 6 M = (6, 0) := (su_ne _ (by omega)).trans q16
  have q18 : su (su (su (su (su (su (su (su (su (su (su (su (su (su (su (su (su (su S (M + 1) 7 12) (M + 1 + 1) 7 12) (M + 1 + 1 + 1) 7 12) (M + 1 + 1 + 1 + 1) 7 12) (M + 1 + 1 + 1 + 1 + 1) 7 12) (M + 1 + 1 + 1 + 1 + 1 + 1) 7 576) (M + 1 + 1 + 1 + 1 + 1 + 1 + 1) 7 72) (M + 1 + 1 + 1 + 1 + 1 + 1 + 1 + 1) 7 72) (M + 1 + 1 + 1 + 1 + 1 + 1 + 1 + 1 + 1) 7 18432) (M + 1 + 1 + 1 + 1 + 1 + 1 + 1 + 1 + 1 + 1) 7 6) (M + 1 + 1 + 1 + 1 + 1 + 1 + 1 + 1 + 1 + 1 + 1) 7 6) (M + 1 + 1 + 1 + 1 + 1 + 1 + 1 + 1 + 1 + 1 + 1 + 1) 7 6) (M + 1 + 1 + 1 + 1 + 1 + 1 + 1 + 1 + 1 + 1 + 1 + 1 + 1) 7 7) (M + 1 + 1 + 1 + 1 + 1 + 1 + 1 + 1 + 1 + 1 + 1 + 1 + 1 + 1) 8 9) (M + 1 + 1 + 1 + 1 + 1 + 1 + 1 + 1 + 1 + 1 + 1 + 1 + 1 + 1 + 1) 7 65536) (M + 1 + 1 + 1 + 1 + 1 + 1 + 1 + 1 + 1 + 1 + 1 + 1 + 1 + 1 + 1 + 1) 7 6) (M + 1 + 1 + 1 + 1 + 1 + 1 + 1 + 1 + 1 + 1 + 1 + 1 + 1 + 1 + 1 + 1 + 1) 7 6) (M + 1 + 1 + 1 + 1 + 1 + 1 + 1 + 1 + 1 + 1 + 1 + 1 + 1 + 1 + 1 + 1 + 1 + 1) 7 6 M = (6, 0) := (su_ne _ (by omega)).trans q17
  have q19 : su (su (su (su (su (su (su (su (su (su (su (su (su (su (su (su (su (su (su S (M + 1) 7 12) (M + 1 + 1) 7 12) (M + 1 + 1 + 1) 7 12) (M + 1 + 1 + 1 + 1) 7 12) (M + 1 + 1 + 1 + 1 + 1) 7 12) (M + 1 + 1 + 1 + 1 + 1 + 1) 7 576) (M + 1 + 1 + 1 + 1 + 1 + 1 + 1) 7 72) (M + 1 + 1 + 1 + 1 + 1 + 1 + 1 + 1) 7 72) (M + 1 + 1 + 1 + 1 + 1 + 1 + 1 + 1 + 1) 7 18432) (M + 1 + 1 + 1 + 1 + 1 + 1 + 1 + 1 + 1 + 1) 7 6) (M + 1 + 1 + 1 + 1 + 1 + 1 + 1 + 1 + 1 + 1 + 1) 7 6) (M + 1 + 1 + 1 + 1 + 1 + 1 + 1 + 1 + 1 + 1 + 1 + 1) 7 6) (M + 1 + 1 + 1 + 1 + 1 + 1 + 1 + 1 + 1 + 1 + 1 + 1 + 1) 7 7) (M + 1 + 1 + 1 + 1 + 1 + 1 + 1 + 1 + 1 + 1 + 1 + 1 + 1 + 1) 8 9) (M + 1 + 1 + 1 + 1 + 1 + 1 + 1 + 1 + 1 + 1 + 1 + 1 + 1 + 1 + 1) 7 65536) (M + 1 + 1 + 1 + 1 + 1 + 1 + 1 + 1 + 1 + 1 + 1 + 1 + 1 + 1 + 1 + 1) 7 6) (M + 1 + 1 + 1 + 1 + 1 + 1 + 1 + 1 + 1 + 1 + 1 + 1 + 1 + 1 + 1 + 1 + 1) 7 6) (M + 1 + 1 + 1 + 1 + 1 + 1 + 1 + 1 + 1 + 1 + 1 + 1 + 1 + 1 + 1 + 1 + 1 + 1) 7 6) (M + 1 + 1 + 1 + 1 + 1 + 1 + 1 + 1 + 1 + 1 + 1 + 1 + 1 + 1 + 1 + 1 + 1 + 1 + 1) 9 195 M = (6, 0) := (su_ne _ (by omega)).trans q18
  refine v_aload_n C dX5_init_0 rfl ?_
  refine v_objInit C wt_531 (Nat.le_of_ble_eq_true rfl) (Nat.le_of_ble_eq_true rfl) dX5_init_1 ?_
  refine v_aload_n C dX5_init_4 rfl ?_
  refine v_bipushN 12 (by decide) C dX5_init_5 ?_
  refine v_newI C (by omega) (by decide) (by decide) dX5_init_7 ?_
  refine p_5_1 C hI (by assumption) wt_534 dX5_init_9 rfl ?_
  refine v_aload_n C dX5_init_12 rfl ?_
  refine v_bipushN 12 (by decide) C dX5_init_13 ?_
  refine v_newI C (by omega) (by decide) (by decide) dX5_init_15 ?_
  refine p_5_2 C hI (by assumption) wt_535 dX5_init_17 rfl ?_
  refine v_aload_n C dX5_init_20 rfl ?_
  refine v_bipushN 12 (by decide) C dX5_init_21 ?_
  refine v_newI C (by omega) (by decide) (by decide) dX5_init_23 ?_
  refine p_5_3 C hI (by assumption) wt_536 dX5_init_25 rfl ?_
  refine v_aload_n C dX5_init_28 rfl ?_
  refine v_bipushN 12 (by decide) C dX5_init_29 ?_
  refine v_newI C (by omega) (by decide) (by decide) dX5_init_31 ?_
  refine p_5_4 C hI (by assumption) wt_537 dX5_init_33 rfl ?_
  refine v_aload_n C dX5_init_36 rfl ?_
  refine v_bipushN 12 (by decide) C dX5_init_37 ?_
  refine v_newI C (by omega) (by decide) (by decide) dX5_init_39 ?_
  refine p_5_5 C hI (by assumption) wt_538 dX5_init_41 rfl ?_
  refine v_aload_n C dX5_init_44 rfl ?_
  refine v_sipushN 576 (by decide +kernel) C dX5_init_45 ?_
  refine v_newI C (by omega) (by decide) (by decide) dX5_init_48 ?_
  refine p_5_6 C hI (by assumption) wt_539 dX5_init_50 rfl ?_
  refine v_aload_n C dX5_init_53 rfl ?_
  refine v_bipushN 72 (by decide) C dX5_init_54 ?_
  refine v_newI C (by omega) (by decide) (by decide) dX5_init_56 ?_
  refine p_5_7 C hI (by assumption) wt_540 dX5_init_58 rfl ?_
  refine v_aload_n C dX5_init_61 rfl ?_
  refine v_bipushN 72 (by decide) C dX5_init_62 ?_
  refine v_newI C (by omega) (by decide) (by decide) dX5_init_64 ?_
  refine p_5_8 C hI (by assumption) wt_541 dX5_init_66 rfl ?_
  refine v_aload_n C dX5_init_69 rfl ?_
  refine v_sipushN 18432 (by decide +kernel) C dX5_init_70 ?_
  refine v_newI C (by omega) (by decide) (by decide) dX5_init_73 ?_
  refine p_5_9 C hI (by assumption) wt_542 dX5_init_75 rfl ?_
  refine v_aload_n C dX5_init_78 rfl ?_
  refine v_bipushN 6 (by decide) C dX5_init_79 ?_
  refine v_newI C (by omega) (by decide) (by decide) dX5_init_81 ?_
  refine p_5_10 C hI (by assumption) wt_543 dX5_init_83 rfl ?_
  refine v_aload_n C dX5_init_86 rfl ?_
  refine v_bipushN 6 (by decide) C dX5_init_87 ?_
  refine v_newI C (by omega) (by decide) (by decide) dX5_init_89 ?_
  refine p_5_11 C hI (by assumption) wt_544 dX5_init_91 rfl ?_
  refine v_aload_n C dX5_init_94 rfl ?_
  refine v_bipushN 6 (by decide) C dX5_init_95 ?_
  refine v_newI C (by omega) (by decide) (by decide) dX5_init_97 ?_
  refine p_5_12 C hI (by assumption) wt_545 dX5_init_99 rfl ?_
  refine v_aload_n C dX5_init_102 rfl ?_
  refine v_bipushN 7 (by decide) C dX5_init_103 ?_
  refine v_newI C (by omega) (by decide) (by decide) dX5_init_105 ?_
  refine p_5_14 C hI (by assumption) wt_547 dX5_init_107 rfl ?_
  refine v_aload_n C dX5_init_110 rfl ?_
  refine v_bipushN 9 (by decide) C dX5_init_111 ?_
  refine v_newJ C (by omega) (by decide) (by decide) wt_597 dX5_init_113 ?_
  refine p_5_15 C hI (by assumption) wt_548 dX5_init_115 rfl ?_
  refine v_aload_n C dX5_init_118 rfl ?_
  refine v_ldc C dX5_init_119 wt_532 ?_
  refine v_eqi (x' := nI 65536) (by decide +kernel) ?_
  refine v_newI C (by omega) (by decide) (by decide) dX5_init_121 ?_
  refine p_5_16 C hI (by assumption) wt_549 dX5_init_123 rfl ?_
  refine v_aload_n C dX5_init_126 rfl ?_
  refine v_bipushN 6 (by decide) C dX5_init_127 ?_
  refine v_newI C (by omega) (by decide) (by decide) dX5_init_129 ?_
  refine p_5_17 C hI (by assumption) wt_550 dX5_init_131 rfl ?_
  refine v_aload_n C dX5_init_134 rfl ?_
  refine v_bipushN 6 (by decide) C dX5_init_135 ?_
  refine v_newI C (by omega) (by decide) (by decide) dX5_init_137 ?_
  refine p_5_18 C hI (by assumption) wt_551 dX5_init_139 rfl ?_
  refine v_aload_n C dX5_init_142 rfl ?_
  refine v_bipushN 6 (by decide) C dX5_init_143 ?_
  refine v_newI C (by omega) (by decide) (by decide) dX5_init_145 ?_
  refine p_5_19 C hI (by assumption) wt_552 dX5_init_147 rfl ?_
  refine v_aload_n C dX5_init_150 rfl ?_
  refine v_sipushN 195 (by decide +kernel) C dX5_init_151 ?_
  refine v_newZ C (by omega) (by decide) (by decide) wt_598 dX5_init_154 ?_
  refine p_5_20 C hI (by assumption) wt_553 dX5_init_156 rfl ?_
  refine v_ret C Q dX5_init_159 (Nat.le_of_ble_eq_true rfl) (Nat.le_of_ble_eq_true rfl) ?_
  refine hp _ _ _ _ ⟨q19, by simp [mu], by simp [mu], by simp [mu], by simp [mu], by simp [mu], by simp [mu], by simp [mu], by simp [mu], by simp [mu], by simp [mu], by simp [mu], by simp [mu], by simp [mu], by simp [mu], by simp [mu], by simp [mu], by simp [mu], by simp [mu], by simp [mu], ((su_ne _ (by omega)).trans ((su_ne _ (by omega)).trans ((su_ne _ (by omega)).trans ((su_ne _ (by omega)).trans ((su_ne _ (by omega)).trans ((su_ne _ (by omega)).trans ((su_ne _ (by omega)).trans ((su_ne _ (by omega)).trans ((su_ne _ (by omega)).trans ((su_ne _ (by omega)).trans ((su_ne _ (by omega)).trans ((su_ne _ (by omega)).trans ((su_ne _ (by omega)).trans ((su_ne _ (by omega)).trans ((su_ne _ (by omega)).trans ((su_ne _ (by omega)).trans ((su_ne _ (by omega)).trans ((su_ne _ (by omega)).trans (su_at _ _ _ _))))))))))))))))))), ((su_ne _ (by omega)).trans ((su_ne _ (by omega)).trans ((su_ne _ (by omega)).trans ((su_ne _ (by omega)).trans ((su_ne _ (by omega)).trans ((su_ne _ (by omega)).trans ((su_ne _ (by omega)).trans ((su_ne _ (by omega)).trans ((su_ne _ (by omega)).trans ((su_ne _ (by omega)).trans ((su_ne _ (by omega)).trans ((su_ne _ (by omega)).trans ((su_ne _ (by omega)).trans ((su_ne _ (by omega)).trans ((su_ne _ (by omega)).trans ((su_ne _ (by omega)).trans ((su_ne _ (by omega)).trans (su_at _ _ _ _)))))))))))))))))), ((su_ne _ (by omega)).trans ((su_ne _ (by omega)).trans ((su_ne _ (by omega)).trans ((su_ne _ (by omega)).trans ((su_ne _ (by omega)).trans ((su_ne _ (by omega)).trans ((su_ne _ (by omega)).trans ((su_ne _ (by omega)).trans ((su_ne _ (by omega)).trans ((su_ne _ (by omega)).trans ((su_ne _ (by omega)).trans ((su_ne _ (by omega)).trans ((su_ne _ (by omega)).trans ((su_ne _ (by omega)).trans ((su_ne _ (by omega)).trans ((su_ne _ (by omega)).trans (su_at _ _ _ _))))))))))))))))), ((su_ne _ (by omega)).trans ((su_ne _ (by omega)).trans ((su_ne _ (by omega)).trans ((su_ne _ (by omega)).trans ((su_ne _ (by omega)).trans ((su_ne _ (by omega)).trans ((su_ne _ (by omega)).trans ((su_ne _ (by omega)).trans ((su_ne _ (by omega)).trans ((su_ne _ (by omega)).trans ((su_ne _ (by omega)).trans ((su_ne _ (by omega)).trans ((su_ne _ (by omega)).trans ((su_ne _ (by omega)).trans ((su_ne _ (by omega)).trans (su_at _ _ _ _)))))))))))))))), ((su_ne _ (by omega)).trans ((su_ne _ (by omega)).trans ((su_ne _ (by omega)).trans ((su_ne _ (by omega)).trans ((su_ne _ (by omega)).trans ((su_ne _ (by omega)).trans ((su_ne _ (by omega)).trans ((su_ne _ (by omega)).trans ((su_ne _ (by omega)).trans ((su_ne _ (by omega)).trans ((su_ne _ (by omega)).trans ((su_ne _ (by omega)).trans ((su_ne _ (by omega)).trans ((su_ne _ (by omega)).trans (su_at _ _ _ _))))))))))))))), ((su_ne _ (by omega)).trans ((su_ne _ (by omega)).trans ((su_ne _ (by omega)).trans ((su_ne _ (by omega)).trans ((su_ne _ (by omega)).trans ((su_ne _ (by omega)).trans ((su_ne _ (by omega)).trans ((su_ne _ (by omega)).trans ((su_ne _ (by omega)).trans ((su_ne _ (by omega)).trans ((su_ne _ (by omega)).trans ((su_ne _ (by omega)).trans ((su_ne _ (by omega)).trans (su_at _ _ _ _)))))))))))))), ((su_ne _ (by omega)).trans ((su_ne _ (by omega)).trans ((su_ne _ (by omega)).trans ((su_ne _ (by omega)).trans ((su_ne _ (by omega)).trans ((su_ne _ (by omega)).trans ((su_ne _ (by omega)).trans ((su_ne _ (by omega)).trans ((su_ne _ (by omega)).trans ((su_ne _ (by omega)).trans ((su_ne _ (by omega)).trans ((su_ne _ (by omega)).trans (su_at _ _ _ _))))))))))))), ((su_ne _ (by omega)).trans ((su_ne _ (by omega)).trans ((su_ne _ (by omega)).trans ((su_ne _ (by omega)).trans ((su_ne _ (by omega)).trans ((su_ne _ (by omega)).trans ((su_ne _ (by omega)).trans ((su_ne _ (by omega)).trans ((su_ne _ (by omega)).trans ((su_ne _ (by omega)).trans ((su_ne _ (by omega)).trans (su_at _ _ _ _)))))))))))), ((su_ne _ (by omega)).trans ((su_ne _ (by omega)).trans ((su_ne _ (by omega)).trans ((su_ne _ (by omega)).trans ((su_ne _ (by omega)).trans ((su_ne _ (by omega)).trans ((su_ne _ (by omega)).trans ((su_ne _ (by omega)).trans ((su_ne _ (by omega)).trans ((su_ne _ (by omega)).trans (su_at _ _ _ _))))))))))), ((su_ne _ (by omega)).trans ((su_ne _ (by omega)).trans ((su_ne _ (by omega)).trans ((su_ne _ (by omega)).trans ((su_ne _ (by omega)).trans ((su_ne _ (by omega)).trans ((su_ne _ (by omega)).trans ((su_ne _ (by omega)).trans ((su_ne _ (by omega)).trans (su_at _ _ _ _)))))))))), ((su_ne _ (by omega)).trans ((su_ne _ (by omega)).trans ((su_ne _ (by omega)).trans ((su_ne _ (by omega)).trans ((su_ne _ (by omega)).trans ((su_ne _ (by omega)).trans ((su_ne _ (by omega)).trans ((su_ne _ (by omega)).trans (su_at _ _ _ _))))))))), ((su_ne _ (by omega)).trans ((su_ne _ (by omega)).trans ((su_ne _ (by omega)).trans ((su_ne _ (by omega)).trans ((su_ne _ (by omega)).trans ((su_ne _ (by omega)).trans ((su_ne _ (by omega)).trans (su_at _ _ _ _)))))))), ((su_ne _ (by omega)).trans ((su_ne _ (by omega)).trans ((su_ne _ (by omega)).trans ((su_ne _ (by omega)).trans ((su_ne _ (by omega)).trans ((su_ne _ (by omega)).trans (su_at _ _ _ _))))))), ((su_ne _ (by omega)).trans ((su_ne _ (by omega)).trans ((su_ne _ (by omega)).trans ((su_ne _ (by omega)).trans ((su_ne _ (by omega)).trans (su_at _ _ _ _)))))), ((su_ne _ (by omega)).trans ((su_ne _ (by omega)).trans ((su_ne _ (by omega)).trans ((su_ne _ (by omega)).trans (su_at _ _ _ _))))), ((su_ne _ (by omega)).trans ((su_ne _ (by omega)).trans ((su_ne _ (by omega)).trans (su_at _ _ _ _)))), ((su_ne _ (by omega)).trans ((su_ne _ (by omega)).trans (su_at _ _ _ _))), ((su_ne _ (by omega)).trans (su_at _ _ _ _)), (su_at _ _ _ _)⟩ (fun b hb => ?_) (fun b k hb => ?_) (fun b k hb => ?_) (fun b k hb => ?_) (fun b k h1 h2 => ?_) ?_ ?_
  · rw [su_ne _ (by omega), su_ne _ (by omega), su_ne _ (by omega), su_ne _ (by omega), su_ne _ (by omega), su_ne _ (by omega), su_ne _ (by omega), su_ne _ (by omega), su_ne _ (by omega), su_ne _ (by omega), su_ne _ (by omega), su_ne _ (by omega), su_ne _ (by omega), su_ne _ (by omega), su_ne _ (by omega), su_ne _ (by omega), su_ne _ (by omega), su_ne _ (by omega), su_ne _ (by omega)]
  · rw [mz_ne _ _ (by omega), mz_ne _ _ (by omega), mz_ne _ _ (by omega), mz_ne _ _ (by omega), mz_ne _ _ (by omega), mz_ne _ _ (by omega), mz_ne _ _ (by omega), mz_ne _ _ (by omega), mz_ne _ _ (by omega), mz_ne _ _ (by omega), mz_ne _ _ (by omega), mz_ne _ _ (by omega), mz_ne _ _ (by omega), mz_ne _ _ (by omega), mz_ne _ _ (by omega), mz_ne _ _ (by omega), mz_ne _ _ (by omega), mz_ne _ _ (by omega)]
  · rw [mz_ne _ _ (by omega)]
  · rw [mu_ne _ _ (by omega), mu_ne _ _ (by omega), mu_ne _ _ (by omega), mu_ne _ _ (by omega), mu_ne _ _ (by omega), mu_ne _ _ (by omega), mu_ne _ _ (by omega), mu_ne _ _ (by omega), mu_ne _ _ (by omega), mu_ne _ _ (by omega), mu_ne _ _ (by omega), mu_ne _ _ (by omega), mu_ne _ _ (by omega), mu_ne _ _ (by omega), mu_ne _ _ (by omega), mu_ne _ _ (by omega), mu_ne _ _ (by omega), mu_ne _ _ (by omega), mu_ne _ _ (by omega)]
  · rcases (show b = M + 1 ∨ b = M + 2 ∨ b = M + 3 ∨ b = M + 4 ∨ b = M + 5 ∨ b = M + 6 ∨ b = M + 7 ∨ b = M + 8 ∨ b = M + 9 ∨ b = M + 10 ∨ b = M + 11 ∨ b = M + 12 ∨ b = M + 13 by omega) with rfl | rfl | rfl | rfl | rfl | rfl | rfl | rfl | rfl | rfl | rfl | rfl | rfl
    · rw [mz_ne _ _ (by omega), mz_ne _ _ (by omega), mz_ne _ _ (by omega), mz_ne _ _ (by omega), mz_ne _ _ (by omega), mz_ne _ _ (by omega), mz_ne _ _ (by omega), mz_ne _ _ (by omega), mz_ne _ _ (by omega), mz_ne _ _ (by omega), mz_ne _ _ (by omega), mz_ne _ _ (by omega), mz_ne _ _ (by omega), mz_ne _ _ (by omega), mz_ne _ _ (by omega), mz_ne _ _ (by omega), mz_ne _ _ (by omega)]; exact mz_at _ _ _ _
    · rw [mz_ne _ _ (by omega), mz_ne _ _ (by omega), mz_ne _ _ (by omega), mz_ne _ _ (by omega), mz_ne _ _ (by omega), mz_ne _ _ (by omega), mz_ne _ _ (by omega), mz_ne _ _ (by omega), mz_ne _ _ (by omega), mz_ne _ _ (by omega), mz_ne _ _ (by omega), mz_ne _ _ (by omega), mz_ne _ _ (by omega), mz_ne _ _ (by omega), mz_ne _ _ (by omega), mz_ne _ _ (by omega)]; exact mz_at _ _ _ _
    · rw [mz_ne _ _ (by omega), mz_ne _ _ (by omega), mz_ne _ _ (by omega), mz_ne _ _ (by omega), mz_ne _ _ (by omega), mz_ne _ _ (by omega), mz_ne _ _ (by omega), mz_ne _ _ (by omega), mz_ne _ _ (by omega), mz_ne _ _ (by omega), mz_ne _ _ (by omega), mz_ne _ _ (by omega), mz_ne _ _ (by omega), mz_ne _ _ (by omega), mz_ne _ _ (by omega)]; exact mz_at _ _ _ _
    · rw [mz_ne _ _ (by omega), mz_ne _ _ (by omega), mz_ne _ _ (by omega), mz_ne _ _ (by omega), mz_ne _ _ (by omega), mz_ne _ _ (by omega), mz_ne _ _ (by omega), mz_ne _ _ (by omega), mz_ne _ _ (by omega), mz_ne _ _ (by omega), mz_ne _ _ (by omega), mz_ne _ _ (by omega), mz_ne _ _ (by omega), mz_ne _ _ (by omega)]; exact mz_at _ _ _ _
    · rw [mz_ne _ _ (by omega), mz_ne _ _ (by omega), mz_ne _ _ (by omega), mz_ne _ _ (by omega), mz_ne _ _ (by omega), mz_ne _ _ (by omega), mz_ne _ _ (by omega), mz_ne _ _ (by omega), mz_ne _ _ (by omega), mz_ne _ _ (by omega), mz_ne _ _ (by omega), mz_ne _ _ (by omega), mz_ne _ _ (by omega)]; exact mz_at _ _ _ _
    · rw [mz_ne _ _ (by omega), mz_ne _ _ (by omega), mz_ne _ _ (by omega), mz_ne _ _ (by omega), mz_ne _ _ (by omega), mz_ne _ _ (by omega), mz_ne _ _ (by omega), mz_ne _ _ (by omega), mz_ne _ _ (by omega), mz_ne _ _ (by omega), mz_ne _ _ (by omega), mz_ne _ _ (by omega)]; exact mz_at _ _ _ _
    · rw [mz_ne _ _ (by omega), mz_ne _ _ (by omega), mz_ne _ _ (by omega), mz_ne _ _ (by omega), mz_ne _ _ (by omega), mz_ne _ _ (by omega), mz_ne _ _ (by omega), mz_ne _ _ (by omega), mz_ne _ _ (by omega), mz_ne _ _ (by omega), mz_ne _ _ (by omega)]; exact mz_at _ _ _ _
    · rw [mz_ne _ _ (by omega), mz_ne _ _ (by omega), mz_ne _ _ (by omega), mz_ne _ _ (by omega), mz_ne _ _ (by omega), mz_ne _ _ (by omega), mz_ne _ _ (by omega), mz_ne _ _ (by omega), mz_ne _ _ (by omega), mz_ne _ _ (by omega)]; exact mz_at _ _ _ _
    · rw [mz_ne _ _ (by omega), mz_ne _ _ (by omega), mz_ne _ _ (by omega), mz_ne _ _ (by omega), mz_ne _ _ (by omega), mz_ne _ _ (by omega), mz_ne _ _ (by omega), mz_ne _ _ (by omega), mz_ne _ _ (by omega)]; exact mz_at _ _ _ _
    · rw [mz_ne _ _ (by omega), mz_ne _ _ (by omega), mz_ne _ _ (by omega), mz_ne _ _ (by omega), mz_ne _ _ (by omega), mz_ne _ _ (by omega), mz_ne _ _ (by omega), mz_ne _ _ (by omega)]; exact mz_at _ _ _ _
    · rw [mz_ne _ _ (by omega), mz_ne _ _ (by omega), mz_ne _ _ (by omega), mz_ne _ _ (by omega), mz_ne _ _ (by omega), mz_ne _ _ (by omega), mz_ne _ _ (by omega)]; exact mz_at _ _ _ _
    · rw [mz_ne _ _ (by omega), mz_ne _ _ (by omega), mz_ne _ _ (by omega), mz_ne _ _ (by omega), mz_ne _ _ (by omega), mz_ne _ _ (by omega)]; exact mz_at _ _ _ _
    · rw [mz_ne _ _ (by omega), mz_ne _ _ (by omega), mz_ne _ _ (by omega), mz_ne _ _ (by omega), mz_ne _ _ (by omega)]; exact mz_at _ _ _ _
  · rw [mz_ne _ _ (by omega), mz_ne _ _ (by omega), mz_ne _ _ (by omega), mz_ne _ _ (by omega), mz_ne _ _ (by omega), mz_ne _ _ (by omega), mz_ne _ _ (by omega), mz_ne _ _ (by omega), mz_ne _ _ (by omega), mz_ne _ _ (by omega), mz_ne _ _ (by omega), mz_ne _ _ (by omega), mz_ne _ _ (by omega), mz_ne _ _ (by omega), mz_ne _ _ (by omega), mz_ne _ _ (by omega), mz_ne _ _ (by omega), mz_ne _ _ (by omega)]
  · rw [mz_ne _ _ (by omega), mz_ne _ _ (by omega), mz_ne _ _ (by omega), mz_ne _ _ (by omega), mz_ne _ _ (by omega), mz_ne _ _ (by omega), mz_ne _ _ (by omega), mz_ne _ _ (by omega), mz_ne _ _ (by omega), mz_ne _ _ (by omega), mz_ne _ _ (by omega), mz_ne _ _ (by omega), mz_ne _ _ (by omega), mz_ne _ _ (by omega), mz_ne _ _ (by omega), mz_ne _ _ (by omega), mz_ne _ _ (by omega), mz_ne _ _ (by omega)]
