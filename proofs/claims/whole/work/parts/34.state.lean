/-! the state that class and model share: how many SCATTERS, each one's numbers, and LOWS, HIGHS, MARKS, refusals, told -/
abbrev SD : Type := Nat → Nat → Nat
abbrev St : Type := Nat × (Nat → SD) × (Nat → Nat → Int32)
def upF (N : Nat → SD) (k : Nat) (D : SD) : Nat → SD := fun t => if t = k then D else N t
theorem upF_at (N : Nat → SD) (k : Nat) (D : SD) : upF N k D k = D := by simp [upF]
theorem upF_ne (N : Nat → SD) {k t : Nat} (D : SD) (h : t ≠ k) : upF N k D t = N t := by simp [upF, h]
def prt (D : SD) (n j : Nat) : Nat := if D 1 0 = 3 then n * D 8 j % D 4 0 else if D 1 0 = 4 then D 9 (6 * n + j) else pm (fun i => D 6 (j * 8 + i)) (D 3 0) n ^^^ D 7 j
def pwI (D : SD) : Int32 := if D 1 0 = 3 then -1 else nI (D 3 0)
def OkD (D : SD) : Prop := D 1 0 < 5 ∧ 1 ≤ D 2 0 ∧ D 2 0 ≤ 6 ∧ D 3 0 ≤ 8 ∧ 1 ≤ D 4 0 ∧ D 4 0 ≤ 256 ∧ (D 1 0 ≠ 3 → D 4 0 = 2 ^ D 3 0) ∧ D 5 0 ≤ 1000000 ∧ (∀ i, D 6 i < D 4 0) ∧ (∀ j, D 7 j < D 4 0) ∧ (∀ j, D 8 j < D 4 0) ∧ (∀ i, D 9 i < D 4 0)
def Ok (st : St) : Prop := st.1 ≤ 12 ∧ (∀ k, k < st.1 → OkD (st.2.1 k)) ∧ (∀ k, st.1 ≤ k → ∀ f i, st.2.1 k f i = 0)
theorem prt_lt {D : SD} (h : OkD D) (n j : Nat) : prt D n j < D 4 0 := by
  obtain ⟨h1, h2, h3, h4, h5, h6, h7, h8, h9, h10, h11, h12⟩ := h
  unfold prt
  by_cases e : D 1 0 = 3
  · rw [if_pos e]; exact Nat.mod_lt _ (by omega)
  · rw [if_neg e]
    by_cases e2 : D 1 0 = 4
    · rw [if_pos e2]; exact h12 _
    · rw [if_neg e2]
      have := h10 j
      rw [h7 e] at this ⊢
      exact Nat.xor_lt_two_pow (pm_lt _ _ _) this
def ScR (D : SD) (a : Nat) (S : MS) (I : MI) (R : MR) : Prop := ScS S R a (D 4 0) ∧ I a 0 = nI (D 1 0) ∧ I a 1 = pwI D ∧ I a 2 = nI (D 4 0) ∧ I a 3 = nI (D 2 0) ∧ I a 4 = nI (D 5 0) ∧ (∀ i, i < 48 → I (a + 1) i = nI (D 6 i)) ∧ (∀ j, j < 6 → I (a + 2) j = nI (D 7 j)) ∧ (∀ j, j < 6 → I (a + 3) j = nI (D 8 j)) ∧ (∀ n j, n < D 4 0 → j < D 2 0 → I (a + 4) (j * D 4 0 + n) = nI (prt D n j))
theorem ScR.up {D : SD} {a : Nat} {S S' : MS} {I I' : MI} {R R' : MR} (h : ScR D a S I R) (hS : ∀ b, a ≤ b → b ≤ a + 4 → S' b = S b) (hI : ∀ b k, a ≤ b → b ≤ a + 4 → I' b k = I b k) (hR : ∀ k, R' a k = R a k) : ScR D a S' I' R' := by
  obtain ⟨h0, h1, h2, h3, h4, h5, h6, h7, h8, h9⟩ := h
  exact ⟨h0.up hS hR, (hI _ _ (by omega) (by omega)).trans h1, (hI _ _ (by omega) (by omega)).trans h2, (hI _ _ (by omega) (by omega)).trans h3, (hI _ _ (by omega) (by omega)).trans h4, (hI _ _ (by omega) (by omega)).trans h5, fun i hi => (hI _ _ (by omega) (by omega)).trans (h6 i hi), fun i hi => (hI _ _ (by omega) (by omega)).trans (h7 i hi), fun i hi => (hI _ _ (by omega) (by omega)).trans (h8 i hi), fun n j e1 e2 => (hI _ _ (by omega) (by omega)).trans (h9 n j e1 e2)⟩
def RcA (x : Nat) (sa : Nat → Nat) (st : St) (z : Nat) (S : MS) (I : MI) (R : MR) : Prop := XS S R x ∧ I x 6 = nI st.1 ∧ I x 7 = st.2.2 4 0 ∧ (∀ k, k < st.1 → R (x + 1) k = some (sa k) ∧ ScR (st.2.1 k) (sa k) S I R ∧ x + 34 < sa k ∧ sa k + 4 < z) ∧ (∀ k l, k < l → l < st.1 → sa k + 4 < sa l) ∧ (∀ j, j < 6 → I (x + 3) j = st.2.2 0 j ∧ I (x + 4) j = st.2.2 1 j ∧ I (x + 5) j = st.2.2 2 j) ∧ (∀ k, k < 7 → I (x + 14) k = st.2.2 3 k) ∧ x + 34 < z
def Rc (x : Nat) (st : St) (z : Nat) (S : MS) (I : MI) (R : MR) : Prop := ∃ sa : Nat → Nat, RcA x sa st z S I R
/-- the model's cells are as they were -/
def Kp (x : Nat) (S : MS) (I : MI) (J : MJ) (R : MR) (S' : MS) (I' : MI) (J' : MJ) (R' : MR) : Prop := ∀ q, x + 15 ≤ q → q ≤ x + 34 → S' q = S q ∧ (∀ k, I' q k = I q k) ∧ (∀ k, J' q k = J q k) ∧ (∀ k, R' q k = R q k)
theorem Kp.rf {x : Nat} {S : MS} {I : MI} {J : MJ} {R : MR} : Kp x S I J R S I J R := fun _ _ _ => ⟨rfl, fun _ => rfl, fun _ => rfl, fun _ => rfl⟩
abbrev QT : Type := Nat → MS → MI → MJ → MR → Prop
def Cq (x : Nat) (st : St) (S : MS) (I : MI) (J : MJ) (R : MR) (Q : QT) : Prop := ∀ z' S' I' J' R', Rc x st z' S' I' R' → Kp x S I J R S' I' J' R' → Q z' S' I' J' R'
def rfs (st : St) (v : Int32) (k : Nat) : Int32 × St := (v, st.1, st.2.1, mu st.2.2 3 k (st.2.2 3 k + nI 1))
def rfg (st : St) (v : Int32) (k : Nat) : Int64 × St := (-1000 - v.toInt64, st.1, st.2.1, mu st.2.2 3 k (st.2.2 3 k + nI 1))
def setS (st : St) (k : Nat) (D : SD) : St := (st.1, upF st.2.1 k D, st.2.2)
def addS (st : St) (D : SD) : St := (st.1 + 1, upF st.2.1 st.1 D, st.2.2)
theorem Cq_same {x z : Nat} {st : St} {S : MS} {I : MI} {J : MJ} {R : MR} {Q : QT} (h : Rc x st z S I R) (q : Cq x st S I J R Q) : Q z S I J R := q z S I J R h Kp.rf
theorem Rc_fr {x z : Nat} {sa : Nat → Nat} {st : St} {S : MS} {I I' : MI} {R : MR} {W : Nat → Nat → Int32} (h : RcA x sa st z S I R) (hF : FrS I I' x (x + 14)) (h6 : I' x 6 = I x 6) (h7 : I' x 7 = W 4 0) (ht : ∀ j, j < 6 → I' (x + 3) j = W 0 j ∧ I' (x + 4) j = W 1 j ∧ I' (x + 5) j = W 2 j) (hr : ∀ k, k < 7 → I' (x + 14) k = W 3 k) : RcA x sa (st.1, st.2.1, W) z S I' R := by
  obtain ⟨hX, hn, htl, hsc, hord, htr, hrf, hzz⟩ := h
  refine ⟨hX, h6.trans hn, h7, fun k hk => ?_, hord, ht, hr, hzz⟩
  obtain ⟨a1, a2, a3, a4⟩ := hsc k hk
  exact ⟨a1, a2.up (fun _ _ _ => rfl) (fun b i h1 h2 => hF b i (by omega)) (fun _ => rfl), a3, a4⟩
theorem Cq_fr {x z : Nat} {sa : Nat → Nat} {st : St} {S : MS} {I I' : MI} {J J' : MJ} {R : MR} {W : Nat → Nat → Int32} {Q : QT} (h : RcA x sa st z S I R) (hF : FrS I I' x (x + 14)) (hJ : ∀ q k, x + 15 ≤ q → J' q k = J q k) (h6 : I' x 6 = I x 6) (h7 : I' x 7 = W 4 0) (ht : ∀ j, j < 6 → I' (x + 3) j = W 0 j ∧ I' (x + 4) j = W 1 j ∧ I' (x + 5) j = W 2 j) (hr : ∀ k, k < 7 → I' (x + 14) k = W 3 k) (q : Cq x (st.1, st.2.1, W) S I J R Q) : Q z S I' J' R :=
  q z S I' J' R ⟨sa, Rc_fr h hF h6 h7 ht hr⟩ (fun p h1 h2 => ⟨rfl, fun k => hF p k (by omega), fun k => hJ p k h1, fun _ => rfl⟩)
theorem Cq_rf {x z : Nat} {st : St} {S : MS} {I : MI} {J : MJ} {R : MR} {Q : QT} {k : Nat} (h : Rc x st z S I R) (hk : k < 7) (q : Cq x (st.1, st.2.1, mu st.2.2 3 k (st.2.2 3 k + nI 1)) S I J R Q) : Q z S (mu I (x + 14) k (I (x + 14) k + nI 1)) J R := by
  obtain ⟨sa, h⟩ := h
  have h0 := h
  obtain ⟨hX, hn, htl, hsc, hord, htr, hrf, hzz⟩ := h
  refine Cq_fr h0 (FrS.rf.mu (by omega) (by omega)) (fun _ _ _ => rfl) (by rw [mu_ne _ _ (by omega)]) ?_ (fun j hj => ?_) (fun i hi => ?_) q
  · rw [mu_ne _ _ (by omega), mu_ne _ _ (by omega)]; exact htl
  · rw [mu_ne _ _ (by omega), mu_ne _ _ (by omega), mu_ne _ _ (by omega), mu_ne _ _ (by omega), mu_ne _ _ (by omega), mu_ne _ _ (by omega)]; exact htr j hj
  · by_cases e : i = k
    · subst e; rw [mu_at, mu_at, hrf i hi]
    · rw [mu_other _ _ (fun p => e p.2), mu_other _ _ (fun p => e p.2)]; exact hrf i hi
/-- scratch cells alone have changed -/
theorem Cq_scr {x z : Nat} {st : St} {S : MS} {I I' : MI} {J J' : MJ} {R : MR} {Q : QT} (h : Rc x st z S I R) (hF : FrS I I' (x + 6) (x + 13)) (hJ : ∀ q k, x + 15 ≤ q → J' q k = J q k) (q : Cq x st S I J R Q) : Q z S I' J' R := by
  obtain ⟨sa, h⟩ := h
  have h0 := h
  obtain ⟨hX, hn, htl, hsc, hord, htr, hrf, hzz⟩ := h
  refine Cq_fr (W := st.2.2) h0 (hF.wide (by omega) (by omega)) hJ (hF _ _ (by omega)) ?_ (fun j hj => ?_) (fun i hi => ?_) q
  · rw [hF _ _ (by omega)]; exact htl
  · rw [hF _ _ (by omega), hF _ _ (by omega), hF _ _ (by omega)]; exact htr j hj
  · rw [hF _ _ (by omega)]; exact hrf i hi
/-- one SCATTER has changed -/
theorem Cq_set {x z k : Nat} {sa : Nat → Nat} {st : St} {S : MS} {I I' : MI} {J : MJ} {R : MR} {D : SD} {Q : QT} (h : RcA x sa st z S I R) (hk : k < st.1) (hF : FrS I I' (sa k) (sa k + 4)) (hD : ScR D (sa k) S I' R) (q : Cq x (setS st k D) S I J R Q) : Q z S I' J R := by
  have h0 := h
  obtain ⟨hX, hn, htl, hsc, hord, htr, hrf, hzz⟩ := h
  have hka := (hsc k hk).2.2.1
  refine q z S I' J R ⟨sa, hX, (hF _ _ (by omega)).trans hn, (hF _ _ (by omega)).trans htl, fun l hl => ?_, hord, fun j hj => ?_, fun i hi => (hF _ _ (by omega)).trans (hrf i hi), hzz⟩ (fun p h1 h2 => ⟨rfl, fun i => hF p i (by omega), fun i => rfl, fun _ => rfl⟩)
  · obtain ⟨a1, a2, a3, a4⟩ := hsc l hl
    by_cases e : l = k
    · subst e
      refine ⟨a1, ?_, a3, a4⟩
      show ScR (upF st.2.1 l D l) (sa l) S I' R
      rw [upF_at]; exact hD
    · refine ⟨a1, ?_, a3, a4⟩
      show ScR (upF st.2.1 k D l) (sa l) S I' R
      rw [upF_ne _ _ e]
      refine a2.up (fun _ _ _ => rfl) (fun b i h1 h2 => hF b i ?_) (fun _ => rfl)
      rcases Nat.lt_or_gt_of_ne e with g | g
      · have := hord l k g hk; omega
      · have := hord k l g hl; omega
  · obtain ⟨b1, b2, b3⟩ := htr j hj
    exact ⟨(hF _ _ (by omega)).trans b1, (hF _ _ (by omega)).trans b2, (hF _ _ (by omega)).trans b3⟩
def oB (x : Int32) (n : Nat) : Bool := decide (x < 0) || decide (nI n ≤ x)
theorem oB_iff {x : Int32} {n : Nat} : oB x n = true ↔ Oo x n := by simp [oB, Oo]
def onS {β : Type} (n : Nat) (s : Int32) (r : β) (f : Nat → β) : β := if oB s n = true then r else f (vN s)
theorem onS_o {β : Type} {n : Nat} {s : Int32} {r : β} {f : Nat → β} (h : Oo s n) : onS n s r f = r := if_pos (oB_iff.mpr h)
theorem onS_k {β : Type} {n k : Nat} {r : β} {f : Nat → β} (hk : k < n) (hn : n < 2147483648) : onS n (nI k) r f = f k := by
  unfold onS
  rw [if_neg (fun q => Oo_not hk hn (oB_iff.mp q)), vN_nI (by omega)]
theorem c_find_o {x n : Nat} {sa : Nat → Nat} {s : Int32} {z : Nat} {S : MS} {I : MI} {J : MJ} {R : MR} {Post : PT} (hX : XS S R x) (hn : I x 6 = nI n) (hn12 : n ≤ 12) (hsa : ∀ k, k < n → R (x + 1) k = some (sa k)) (ho : Oo s n) (hp : Post 0 0 none z S I J R) : s_X4_find [.ref x, .int s] z S I J R Post :=
  c_X4_find hX hn hn12 hsa ⟨fun _ => hp, fun k hk e => absurd ho (by subst e; exact Oo_not hk (by omega))⟩
theorem c_find_k {x n : Nat} {sa : Nat → Nat} {k : Nat} {z : Nat} {S : MS} {I : MI} {J : MJ} {R : MR} {Post : PT} (hX : XS S R x) (hn : I x 6 = nI n) (hn12 : n ≤ 12) (hsa : ∀ k, k < n → R (x + 1) k = some (sa k)) (hk : k < n) (hp : Post 0 0 (some (sa k)) z S I J R) : s_X4_find [.ref x, .int (nI k)] z S I J R Post :=
  c_X4_find hX hn hn12 hsa ⟨fun q => absurd q (Oo_not hk (by omega)), fun l hl e => by
    obtain rfl : k = l := (nI_eq (by omega) (by omega)).mp e
    exact hp⟩
theorem c_dir_o {a d : Nat} {j : Int32} {z : Nat} {S : MS} {I : MI} {J : MJ} {R : MR} {Post : PT} (hs : S a = (3, 0)) (hd : I a 3 = nI d) (hd6 : d ≤ 6) (ho : Oo j d) (hp : Post (nI 0) 0 none z S I J R) : s_X2_hasDirection [.ref a, .int j] z S I J R Post :=
  c_X2_hasDirection hs hd hd6 ⟨fun k hk e => absurd ho (by subst e; exact Oo_not hk (by omega)), fun _ => hp⟩
theorem c_dir_k {a d k : Nat} {z : Nat} {S : MS} {I : MI} {J : MJ} {R : MR} {Post : PT} (hs : S a = (3, 0)) (hd : I a 3 = nI d) (hd6 : d ≤ 6) (hk : k < d) (hp : Post (nI 1) 0 none z S I J R) : s_X2_hasDirection [.ref a, .int (nI k)] z S I J R Post :=
  c_X2_hasDirection hs hd hd6 ⟨fun _ _ _ => hp, fun q => absurd q (Oo_not hk (by omega))⟩
