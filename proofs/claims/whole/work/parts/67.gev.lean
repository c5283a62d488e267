/-! GRADE: the boxes are even just if the ROWS take all values -/
def cat (w m : Nat → Nat) : Nat → Nat
  | 0 => 0
  | j + 1 => cat w m j * 2 ^ m j + w j
theorem bx_cat (P m : Nat → Nat) (p : Nat) : ∀ d, bx P m p d = cat (fun j => P j / 2 ^ (p - m j)) m d
  | 0 => rfl
  | d + 1 => by simp only [bx, cat]; rw [bx_cat P m p d]
theorem cat_congr {w w' m : Nat → Nat} : ∀ {d : Nat}, (∀ j, j < d → w j = w' j) → cat w m d = cat w' m d
  | 0, _ => rfl
  | d + 1, h => by simp only [cat]; rw [cat_congr (fun j hj => h j (by omega)), h d (by omega)]
theorem app_eq {c c' x x' M : Nat} (hx : x < M) (hx' : x' < M) (h : c * M + x = c' * M + x') : c = c' ∧ x = x' := by
  have e1 : (M * c + x) / M = (M * c' + x') / M := by rw [Nat.mul_comm M c, Nat.mul_comm M c', h]
  have e2 : (M * c + x) % M = (M * c' + x') % M := by rw [Nat.mul_comm M c, Nat.mul_comm M c', h]
  rw [Nat.mul_add_div (by omega), Nat.mul_add_div (by omega), Nat.div_eq_of_lt hx, Nat.div_eq_of_lt hx'] at e1
  rw [Nat.mul_add_mod, Nat.mul_add_mod, Nat.mod_eq_of_lt hx, Nat.mod_eq_of_lt hx'] at e2
  exact ⟨by omega, e2⟩
theorem cat_inj {w w' m : Nat → Nat} : ∀ {d : Nat}, (∀ j, j < d → w j < 2 ^ m j ∧ w' j < 2 ^ m j) → cat w m d = cat w' m d → ∀ j, j < d → w j = w' j
  | 0, _, _, j, hj => absurd hj (by omega)
  | d + 1, h, he, j, hj => by
    simp only [cat] at he
    obtain ⟨e1, e2⟩ := app_eq (h d (by omega)).1 (h d (by omega)).2 he
    by_cases c : j = d
    · rw [c]; exact e2
    · exact cat_inj (fun j hj => h j (by omega)) e1 j (by omega)
theorem cat_lt {w m : Nat → Nat} : ∀ {d : Nat}, (∀ j, j < d → w j < 2 ^ m j) → cat w m d < 2 ^ sumN m d
  | 0, _ => Nat.one_pos
  | d + 1, h => by
    have h1 := cat_lt (d := d) (fun j hj => h j (by omega))
    have h2 := h d (by omega)
    have h5 : (cat w m d + 1) * 2 ^ m d ≤ 2 ^ sumN m d * 2 ^ m d := Nat.mul_le_mul_right _ h1
    rw [Nat.add_mul, Nat.one_mul] at h5
    simp only [cat, sumN, Nat.pow_add]
    omega
theorem cat_sur {m : Nat → Nat} : ∀ {d b : Nat}, b < 2 ^ sumN m d → ∃ w, (∀ j, j < d → w j < 2 ^ m j) ∧ cat w m d = b
  | 0, b, h => by
    refine ⟨fun _ => 0, fun j hj => absurd hj (by omega), ?_⟩
    simp only [sumN, Nat.pow_zero] at h
    simp only [cat]
    omega
  | d + 1, b, h => by
    simp only [sumN, Nat.pow_add] at h
    obtain ⟨w, w1, w2⟩ := cat_sur (m := m) (d := d) (b := b / 2 ^ m d) (by rw [Nat.div_lt_iff_lt_mul (Nat.two_pow_pos _)]; exact h)
    refine ⟨upN w d (b % 2 ^ m d), fun j hj => ?_, ?_⟩
    · by_cases c : j = d
      · rw [c, upN_at]; exact Nat.mod_lt _ (Nat.two_pow_pos _)
      · rw [upN_ne _ _ c]; exact w1 j (by omega)
    · simp only [cat]
      rw [cat_congr (w' := w) (fun j hj => upN_ne _ _ (by omega)), w2, upN_at, Nat.mul_comm]
      exact Nat.div_add_mod _ _
theorem xor_app {a b x y p : Nat} (hx : x < 2 ^ p) (hy : y < 2 ^ p) : (a * 2 ^ p + x) ^^^ (b * 2 ^ p + y) = (a ^^^ b) * 2 ^ p + (x ^^^ y) := by
  have hxy : x ^^^ y < 2 ^ p := Nat.xor_lt_two_pow hx hy
  apply Nat.eq_of_testBit_eq
  intro i
  rw [Nat.testBit_xor, Nat.mul_comm a, Nat.mul_comm b, Nat.mul_comm (a ^^^ b), Nat.testBit_two_pow_mul_add _ hx, Nat.testBit_two_pow_mul_add _ hy, Nat.testBit_two_pow_mul_add _ hxy]
  by_cases h : i < p
  · rw [if_pos h, if_pos h, if_pos h, Nat.testBit_xor]
  · rw [if_neg h, if_neg h, if_neg h, Nat.testBit_xor]
theorem cat_xor {w w' m : Nat → Nat} : ∀ {d : Nat}, (∀ j, j < d → w j < 2 ^ m j ∧ w' j < 2 ^ m j) → cat (fun j => w j ^^^ w' j) m d = cat w m d ^^^ cat w' m d
  | 0, _ => by simp only [cat, Nat.xor_self]
  | d + 1, h => by
    simp only [cat]
    rw [xor_app (h d (by omega)).1 (h d (by omega)).2, cat_xor (fun j hj => h j (by omega))]
def nb (t : Nat → Nat) : Nat → Nat
  | 0 => 0
  | m + 1 => 2 * nb t m + t m % 2
theorem nb_congr {t t' : Nat → Nat} : ∀ {m : Nat}, (∀ l, l < m → t l % 2 = t' l % 2) → nb t m = nb t' m
  | 0, _ => rfl
  | m + 1, h => by simp only [nb]; rw [nb_congr (fun l hl => h l (by omega)), h m (by omega)]
theorem nb_lt (t : Nat → Nat) : ∀ m, nb t m < 2 ^ m
  | 0 => Nat.one_pos
  | m + 1 => by
    have := nb_lt t m
    simp only [nb, Nat.pow_succ]
    omega
theorem nb_inj {t t' : Nat → Nat} : ∀ {m : Nat}, nb t m = nb t' m → ∀ l, l < m → t l % 2 = t' l % 2
  | 0, _, l, hl => absurd hl (by omega)
  | m + 1, h, l, hl => by
    simp only [nb] at h
    by_cases c : l = m
    · rw [c]; omega
    · exact nb_inj (m := m) (by omega) l (by omega)
theorem nb_sur : ∀ m x, x < 2 ^ m → ∃ t, nb t m = x
  | 0, x, h => ⟨fun _ => 0, by rw [Nat.pow_zero] at h; simp only [nb]; omega⟩
  | m + 1, x, h => by
    rw [Nat.pow_succ] at h
    obtain ⟨t, ht⟩ := nb_sur m (x / 2) (by omega)
    refine ⟨upN t m (x % 2), ?_⟩
    simp only [nb]
    rw [nb_congr (t' := t) (fun l hl => by rw [upN_ne _ _ (by omega)]), ht, upN_at]
    omega
theorem pm_nb (ro : Nat → Nat) (n : Nat) : ∀ m, pm ro m n = nb (fun l => pr (ro l) n) m
  | 0 => rfl
  | m + 1 => by
    simp only [pm, nb]
    rw [pm_nb ro n m]
    have := pr_lt (ro m) n
    unfold pr at this ⊢
    omega
theorem pm_xor (ro : Nat → Nat) (n v : Nat) : ∀ m, pm ro m (n ^^^ v) = pm ro m n ^^^ pm ro m v
  | 0 => by simp only [pm, Nat.xor_self]
  | m + 1 => by
    simp only [pm]
    rw [pm_xor ro n v m, bit_xor _ _ _ _ (Nat.mod_lt _ (by decide)) (Nat.mod_lt _ (by decide)), Nat.and_xor_distrib_left, pc_xor]
    omega
theorem pm_cut (ro : Nat → Nat) (n m : Nat) : ∀ k, pm ro (m + k) n / 2 ^ k = pm ro m n
  | 0 => by rw [Nat.pow_zero, Nat.div_one, Nat.add_zero]
  | k + 1 => by
    have e : pm ro (m + (k + 1)) n / 2 = pm ro (m + k) n := by
      show (2 * pm ro (m + k) n + pc (ro (m + k) &&& n) % 2) / 2 = _
      omega
    rw [Nat.pow_succ', ← Nat.div_div_eq_div_mul, e, pm_cut ro n m k]
theorem pm_top (ro : Nat → Nat) (n : Nat) {m p : Nat} (h : m ≤ p) : pm ro p n / 2 ^ (p - m) = pm ro m n := by
  have := pm_cut ro n m (p - m)
  rw [show m + (p - m) = p by omega] at this
  exact this
theorem xor_b (x y : Nat) : x ^^^ (x ^^^ y) = y := by rw [← Nat.xor_assoc, Nat.xor_self, Nat.zero_xor]
theorem xor_c (x y : Nat) : (x ^^^ y) ^^^ y = x := by rw [Nat.xor_assoc, Nat.xor_self, Nat.xor_zero]
theorem xor_q (x y z c : Nat) : (x ^^^ (y ^^^ z)) ^^^ c = (x ^^^ c) ^^^ ((y ^^^ c) ^^^ (z ^^^ c)) := by
  apply Nat.eq_of_testBit_eq
  intro i
  simp only [Nat.testBit_xor]
  cases x.testBit i <;> cases y.testBit i <;> cases z.testBit i <;> cases c.testBit i <;> rfl
/-! sums over all points, turned -/
theorem sumN_app (f : Nat → Nat) (a : Nat) : ∀ b, sumN f (a + b) = sumN f a + sumN (fun i => f (a + i)) b
  | 0 => rfl
  | b + 1 => by
    show sumN f (a + b) + f (a + b) = sumN f a + (sumN (fun i => f (a + i)) b + f (a + b))
    rw [sumN_app f a b]
    omega
theorem sum_xor : ∀ p (f : Nat → Nat) v, v < 2 ^ p → sumN (fun n => f (n ^^^ v)) (2 ^ p) = sumN f (2 ^ p)
  | 0, f, v, h => by
    rw [Nat.pow_zero] at h ⊢
    rw [show v = 0 by omega]
    exact sumN_congr (fun i _ => by rw [Nat.xor_zero])
  | p + 1, f, v, h => by
    have e : 2 ^ (p + 1) = 2 ^ p + 2 ^ p := by rw [Nat.pow_succ]; omega
    rw [e] at h
    rw [e, sumN_app, sumN_app]
    by_cases c : v < 2 ^ p
    · rw [sum_xor p f v c]
      congr 1
      rw [← sum_xor p (fun i => f (2 ^ p + i)) v c]
      exact sumN_congr (fun n hn => by
        have hx : n ^^^ v < 2 ^ p := Nat.xor_lt_two_pow hn c
        rw [add_xor hn, add_xor hx, Nat.xor_assoc, Nat.xor_comm (2 ^ p) v, ← Nat.xor_assoc])
    · obtain ⟨u, hu⟩ : ∃ u, v = 2 ^ p + u := ⟨v - 2 ^ p, by omega⟩
      have hu2 : u < 2 ^ p := by omega
      rw [hu, Nat.add_comm]
      congr 1
      · rw [← sum_xor p f u hu2]
        exact sumN_congr (fun n hn => by
          rw [add_xor hn, add_xor hu2, Nat.xor_comm u, Nat.xor_assoc, xor_b])
      · rw [← sum_xor p (fun i => f (2 ^ p + i)) u hu2]
        exact sumN_congr (fun n hn => by
          have hx : n ^^^ u < 2 ^ p := Nat.xor_lt_two_pow hn hu2
          rw [add_xor hu2, add_xor hx, Nat.xor_assoc])
theorem sum_one {c : Nat} : ∀ {n : Nat}, sumN (fun b => b2 (decide (c = b))) n = b2 (decide (c < n))
  | 0 => by rw [decide_eq_false (by omega)]; rfl
  | n + 1 => by
    simp only [sumN]
    rw [sum_one (n := n)]
    by_cases e : c < n
    · rw [decide_eq_true e, decide_eq_true (show c < n + 1 by omega), decide_eq_false (by omega)]; rfl
    · by_cases e2 : c = n
      · rw [decide_eq_false e, decide_eq_true e2, decide_eq_true (show c < n + 1 by omega)]; rfl
      · rw [decide_eq_false e, decide_eq_false e2, decide_eq_false (show ¬ c < n + 1 by omega)]; rfl
theorem qc_all {g : Nat → Nat} {M : Nat} : ∀ {n : Nat}, (∀ i, i < n → g i < M) → sumN (fun b => qc g b n) M = n
  | 0, _ => by
    show sumN (fun _ => 0) M = 0
    exact sumN_0 M
  | n + 1, h => by
    have e : sumN (fun b => qc g b (n + 1)) M = sumN (fun b => qc g b n + b2 (decide (g n = b))) M := rfl
    rw [e, sumN_add, qc_all (fun i hi => h i (by omega)), sum_one, decide_eq_true (h n (by omega))]
    rfl
theorem sumN_c {f : Nat → Nat} {q : Nat} : ∀ {n : Nat}, (∀ i, i < n → f i = q) → sumN f n = n * q
  | 0, _ => by rw [Nat.zero_mul]; rfl
  | n + 1, h => by
    simp only [sumN]
    rw [sumN_c (fun i hi => h i (by omega)), h n (by omega), Nat.succ_mul]
theorem qc_pos {g : Nat → Nat} {b : Nat} : ∀ {n : Nat}, 0 < qc g b n → ∃ i, i < n ∧ g i = b
  | 0, h => absurd h (Nat.lt_irrefl 0)
  | n + 1, h => by
    rw [qc_s] at h
    by_cases e : g n = b
    · exact ⟨n, by omega, e⟩
    · rw [decide_eq_false e] at h
      obtain ⟨i, h1, h2⟩ := qc_pos (n := n) h
      exact ⟨i, by omega, h2⟩
/-! of a SCATTER that has ROWS -/
def tpD (D : SD) (m : Nat → Nat) (n j : Nat) : Nat := pm (rowW D j) (m j) n ^^^ D 7 j / 2 ^ (D 3 0 - m j)
section EV
variable {D : SD} {m : Nat → Nat}
theorem tp_lt (hO : OkD D) (hk : D 1 0 < 3) {j : Nat} (hm : m j ≤ D 3 0) (n : Nat) : tpD D m n j < 2 ^ m j := by
  have h7 := hO.2.2.2.2.2.2.1 (by omega)
  have h10 := hO.2.2.2.2.2.2.2.2.2.1 j
  rw [h7] at h10
  exact Nat.xor_lt_two_pow (pm_lt _ _ _) (sh_lt h10 hm)
theorem bx_tp (hk : D 1 0 < 3) (hm : ∀ j, j < D 2 0 → m j ≤ D 3 0) (n : Nat) : bx (prt D n) m (D 3 0) (D 2 0) = cat (tpD D m n) m (D 2 0) := by
  rw [bx_cat]
  refine cat_congr (fun j hj => ?_)
  show prt D n j / 2 ^ (D 3 0 - m j) = tpD D m n j
  unfold prt tpD
  rw [if_neg (by omega), if_neg (by omega), xor_div]
  congr 1
  exact pm_top (rowW D j) n (hm j hj)
theorem tp_xor (n u v j : Nat) : tpD D m (n ^^^ (u ^^^ v)) j = tpD D m n j ^^^ (tpD D m u j ^^^ tpD D m v j) := by
  unfold tpD
  rw [pm_xor, pm_xor, xor_q]
theorem bx_xor (hO : OkD D) (hk : D 1 0 < 3) (hm : ∀ j, j < D 2 0 → m j ≤ D 3 0) (n u v : Nat) : bx (prt D (n ^^^ (u ^^^ v))) m (D 3 0) (D 2 0) = bx (prt D n) m (D 3 0) (D 2 0) ^^^ (bx (prt D u) m (D 3 0) (D 2 0) ^^^ bx (prt D v) m (D 3 0) (D 2 0)) := by
  rw [bx_tp hk hm, bx_tp hk hm, bx_tp hk hm, bx_tp hk hm, ← cat_xor (fun j hj => ⟨tp_lt hO hk (hm j hj) u, tp_lt hO hk (hm j hj) v⟩), ← cat_xor (fun j hj => ⟨tp_lt hO hk (hm j hj) n, Nat.xor_lt_two_pow (tp_lt hO hk (hm j hj) u) (tp_lt hO hk (hm j hj) v)⟩)]
  exact cat_congr (fun j _ => tp_xor n u v j)
/-- all boxes that have a point have equally many -/
theorem qB_eq (hO : OkD D) (hk : D 1 0 < 3) (hm : ∀ j, j < D 2 0 → m j ≤ D 3 0) {u v : Nat} (hu : u < 2 ^ D 3 0) (hv : v < 2 ^ D 3 0) : qB D m (bx (prt D u) m (D 3 0) (D 2 0)) = qB D m (bx (prt D v) m (D 3 0) (D 2 0)) := by
  have h7 := hO.2.2.2.2.2.2.1 (by omega)
  unfold qB qc
  rw [h7, ← sum_xor (D 3 0) (fun i => b2 (decide (bx (prt D i) m (D 3 0) (D 2 0) = bx (prt D v) m (D 3 0) (D 2 0)))) (u ^^^ v) (Nat.xor_lt_two_pow hu hv)]
  refine sumN_congr (fun n _ => ?_)
  congr 1
  rw [decide_eq_decide, bx_xor hO hk hm]
  show bx (prt D n) m (D 3 0) (D 2 0) = _ ↔ _
  generalize bx (prt D n) m (D 3 0) (D 2 0) = a
  generalize bx (prt D u) m (D 3 0) (D 2 0) = b
  generalize bx (prt D v) m (D 3 0) (D 2 0) = c
  constructor
  · intro q; rw [q]; exact xor_b b c
  · intro q
    have e : (a ^^^ (b ^^^ c)) ^^^ (b ^^^ c) = c ^^^ (b ^^^ c) := by rw [q]
    rw [xor_c, Nat.xor_comm b c, xor_b] at e
    exact e
theorem Ev_iff {fr e : Nat → Nat} {K : Nat} (hO : OkD D) (hk : D 1 0 < 3) (inj : ∀ a b, a < K → b < K → fr a = fr b → a = b) (hf : ∀ i, i < K → fr i < D 2 0) (hs : sumN e K ≤ D 3 0) : Ev D fr K e ↔ Sj (rowW D) (D 3 0) fr K e := by
  have h7 := hO.2.2.2.2.2.2.1 (by omega)
  have hm : ∀ j, j < D 2 0 → mO fr e K j ≤ D 3 0 := fun j hj => by
    have h1 := sumN_ge (f := mO fr e K) hj
    rw [sum_mO inj hf] at h1
    omega
  have hc : ∀ j, j < D 2 0 → D 7 j / 2 ^ (D 3 0 - mO fr e K j) < 2 ^ mO fr e K j := fun j hj => by
    have h10 := hO.2.2.2.2.2.2.2.2.2.1 j
    rw [h7] at h10
    exact sh_lt h10 (hm j hj)
  constructor
  · intro hE t
    have wl : ∀ j, j < D 2 0 → (nb (fun l => mO fr (fun q => t q l) K j) (mO fr e K j) ^^^ D 7 j / 2 ^ (D 3 0 - mO fr e K j)) < 2 ^ mO fr e K j := fun j hj => Nat.xor_lt_two_pow (nb_lt _ _) (hc j hj)
    have hb := hE _ (cat_lt wl)
    have hpos := Nat.two_pow_pos (D 3 0)
    obtain ⟨n, hn, hnb⟩ := qc_pos (Nat.pos_of_ne_zero (fun z => by
      rw [show qB D (mO fr e K) (cat (fun j => nb (fun l => mO fr (fun q => t q l) K j) (mO fr e K j) ^^^ D 7 j / 2 ^ (D 3 0 - mO fr e K j)) (mO fr e K) (D 2 0)) = 0 from z, Nat.zero_mul] at hb
      omega))
    rw [bx_tp hk hm] at hnb
    have hw := cat_inj (fun j hj => ⟨tp_lt hO hk (hm j hj) n, wl j hj⟩) hnb
    refine ⟨n, by rw [← h7]; exact hn, fun q hq l hl => ?_⟩
    have hq1 : pm (rowW D (fr q)) (mO fr e K (fr q)) n ^^^ D 7 (fr q) / 2 ^ (D 3 0 - mO fr e K (fr q)) = nb (fun l => mO fr (fun q => t q l) K (fr q)) (mO fr e K (fr q)) ^^^ D 7 (fr q) / 2 ^ (D 3 0 - mO fr e K (fr q)) := hw (fr q) (hf q hq)
    have hq2 : pm (rowW D (fr q)) (mO fr e K (fr q)) n = nb (fun l => mO fr (fun q => t q l) K (fr q)) (mO fr e K (fr q)) := by
      have := congrArg (fun x => x ^^^ D 7 (fr q) / 2 ^ (D 3 0 - mO fr e K (fr q))) hq1
      simp only [xor_c] at this
      exact this
    rw [pm_nb] at hq2
    have hq3 : pr (rowW D (fr q) l) n % 2 = mO fr (fun q => t q l) K (fr q) % 2 := nb_inj hq2 l (by rw [mO_at inj hq]; exact hl)
    rw [mO_at inj hq] at hq3
    have := pr_lt (rowW D (fr q) l) n
    omega
  · intro hS
    have att : ∀ b, b < 2 ^ sumN (mO fr e K) (D 2 0) → ∃ u, u < 2 ^ D 3 0 ∧ bx (prt D u) (mO fr e K) (D 3 0) (D 2 0) = b := fun b hb => by
      obtain ⟨w, w1, w2⟩ := cat_sur hb
      obtain ⟨tt, htt⟩ := (Classical.skolem (b := fun _ => Nat → Nat) (p := fun (j : Nat) (t : Nat → Nat) => j < D 2 0 → nb t (mO fr e K j) = w j ^^^ D 7 j / 2 ^ (D 3 0 - mO fr e K j))).1 (fun j => by
        by_cases c : j < D 2 0
        · obtain ⟨t, ht⟩ := nb_sur _ _ (Nat.xor_lt_two_pow (w1 j c) (hc j c))
          exact ⟨t, fun _ => ht⟩
        · exact ⟨fun _ => 0, fun q => absurd q c⟩)
      obtain ⟨u, u1, u2⟩ := hS (fun q l => tt (fr q) l)
      refine ⟨u, u1, ?_⟩
      rw [bx_tp hk hm, ← w2]
      refine cat_congr (fun j hj => ?_)
      by_cases ex : ∃ q, q < K ∧ fr q = j
      · obtain ⟨q, hq, rfl⟩ := ex
        unfold tpD
        rw [pm_nb, nb_congr (t' := tt (fr q)) (fun l hl => by
          rw [mO_at inj hq] at hl
          have := u2 q hq l hl
          omega), htt _ hj, xor_c]
      · have m0 : mO fr e K j = 0 := mO_no (fun i hi q => ex ⟨i, hi, q⟩)
        have a1 := tp_lt hO hk (hm j hj) u
        have a2 := w1 j hj
        rw [m0, Nat.pow_zero] at a1 a2
        omega
    have hgl : ∀ n, n < D 4 0 → bx (prt D n) (mO fr e K) (D 3 0) (D 2 0) < 2 ^ sumN (mO fr e K) (D 2 0) := fun n _ => by
      rw [bx_tp hk hm]; exact cat_lt (fun j hj => tp_lt hO hk (hm j hj) n)
    intro b hb
    obtain ⟨v, v1, v2⟩ := att b hb
    have hall : ∀ c, c < 2 ^ sumN (mO fr e K) (D 2 0) → qB D (mO fr e K) c = qB D (mO fr e K) b := fun c hcl => by
      obtain ⟨u, u1, u2⟩ := att c hcl
      rw [← u2, ← v2]
      exact qB_eq hO hk hm u1 v1
    have h1 := sumN_c (f := fun c => qB D (mO fr e K) c) hall
    have h2 : sumN (fun c => qB D (mO fr e K) c) (2 ^ sumN (mO fr e K) (D 2 0)) = D 4 0 := qc_all hgl
    rw [Nat.mul_comm, ← h1, h2]
end EV
