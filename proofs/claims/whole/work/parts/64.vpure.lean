/-! signed sums -/
def sgI (k : Nat) : Int := if k % 2 = 0 then 1 else -1
def sumI (f : Nat → Int) : Nat → Int
  | 0 => 0
  | n + 1 => sumI f n + f n
theorem sumI_congr {f g : Nat → Int} : ∀ {n : Nat}, (∀ i, i < n → f i = g i) → sumI f n = sumI g n
  | 0, _ => rfl
  | n + 1, h => by simp only [sumI]; rw [sumI_congr (fun i hi => h i (by omega)), h n (by omega)]
theorem sumI_add (f g : Nat → Int) : ∀ n, sumI (fun i => f i + g i) n = sumI f n + sumI g n
  | 0 => rfl
  | n + 1 => by simp only [sumI, sumI_add f g n]; omega
theorem sumI_sub (f g : Nat → Int) : ∀ n, sumI (fun i => f i - g i) n = sumI f n - sumI g n
  | 0 => rfl
  | n + 1 => by simp only [sumI, sumI_sub f g n]; omega
theorem sumI_nat (f : Nat → Nat) : ∀ n, sumI (fun i => (f i : Int)) n = (sumN f n : Int)
  | 0 => rfl
  | n + 1 => by simp only [sumI, sumN, sumI_nat f n, Int.natCast_add]
theorem sumI_bd {f : Nat → Int} : ∀ {n : Nat}, (∀ i, i < n → (f i).natAbs ≤ 1) → (sumI f n).natAbs ≤ n
  | 0, _ => Nat.le_refl 0
  | n + 1, h => by
    have h1 := sumI_bd (n := n) (fun i hi => h i (by omega))
    have h2 := h n (by omega)
    simp only [sumI]
    omega
theorem sgI_bd (k : Nat) : (sgI k).natAbs ≤ 1 := by unfold sgI; split <;> decide
theorem wvL_is (f : Nat → Nat) : ∀ n, wvL f n = Int64.ofInt (sumI (fun i => sgI (f i)) n)
  | 0 => rfl
  | n + 1 => by
    simp only [wvL, sumI]
    rw [wvL_is f n, Int64.ofInt_add]
    congr 1
    unfold sgI
    rcases Nat.mod_two_eq_zero_or_one (f n) with e | e
    · rw [pm1_0 e, if_pos e]; rfl
    · rw [pm1_1 e, if_neg (by omega)]; rfl
theorem ofI_0 {z : Int} (h : z.natAbs ≤ 256) : Int64.ofInt z = lN 0 ↔ z = 0 := by
  constructor
  · intro q
    have e := Int64.toInt_ofInt_of_le (n := z) (by omega) (by omega)
    rw [q] at e
    have : (lN 0).toInt = 0 := rfl
    omega
  · intro q; subst q; rfl
theorem iZ_0 {z : Int} (h : z.natAbs ≤ 256) : iZ z = 0 ↔ z = 0 := by
  constructor
  · intro q
    have e := Int32.toInt_ofInt_of_le (n := z) (by omega) (by omega)
    rw [show Int32.ofInt z = 0 from q] at e
    have : (0 : Int32).toInt = 0 := rfl
    omega
  · intro q; subst q; rfl
/-! the Walsh transform's sums -/
def bp (g v : Nat) : Nat → Nat
  | 0 => 0
  | k + 1 => bp g v k + (g / 2 ^ k % 2) * (v / 2 ^ k % 2)
theorem low_bit {v k i : Nat} (h : i < k) : (v + 2 ^ k) / 2 ^ i % 2 = v / 2 ^ i % 2 := by
  have e : 2 ^ k = 2 ^ i * (2 * 2 ^ (k - i - 1)) := by
    rw [← Nat.pow_succ', ← Nat.pow_add]; congr 1; omega
  rw [e, Nat.add_mul_div_left _ _ (Nat.two_pow_pos i), Nat.add_mul_mod_self_left]
theorem bp_up {g v k : Nat} : ∀ i, i ≤ k → bp g (v + 2 ^ k) i = bp g v i
  | 0, _ => rfl
  | i + 1, h => by
    simp only [bp]
    rw [bp_up i (by omega), low_bit (by omega)]
def tau (k v g : Nat) : Int := if g / 2 ^ k = v / 2 ^ k then sgI (bp g v k) else 0
theorem half {g k : Nat} : g / 2 ^ (k + 1) = g / 2 ^ k / 2 := by rw [Nat.pow_succ, ← Nat.div_div_eq_div_mul]
theorem up_div (v k : Nat) : (v + 2 ^ k) / 2 ^ k = v / 2 ^ k + 1 := Nat.add_div_right _ (Nat.two_pow_pos k)
theorem tau_0 {v k : Nat} (g : Nat) (h : v / 2 ^ k % 2 = 0) : tau (k + 1) v g = tau k v g + tau k (v + 2 ^ k) g := by
  unfold tau
  rw [half, half, up_div, bp_up k (Nat.le_refl k)]
  simp only [bp, h, Nat.mul_zero, Nat.add_zero]
  generalize hg : g / 2 ^ k = G at *
  generalize hw : v / 2 ^ k = W at *
  by_cases e1 : G = W
  · rw [if_pos (by omega), if_pos e1, if_neg (by omega)]; omega
  · by_cases e2 : G = W + 1
    · rw [if_pos (by omega), if_neg e1, if_pos e2]; omega
    · rw [if_neg (by omega), if_neg e1, if_neg e2]; rfl
theorem sgI_s (k : Nat) : sgI (k + 1) = - sgI k := by
  unfold sgI
  by_cases e : k % 2 = 0
  · rw [if_neg (by omega), if_pos e]
  · rw [if_pos (by omega), if_neg e]; rfl
theorem tau_1 {v k : Nat} (g : Nat) (h : ¬ v / 2 ^ k % 2 = 0) : tau (k + 1) v g = tau k (v - 2 ^ k) g - tau k v g := by
  obtain ⟨h1, h2⟩ := bit_clr h
  obtain ⟨u, rfl⟩ : ∃ u, v = u + 2 ^ k := ⟨v - 2 ^ k, by omega⟩
  rw [Nat.add_sub_cancel] at h2 ⊢
  unfold tau
  rw [half, half, up_div]
  simp only [bp]
  rw [bp_up k (Nat.le_refl k), up_div]
  generalize hg : g / 2 ^ k = G at *
  generalize hw : u / 2 ^ k = W at *
  rw [show (W + 1) % 2 = 1 by omega, Nat.mul_one]
  by_cases e1 : G = W
  · rw [if_pos (by omega), if_pos e1, if_neg (by omega), show G % 2 = 0 by omega, Nat.add_zero]; omega
  · by_cases e2 : G = W + 1
    · rw [if_pos (by omega), if_neg e1, if_pos e2, show G % 2 = 1 by omega, sgI_s]; omega
    · rw [if_neg (by omega), if_neg e1, if_neg e2]; rfl
theorem wht_is (g : Nat → Nat) (c : Nat) : ∀ k v, wht (fun u => qc g u c) k v = sumI (fun n => tau k v (g n)) c
  | 0, v => by
    simp only [wht]
    unfold qc
    rw [← sumI_nat]
    refine sumI_congr (fun n _ => ?_)
    unfold tau
    rw [Nat.pow_zero, Nat.div_one, Nat.div_one]
    by_cases e : g n = v
    · rw [if_pos e, decide_eq_true e]; rfl
    · rw [if_neg e, decide_eq_false e]; rfl
  | k + 1, v => by
    simp only [wht]
    by_cases e : v / 2 ^ k % 2 = 0
    · rw [if_pos e, wht_is g c k v, wht_is g c k (v + 2 ^ k), ← sumI_add]
      exact sumI_congr (fun n _ => (tau_0 (g n) e).symm)
    · rw [if_neg e, wht_is g c k v, wht_is g c k (v - 2 ^ k), ← sumI_sub]
      exact sumI_congr (fun n _ => (tau_1 (g n) e).symm)
/-! pc by bits -/
theorem and_app {a b x y p : Nat} (hx : x < 2 ^ p) (hy : y < 2 ^ p) : (a * 2 ^ p + x) &&& (b * 2 ^ p + y) = (a &&& b) * 2 ^ p + (x &&& y) := by
  have hxy : x &&& y < 2 ^ p := Nat.lt_of_le_of_lt Nat.and_le_left hx
  apply Nat.eq_of_testBit_eq
  intro i
  rw [Nat.testBit_and, Nat.mul_comm a, Nat.mul_comm b, Nat.mul_comm (a &&& b), Nat.testBit_two_pow_mul_add _ hx, Nat.testBit_two_pow_mul_add _ hy, Nat.testBit_two_pow_mul_add _ hxy]
  by_cases h : i < p
  · rw [if_pos h, if_pos h, if_pos h, Nat.testBit_and]
  · rw [if_neg h, if_neg h, if_neg h, Nat.testBit_and]
theorem pc_app {a : Nat} : ∀ {p x : Nat}, x < 2 ^ p → a * 2 ^ p + x < 2147483648 → pc (a * 2 ^ p + x) = pc a + pc x
  | 0, x, hx, _ => by
    rw [Nat.pow_zero] at hx
    rw [show x = 0 by omega, Nat.pow_zero, Nat.mul_one, Nat.add_zero, pc_0, Nat.add_zero]
  | p + 1, x, hx, hl => by
    have e : a * 2 ^ (p + 1) = 2 * (a * 2 ^ p) := by rw [Nat.pow_succ, ← Nat.mul_assoc, Nat.mul_comm]
    rw [e] at hl ⊢
    rw [Nat.pow_succ] at hx
    rw [pc_step hl, pc_step (n := x) (by omega), show (2 * (a * 2 ^ p) + x) % 2 = x % 2 by omega, show (2 * (a * 2 ^ p) + x) / 2 = a * 2 ^ p + x / 2 by omega, pc_app (p := p) (x := x / 2) (by omega) (by omega)]
    omega
theorem pc_pl {P C : Nat → Nat} {p : Nat} : ∀ d, (∀ j, j < d → P j < 2 ^ p ∧ C j < 2 ^ p) → (2 ^ p) ^ d ≤ 2147483648 → pc (pl P (2 ^ p) d &&& pl C (2 ^ p) d) = sgn P C d
  | 0, _, _ => by
    show pc (0 &&& 0) = 0
    rw [Nat.and_self, pc_0]
  | d + 1, h, hl => by
    obtain ⟨h1, h2⟩ := h d (by omega)
    have hl' : (2 ^ p) ^ d ≤ 2147483648 := Nat.le_trans (Nat.pow_le_pow_right (Nat.two_pow_pos p) (Nat.le_succ d)) hl
    have hP : pl P (2 ^ p) (d + 1) < (2 ^ p) ^ (d + 1) := pl_lt (fun j hj => (h j hj).1)
    simp only [pl] at hP ⊢
    have hand : (pl P (2 ^ p) d * 2 ^ p + P d) &&& (pl C (2 ^ p) d * 2 ^ p + C d) ≤ pl P (2 ^ p) d * 2 ^ p + P d := Nat.and_le_left
    rw [and_app h1 h2] at hand ⊢
    rw [pc_app (Nat.lt_of_le_of_lt Nat.and_le_left h1) (by omega), pc_pl d (fun j hj => h j (by omega)) hl']
    rfl
theorem bp_pc {g v : Nat} : ∀ k, g < 2 ^ k → g < 2147483648 → bp g v k = pc (g &&& v)
  | 0, h, _ => by
    rw [Nat.pow_zero] at h
    rw [show g = 0 by omega, Nat.zero_and, pc_0]; rfl
  | k + 1, h, hl => by
    have hm : g % 2 ^ k < 2 ^ k := Nat.mod_lt _ (Nat.two_pow_pos k)
    have hb : g / 2 ^ k < 2 := by rw [Nat.div_lt_iff_lt_mul (Nat.two_pow_pos k), ← Nat.pow_succ']; exact h
    have h01 : g / 2 ^ k = 0 ∨ g / 2 ^ k = 1 := by
      generalize g / 2 ^ k = G at hb
      omega
    have eg : g = g / 2 ^ k * 2 ^ k + g % 2 ^ k := by rw [Nat.mul_comm]; exact (Nat.div_add_mod g (2 ^ k)).symm
    have ev : v = v / 2 ^ k * 2 ^ k + v % 2 ^ k := by rw [Nat.mul_comm]; exact (Nat.div_add_mod v (2 ^ k)).symm
    have hlo : ∀ i, i ≤ k → bp (g % 2 ^ k) v i = bp g v i := by
      intro i
      induction i with
      | zero => intro _; rfl
      | succ i ih =>
        intro hi
        simp only [bp]
        rw [ih (by omega)]
        congr 2
        have e1 : (g % 2 ^ k + 2 ^ k) / 2 ^ i % 2 = g % 2 ^ k / 2 ^ i % 2 := low_bit (by omega)
        rcases h01 with q | q
        · rw [q] at eg; rw [show g % 2 ^ k = g by omega]
        · rw [q, Nat.one_mul] at eg
          rw [← e1, show g % 2 ^ k + 2 ^ k = g by omega]
    have hand : (g &&& v) = (g / 2 ^ k &&& v / 2 ^ k) * 2 ^ k + (g % 2 ^ k &&& v % 2 ^ k) := by
      conv => lhs; rw [eg, ev]
      exact and_app hm (Nat.mod_lt _ (Nat.two_pow_pos k))
    have hle : g &&& v ≤ g := Nat.and_le_left
    have ih := bp_pc (g := g % 2 ^ k) (v := v) k hm (by omega)
    have ih2 : (g % 2 ^ k &&& v) = (g % 2 ^ k &&& v % 2 ^ k) := by
      have := and_app (a := 0) (b := v / 2 ^ k) hm (Nat.mod_lt v (Nat.two_pow_pos k))
      rw [Nat.zero_mul, Nat.zero_add, ← ev, Nat.zero_and, Nat.zero_mul, Nat.zero_add] at this
      exact this
    have hp1 : pc (g / 2 ^ k &&& v / 2 ^ k) = g / 2 ^ k % 2 * (v / 2 ^ k % 2) := by
      rcases h01 with q | q
      · rw [q, Nat.zero_and, pc_0, Nat.zero_mod, Nat.zero_mul]
      · rw [q, Nat.and_comm, Nat.and_one_is_mod, show 1 % 2 = 1 by rfl, Nat.one_mul]
        rcases Nat.mod_two_eq_zero_or_one (v / 2 ^ k) with r | r
        · rw [r, pc_0]
        · rw [r]; exact pc_pow 0 (by decide)
    rw [hand] at hle ⊢
    rw [pc_app (Nat.lt_of_le_of_lt Nat.and_le_left hm) (by omega), hp1, ← ih2, ← ih, hlo k (Nat.le_refl k)]
    simp only [bp]
    omega
def crW (D : SD) (v j : Nat) : Nat := v / 2 ^ (D 3 0 * (D 2 0 - 1 - j)) % 2 ^ D 3 0
theorem whW_is {D : SD} {v : Nat} (hO : OkD D) (hk3 : D 1 0 ≠ 3) (hb : D 3 0 * D 2 0 ≤ 12) (hv : v < 2 ^ (D 3 0 * D 2 0)) : whW D v = sumI (fun n => sgI (sgn (prt D n) (crW D v) (D 2 0))) (D 4 0) := by
  have hc := hO.2.2.2.2.2.2.1 hk3
  have hbb : (2 ^ D 3 0) ^ D 2 0 = 2 ^ (D 3 0 * D 2 0) := by rw [← Nat.pow_mul]
  have h12 : 2 ^ (D 3 0 * D 2 0) ≤ 4096 := Nat.le_trans (Nat.pow_le_pow_right (by decide) hb) (by decide)
  unfold whW
  rw [wht_is]
  refine sumI_congr (fun n hn => ?_)
  have hP : ∀ j, j < D 2 0 → prt D n j < 2 ^ D 3 0 := fun j _ => by rw [← hc]; exact prt_lt hO n j
  have hg : pl (prt D n) (D 4 0) (D 2 0) < 2 ^ (D 3 0 * D 2 0) := by rw [hc, ← hbb]; exact pl_lt hP
  have ecr : crW D v = hX (2 ^ D 3 0) (D 2 0) v := by
    funext j
    unfold crW hX
    rw [← Nat.pow_mul]
  have ev : pl (crW D v) (2 ^ D 3 0) (D 2 0) = v := by rw [ecr]; exact pl_hX (Nat.two_pow_pos _) (by rw [hbb]; exact hv)
  have q := pc_pl (P := prt D n) (C := crW D v) (p := D 3 0) (D 2 0) (fun j hj => ⟨hP j hj, Nat.mod_lt _ (Nat.two_pow_pos _)⟩) (by rw [hbb]; exact Nat.le_trans h12 (by decide))
  rw [ev, ← hc] at q
  have q2 := (bp_pc (v := v) _ hg (Nat.lt_of_lt_of_le hg (Nat.le_trans h12 (by decide)))).trans q
  unfold tau
  rw [if_pos (by rw [Nat.div_eq_of_lt hg, Nat.div_eq_of_lt hv])]
  exact congrArg sgI q2
theorem wf_is {D : SD} {v : Nat} (hO : OkD D) (hk3 : D 1 0 ≠ 3) (hb : D 3 0 * D 2 0 ≤ 12) (hv : v < 2 ^ (D 3 0 * D 2 0)) : iZ (whW D v) = 0 ↔ wvL (fun n => sgn (prt D n) (crW D v) (D 2 0)) (D 4 0) = lN 0 := by
  have hc := hO.2.2.2.2.2.1
  have hbd := sumI_bd (f := fun n => sgI (sgn (prt D n) (crW D v) (D 2 0))) (n := D 4 0) (fun i _ => sgI_bd _)
  rw [wvL_is, whW_is hO hk3 hb hv, iZ_0 (by omega), ofI_0 (by omega)]
