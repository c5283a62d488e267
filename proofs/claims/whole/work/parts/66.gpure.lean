/-! GRADE: the ranks. The parity of what a row and a point share -/
def pr (r u : Nat) : Nat := pc (r &&& u) % 2
theorem pr_xl (a b u : Nat) : pr (a ^^^ b) u = (pr a u + pr b u) % 2 := by
  unfold pr
  rw [Nat.and_xor_distrib_right, pc_xor]
  omega
theorem pr_xr (r u v : Nat) : pr r (u ^^^ v) = (pr r u + pr r v) % 2 := by
  unfold pr
  rw [Nat.and_xor_distrib_left, pc_xor]
  omega
theorem pr_lt (r u : Nat) : pr r u < 2 := Nat.mod_lt _ (by decide)
theorem pr_0 (u : Nat) : pr 0 u = 0 := by unfold pr; rw [Nat.zero_and, pc_0, Nat.zero_mod]
theorem pr_bit {r k : Nat} (hk : k < 16) : pr r (2 ^ k) = r / 2 ^ k % 2 := by unfold pr; rw [pc_bit hk, Nat.mod_mod]
theorem bt_xor {a b h : Nat} (hh : h < 16) : (a ^^^ b) / 2 ^ h % 2 = (a / 2 ^ h % 2 + b / 2 ^ h % 2) % 2 := by
  rw [← pr_bit hh, ← pr_bit hh, ← pr_bit hh, pr_xl]
theorem xor_1 (Y : Nat) : Y ^^^ 1 = if Y % 2 = 0 then Y + 1 else Y - 1 := by
  have h := bit_xor (Y / 2) 0 (Y % 2) 1 (Nat.mod_lt _ (by decide)) (by decide)
  rw [Nat.xor_zero, show 2 * (Y / 2) + Y % 2 = Y by omega, show 2 * 0 + 1 = 1 from rfl] at h
  rw [h]
  split <;> omega
theorem xor_div (a b k : Nat) : (a ^^^ b) / 2 ^ k = a / 2 ^ k ^^^ b / 2 ^ k := by
  rw [← Nat.shiftRight_eq_div_pow, Nat.shiftRight_xor_distrib, Nat.shiftRight_eq_div_pow, Nat.shiftRight_eq_div_pow]
/-- the lesser of y and y with k turned lacks k's highest bit -/
theorem min_bit {y k h : Nat} (hk : k / 2 ^ h = 1) : min y (y ^^^ k) / 2 ^ h % 2 = 0 := by
  have e := xor_div y k h
  rw [hk, xor_1] at e
  by_cases c : y / 2 ^ h % 2 = 0
  · rw [if_pos c] at e
    have lt : y < y ^^^ k := Nat.lt_of_not_le (fun q => by have := Nat.div_le_div_right (c := 2 ^ h) q; omega)
    rw [Nat.min_eq_left (Nat.le_of_lt lt)]; exact c
  · rw [if_neg c] at e
    have lt : y ^^^ k < y := Nat.lt_of_not_le (fun q => by
      have q2 := Nat.div_le_div_right (c := 2 ^ h) q
      rw [e] at q2
      generalize y / 2 ^ h = Y at c q2
      omega)
    rw [Nat.min_eq_right (Nat.le_of_lt lt), e]
    generalize y / 2 ^ h = Y at c
    omega
/-- each kept row has a highest bit that those behind it lack -/
def Tri (p : Nat) (K h : Nat → Nat) (n : Nat) : Prop := ∀ i, i < n → h i < p ∧ K i / 2 ^ h i = 1 ∧ ∀ j, i < j → j < n → K j / 2 ^ h i % 2 = 0
theorem Tri.pre {p n : Nat} {K h : Nat → Nat} (t : Tri p K h (n + 1)) : Tri p K h n := fun i hi => ⟨(t i (by omega)).1, (t i (by omega)).2.1, fun j h1 h2 => (t i (by omega)).2.2 j h1 (by omega)⟩
theorem rd_lacks {p : Nat} {K h : Nat → Nat} {x : Nat} (hp : p ≤ 8) : ∀ n, Tri p K h n → ∀ i, i < n → rd K n x / 2 ^ h i % 2 = 0
  | 0, _, _, hi => absurd hi (by omega)
  | n + 1, t, i, hi => by
    simp only [rd]
    by_cases c : i = n
    · subst c; exact min_bit (t i (by omega)).2.1
    · have ih := rd_lacks (x := x) hp n t.pre i (by omega)
      have k0 := (t i hi).2.2 n (by omega) (by omega)
      have hh := (t i hi).1
      rcases Nat.le_total (rd K n x) (rd K n x ^^^ K n) with q | q
      · rw [Nat.min_eq_left q]; exact ih
      · rw [Nat.min_eq_right q, bt_xor (by omega), ih, k0]
theorem rd_ker {K : Nat → Nat} {x u : Nat} : ∀ n, (∀ i, i < n → pr (K i) u = 0) → pr (rd K n x) u = pr x u
  | 0, _ => rfl
  | n + 1, h => by
    have ih := rd_ker (x := x) n (fun i hi => h i (by omega))
    have k0 := h n (by omega)
    simp only [rd]
    rcases Nat.le_total (rd K n x) (rd K n x ^^^ K n) with q | q
    · rw [Nat.min_eq_left q]; exact ih
    · rw [Nat.min_eq_right q, pr_xl, k0, ih]
      have := pr_lt x u
      omega
theorem rd_le {K : Nat → Nat} {x : Nat} : ∀ n, rd K n x ≤ x
  | 0 => Nat.le_refl x
  | n + 1 => Nat.le_trans (Nat.min_le_left _ _) (rd_le n)
theorem top_bit {y : Nat} (hy : y ≠ 0) : ∀ p, y < 2 ^ p → ∃ h, h < p ∧ y / 2 ^ h = 1
  | 0, h => by rw [Nat.pow_zero] at h; omega
  | p + 1, h => by
    by_cases c : y < 2 ^ p
    · obtain ⟨g, h1, h2⟩ := top_bit hy p c
      exact ⟨g, by omega, h2⟩
    · refine ⟨p, by omega, ?_⟩
      rw [Nat.pow_succ] at h
      exact Nat.div_eq_of_lt_le (by omega) (by omega)
/-- a point that the row y tells from 0, and no kept row does -/
theorem dual {p : Nat} {K h : Nat → Nat} {n y : Nat} (hp : p ≤ 8) (t : Tri p K h n) (hy : y ≠ 0) (hyp : y < 2 ^ p) (hl : ∀ i, i < n → y / 2 ^ h i % 2 = 0) : ∀ g i, i + g = n → ∃ u, u < 2 ^ p ∧ pr y u = 1 ∧ ∀ j, i ≤ j → j < n → pr (K j) u = 0
  | 0, i, hi => by
    obtain ⟨a, h1, h2⟩ := top_bit hy p hyp
    exact ⟨2 ^ a, Nat.pow_lt_pow_right (by decide) h1, by rw [pr_bit (by omega), h2], fun j h1 h2 => absurd h1 (by omega)⟩
  | g + 1, i, hi => by
    obtain ⟨u, u1, u2, u3⟩ := dual hp t hy hyp hl g (i + 1) (by omega)
    obtain ⟨t1, t2, t3⟩ := t i (by omega)
    by_cases c : pr (K i) u = 0
    · exact ⟨u, u1, u2, fun j q1 q2 => by
        by_cases e : j = i
        · subst e; exact c
        · exact u3 j (by omega) q2⟩
    · have c1 : pr (K i) u = 1 := by have := pr_lt (K i) u; omega
      refine ⟨u ^^^ 2 ^ h i, Nat.xor_lt_two_pow u1 (Nat.pow_lt_pow_right (by decide) t1), ?_, fun j q1 q2 => ?_⟩
      · rw [pr_xr, u2, pr_bit (by omega), hl i (by omega)]
      · rw [pr_xr, pr_bit (by omega)]
        by_cases e : j = i
        · subst e; rw [c1, t2]
        · rw [u3 j (by omega) q2, t3 j (by omega) q2]
/-- the first a q ROWS of each of the DIRECTIONS take all values -/
def Sj (ro : Nat → Nat → Nat) (p : Nat) (cho : Nat → Nat) (ch : Nat) (a : Nat → Nat) : Prop := ∀ t : Nat → Nat → Nat, ∃ u, u < 2 ^ p ∧ ∀ q, q < ch → ∀ l, l < a q → pr (ro (cho q) l) u = t q l % 2
section RK
variable {ro : Nat → Nat → Nat} {p : Nat} {cho : Nat → Nat} {ch : Nat}
theorem Sj_mono {a a' : Nat → Nat} (h : ∀ q, q < ch → a' q ≤ a q) (hS : Sj ro p cho ch a) : Sj ro p cho ch a' := fun t => by
  obtain ⟨u, u1, u2⟩ := hS t
  exact ⟨u, u1, fun q hq l hl => u2 q hq l (by have := h q hq; omega)⟩
def Ivk (ro : Nat → Nat → Nat) (p : Nat) (cho : Nat → Nat) (ch : Nat) (K : Nat → Nat) (n : Nat) (a : Nat → Nat) : Prop := Sj ro p cho ch a ∧ (∃ h, Tri p K h n) ∧ (∀ u, (∀ i, i < n → pr (K i) u = 0) ↔ (∀ q, q < ch → ∀ l, l < a q → pr (ro (cho q) l) u = 0))
theorem Ivk_no {K a : Nat → Nat} {n d : Nat} (hI : Ivk ro p cho ch K n a) (hd : d < ch) (h0 : rd K n (ro (cho d) (a d)) = 0) : ¬ Sj ro p cho ch (upN a d (a d + 1)) := fun hS => by
  obtain ⟨u, u1, u2⟩ := hS (fun q l => if q = d ∧ l = a d then 1 else 0)
  have hk : ∀ i, i < n → pr (K i) u = 0 := (hI.2.2 u).mpr (fun q hq l hl => by
    have h2 : pr (ro (cho q) l) u = (if q = d ∧ l = a d then 1 else 0) % 2 := u2 q hq l (by
      by_cases c : q = d
      · subst c; rw [upN_at]; omega
      · rw [upN_ne _ _ c]; exact hl)
    rw [h2, if_neg (fun e => by obtain ⟨e1, e2⟩ := e; rw [e1] at hl; omega), Nat.zero_mod])
  have h1 : pr (ro (cho d) (a d)) u = (if d = d ∧ a d = a d then 1 else 0) % 2 := u2 d hd (a d) (by rw [upN_at]; omega)
  rw [if_pos ⟨rfl, rfl⟩, ← rd_ker n hk, h0, pr_0] at h1
  omega
theorem Ivk_yes {K a : Nat → Nat} {n d : Nat} (hp : p ≤ 8) (hI : Ivk ro p cho ch K n a) (hd : d < ch) (hro : ro (cho d) (a d) < 2 ^ p) (h0 : rd K n (ro (cho d) (a d)) ≠ 0) : Ivk ro p cho ch (va_up K n (rd K n (ro (cho d) (a d)))) (n + 1) (upN a d (a d + 1)) := by
  obtain ⟨hS, ⟨h, hT⟩, hk⟩ := hI
  obtain ⟨r, hr⟩ : ∃ r, r = ro (cho d) (a d) := ⟨_, rfl⟩
  rw [← hr] at hro h0 ⊢
  have hlt : rd K n r < 2 ^ p := Nat.lt_of_le_of_lt (rd_le n) hro
  have hlk := rd_lacks (x := r) hp n hT
  obtain ⟨u, u1, u2, u3⟩ := dual hp hT h0 hlt hlk n 0 (by omega)
  have u4 : ∀ i, i < n → pr (K i) u = 0 := fun i hi => u3 i (Nat.zero_le _) hi
  have u5 : ∀ q, q < ch → ∀ l, l < a q → pr (ro (cho q) l) u = 0 := (hk u).mp u4
  have u6 : pr r u = 1 := by rw [← rd_ker n u4]; exact u2
  refine ⟨fun t => ?_, ?_, fun v => ?_⟩
  · obtain ⟨w, w1, w2⟩ := hS t
    by_cases c : pr r w = t d (a d) % 2
    · refine ⟨w, w1, fun q hq l hl => ?_⟩
      by_cases e : q = d
      · rw [e] at hl ⊢
        rw [upN_at] at hl
        by_cases e2 : l = a d
        · rw [e2, ← hr]; exact c
        · exact w2 d hd l (by omega)
      · rw [upN_ne _ _ e] at hl; exact w2 q hq l hl
    · refine ⟨w ^^^ u, Nat.xor_lt_two_pow w1 u1, fun q hq l hl => ?_⟩
      rw [pr_xr]
      by_cases e : q = d
      · rw [e] at hl ⊢
        rw [upN_at] at hl
        by_cases e2 : l = a d
        · rw [e2, ← hr, u6]
          have := pr_lt r w
          omega
        · rw [w2 d hd l (by omega), u5 d hd l (by omega)]
          omega
      · rw [upN_ne _ _ e] at hl
        rw [w2 q hq l hl, u5 q hq l hl]
        omega
  · obtain ⟨g, g1, g2⟩ := top_bit h0 p hlt
    refine ⟨upN h n g, fun i hi => ?_⟩
    by_cases e : i = n
    · rw [e, upN_at, va_up_self]
      exact ⟨g1, g2, fun j q1 q2 => absurd q1 (by omega)⟩
    · obtain ⟨t1, t2, t3⟩ := hT i (by omega)
      rw [upN_ne _ _ e, va_up_ne _ _ e]
      refine ⟨t1, t2, fun j q1 q2 => ?_⟩
      by_cases e2 : j = n
      · rw [e2, va_up_self]; exact hlk i (by omega)
      · rw [va_up_ne _ _ e2]; exact t3 j q1 (by omega)
  · constructor
    · intro hv
      have v1 : ∀ i, i < n → pr (K i) v = 0 := fun i hi => by
        have := hv i (by omega)
        rw [va_up_ne _ _ (by omega)] at this
        exact this
      have v2 : pr (rd K n r) v = 0 := by
        have := hv n (by omega)
        rw [va_up_self] at this
        exact this
      rw [rd_ker n v1] at v2
      have v3 := (hk v).mp v1
      intro q hq l hl
      by_cases e : q = d
      · rw [e] at hl ⊢
        rw [upN_at] at hl
        by_cases e2 : l = a d
        · rw [e2, ← hr]; exact v2
        · exact v3 d hd l (by omega)
      · rw [upN_ne _ _ e] at hl; exact v3 q hq l hl
    · intro hv
      have v1 : ∀ i, i < n → pr (K i) v = 0 := (hk v).mpr (fun q hq l hl => hv q hq l (by
        by_cases e : q = d
        · rw [e, upN_at]; rw [e] at hl; omega
        · rw [upN_ne _ _ e]; exact hl))
      intro i hi
      by_cases e : i = n
      · rw [e, va_up_self, rd_ker n v1, hr]; exact hv d hd (a d) (by rw [upN_at]; omega)
      · rw [va_up_ne _ _ e]; exact v1 i (by omega)
theorem sumN_lele {a b : Nat → Nat} : ∀ {d : Nat}, (∀ q, q < d → a q ≤ b q) → sumN a d ≤ sumN b d
  | 0, _ => Nat.le_refl 0
  | d + 1, h => Nat.add_le_add (sumN_lele (fun q hq => h q (by omega))) (h d (by omega))
theorem sumN_up {a : Nat → Nat} {k v : Nat} : ∀ {d : Nat}, k < d → sumN (upN a k v) d + a k = sumN a d + v
  | 0, h => absurd h (by omega)
  | d + 1, h => by
    simp only [sumN]
    by_cases c : k = d
    · rw [c, upN_at, sumN_congr (g := a) (fun i hi => upN_ne _ _ (by omega))]
      omega
    · have := sumN_up (a := a) (k := k) (v := v) (d := d) (by omega)
      rw [upN_ne _ _ (by omega)]
      omega
/-- of all MARKS that go on from a behind depth dp: the least sum that is dependent is L', or they have none below L -/
def Wok (ro : Nat → Nat → Nat) (p : Nat) (cho : Nat → Nat) (ch dp : Nat) (a : Nat → Nat) (L L' : Nat) : Prop := (L' < L → ∃ b, (∀ q, q < dp → b q = a q) ∧ sumN b ch = L' ∧ ¬ Sj ro p cho ch b) ∧ ∀ b, (∀ q, q < dp → b q = a q) → sumN b ch < L' → Sj ro p cho ch b
theorem wkL_ok {g : (Nat → Nat) → Nat → Nat → Nat} {dp : Nat} (hp : p ≤ 8) (hro : ∀ j i, ro j i < 2 ^ p) (hd : dp < ch) (hin : ∀ K n L, n < L → n < g K n L ∧ g K n L ≤ L)
    (hg : ∀ K n L a, Ivk ro p cho ch K n a → (∀ q, dp + 1 ≤ q → q < ch → a q = 0) → sumN a ch = n → n < L → L ≤ p + 1 → Wok ro p cho ch (dp + 1) a L (g K n L)) :
    ∀ f i, i + f = p → ∀ K n L a, Ivk ro p cho ch K n a → a dp = i → (∀ q, dp + 1 ≤ q → q < ch → a q = 0) → sumN a ch = n → n < L → L ≤ p + 1 → (wkL g (ro (cho dp)) f i K n L < L → ∃ b, (∀ q, q < dp → b q = a q) ∧ i ≤ b dp ∧ sumN b ch = wkL g (ro (cho dp)) f i K n L ∧ ¬ Sj ro p cho ch b) ∧ ∀ b, (∀ q, q < dp → b q = a q) → i ≤ b dp → sumN b ch < wkL g (ro (cho dp)) f i K n L → Sj ro p cho ch b
  | 0, i, hi, K, n, L, a, hI, ha, hz, hs, hn, hL => by
    obtain ⟨A, B⟩ := hg K n L a hI hz hs hn hL
    obtain ⟨i1, i2⟩ := hin K n L hn
    simp only [wkL]
    refine ⟨fun h => ?_, fun b hb hib hsb => ?_⟩
    · obtain ⟨b, b1, b2, b3⟩ := A h
      exact ⟨b, fun q hq => b1 q (by omega), by rw [b1 dp (by omega)]; omega, b2, b3⟩
    · have := sumN_ge (f := b) hd
      refine B b (fun q hq => ?_) hsb
      by_cases e : q = dp
      · rw [e]; omega
      · exact hb q (by omega)
  | f + 1, i, hi, K, n, L, a, hI, ha, hz, hs, hn, hL => by
    obtain ⟨A, B⟩ := hg K n L a hI hz hs hn hL
    obtain ⟨i1, i2⟩ := hin K n L hn
    have hup : ∀ v, sumN (upN a dp v) ch + i = n + v := fun v => by rw [← ha, ← hs]; exact sumN_up hd
    have big : ∀ b : Nat → Nat, (∀ q, q < dp → b q = a q) → i + 1 ≤ b dp → n + 1 ≤ sumN b ch := fun b hb hib => by
      have h1 := sumN_lele (a := upN a dp (i + 1)) (b := b) (d := ch) (fun q hq => by
        by_cases e : q = dp
        · rw [e, upN_at]; exact hib
        · rw [upN_ne _ _ e]
          by_cases e2 : q < dp
          · rw [hb q e2]; exact Nat.le_refl _
          · rw [hz q (by omega) hq]; exact Nat.zero_le _)
      have := hup (i + 1)
      omega
    have same : ∀ b : Nat → Nat, (∀ q, q < dp → b q = a q) → b dp = i → ∀ q, q < dp + 1 → b q = a q := fun b hb hib q hq => by
      by_cases e : q = dp
      · rw [e, hib, ha]
      · exact hb q (by omega)
    have back : g K n L < L → ∃ b, (∀ q, q < dp → b q = a q) ∧ i ≤ b dp ∧ sumN b ch = g K n L ∧ ¬ Sj ro p cho ch b := fun h => by
      obtain ⟨b, b1, b2, b3⟩ := A h
      exact ⟨b, fun q hq => b1 q (by omega), by rw [b1 dp (by omega)]; omega, b2, b3⟩
    simp only [wkL]
    by_cases c1 : g K n L ≤ n + 1
    · rw [if_pos c1]
      refine ⟨back, fun b hb hib hsb => ?_⟩
      by_cases e : b dp = i
      · exact B b (same b hb e) hsb
      · have := big b hb (by omega)
        omega
    · rw [if_neg c1]
      by_cases c2 : rd K n (ro (cho dp) i) = 0
      · rw [if_pos c2]
        have hno : ¬ Sj ro p cho ch (upN a dp (a dp + 1)) := Ivk_no hI hd (by rw [ha]; exact c2)
        refine ⟨fun _ => ⟨upN a dp (i + 1), fun q hq => upN_ne _ _ (by omega), by rw [upN_at]; omega, by have := hup (i + 1); omega, by rw [← ha]; exact hno⟩, fun b hb hib hsb => ?_⟩
        by_cases e : b dp = i
        · exact B b (same b hb e) (by omega)
        · have := big b hb (by omega)
          omega
      · rw [if_neg c2]
        have hI2 := Ivk_yes (d := dp) hp hI hd (hro _ _) (by rw [ha]; exact c2)
        rw [ha] at hI2
        obtain ⟨A', B'⟩ := wkL_ok hp hro hd hin hg f (i + 1) (by omega) (va_up K n (rd K n (ro (cho dp) i))) (n + 1) (g K n L) (upN a dp (i + 1)) hI2 (upN_at _ _ _) (fun q h1 h2 => by rw [upN_ne _ _ (by omega)]; exact hz q h1 h2) (by have := hup (i + 1); omega) (by omega) (by omega)
        obtain ⟨j1, j2⟩ := wkL_in (row := ro (cho dp)) hin f (i + 1) (va_up K n (rd K n (ro (cho dp) i))) (n + 1) (g K n L) (by omega)
        refine ⟨fun h => ?_, fun b hb hib hsb => ?_⟩
        · by_cases c3 : wkL g (ro (cho dp)) f (i + 1) (va_up K n (rd K n (ro (cho dp) i))) (n + 1) (g K n L) < g K n L
          · obtain ⟨b, b1, b2, b3, b4⟩ := A' c3
            exact ⟨b, fun q hq => by rw [b1 q hq, upN_ne _ _ (by omega)], by omega, b3, b4⟩
          · obtain ⟨b, b1, b2, b3, b4⟩ := back (by omega)
            exact ⟨b, b1, b2, by omega, b4⟩
        · by_cases e : b dp = i
          · exact B b (same b hb e) (by omega)
          · exact B' b (fun q hq => by rw [hb q hq, upN_ne _ _ (by omega)]) (by omega) hsb
theorem wk_ok (hp : p ≤ 8) (hro : ∀ j i, ro j i < 2 ^ p) : ∀ e dp, dp + e = ch → ∀ K n L a, Ivk ro p cho ch K n a → (∀ q, dp ≤ q → q < ch → a q = 0) → sumN a ch = n → n < L → L ≤ p + 1 → Wok ro p cho ch dp a L (wk ro p cho e dp K n L)
  | 0, dp, hd, K, n, L, a, hI, hz, hs, hn, hL => ⟨fun h => absurd h (Nat.lt_irrefl _), fun b hb _ => Sj_mono (fun q hq => by rw [hb q (by omega)]; exact Nat.le_refl _) hI.1⟩
  | e + 1, dp, hd, K, n, L, a, hI, hz, hs, hn, hL => by
    have h := wkL_ok (g := wk ro p cho e (dp + 1)) (dp := dp) hp hro (by omega) (fun K n L h => wk_in e (dp + 1) K n L h) (fun K n L a h1 h2 h3 h4 h5 => wk_ok hp hro e (dp + 1) (by omega) K n L a h1 h2 h3 h4 h5) p 0 (by omega) K n L a hI (hz dp (by omega) (by omega)) (fun q h1 h2 => hz q (by omega) h2) hs hn hL
    refine ⟨fun hlt => ?_, fun b hb hsb => h.2 b hb (Nat.zero_le _) hsb⟩
    obtain ⟨b, b1, b2, b3, b4⟩ := h.1 hlt
    exact ⟨b, b1, b3, b4⟩
theorem gr_wk (hp : p ≤ 8) (hro : ∀ j i, ro j i < 2 ^ p) : Wok ro p cho ch 0 (fun _ => 0) (p + 1) (wk ro p cho ch 0 (fun _ => 0) 0 (p + 1)) :=
  wk_ok hp hro ch 0 (by omega) (fun _ => 0) 0 (p + 1) (fun _ => 0) ⟨fun t => ⟨0, Nat.two_pow_pos p, fun q hq l hl => absurd hl (Nat.not_lt_zero l)⟩, ⟨fun _ => 0, fun i hi => absurd hi (Nat.not_lt_zero i)⟩, fun u => ⟨fun _ q hq l hl => absurd hl (Nat.not_lt_zero l), fun _ i hi => absurd hi (Nat.not_lt_zero i)⟩⟩ (fun _ _ _ => rfl) (sumN_0 ch) (by omega) (by omega)
theorem gr_le : gr ro p cho ch ≤ p := by
  obtain ⟨h1, h2⟩ := wk_in (ro := ro) (p := p) (cho := cho) ch 0 (fun _ => 0) 0 (p + 1) (by omega)
  unfold gr
  omega
theorem gr_hi {e : Nat → Nat} (hp : p ≤ 8) (hro : ∀ j i, ro j i < 2 ^ p) (he : sumN e ch = p - gr ro p cho ch) : Sj ro p cho ch e := by
  obtain ⟨h1, h2⟩ := wk_in (ro := ro) (p := p) (cho := cho) ch 0 (fun _ => 0) 0 (p + 1) (by omega)
  refine (gr_wk hp hro).2 e (fun q hq => absurd hq (Nat.not_lt_zero q)) ?_
  unfold gr at he
  omega
theorem gr_lo {t : Nat} (hp : p ≤ 8) (hro : ∀ j i, ro j i < 2 ^ p) (hc : 1 ≤ ch) (ht : t < gr ro p cho ch) : ∃ e, sumN e ch = p - t ∧ ¬ Sj ro p cho ch e := by
  obtain ⟨h1, h2⟩ := wk_in (ro := ro) (p := p) (cho := cho) ch 0 (fun _ => 0) 0 (p + 1) (by omega)
  unfold gr at ht
  obtain ⟨b, -, b2, b3⟩ := (gr_wk (ro := ro) (p := p) (cho := cho) (ch := ch) hp hro).1 (by omega)
  refine ⟨upN b 0 (b 0 + (p - t - sumN b ch)), ?_, fun q => b3 (Sj_mono (fun q hq => ?_) q)⟩
  · have := sumN_up (a := b) (k := 0) (v := b 0 + (p - t - sumN b ch)) (d := ch) (by omega)
    omega
  · by_cases e : q = 0
    · rw [e, upN_at]; omega
    · rw [upN_ne _ _ e]; exact Nat.le_refl _
end RK
