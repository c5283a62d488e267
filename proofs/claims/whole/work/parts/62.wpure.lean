theorem pl_dg {b : Nat} (hb : 1 ≤ b) {f : Nat → Nat} : ∀ d, (∀ j, j < d → f j < b) → ∀ e, e < d → dg b e (pl f b d) = f (d - 1 - e)
  | 0, _, e, he => absurd he (by omega)
  | d + 1, h, e, he => by
    have hd := h d (by omega)
    have hq : (pl f b d * b + f d) / b = pl f b d := by rw [Nat.mul_comm, Nat.mul_add_div hb, Nat.div_eq_of_lt hd, Nat.add_zero]
    have hm : (pl f b d * b + f d) % b = f d := by rw [Nat.mul_comm, Nat.mul_add_mod, Nat.mod_eq_of_lt hd]
    cases e with
    | zero =>
      simp only [dg, pl, Nat.pow_zero, Nat.div_one]
      rw [hm]; rfl
    | succ e =>
      rw [dg_s]
      show dg b e ((pl f b d * b + f d) / b) = _
      rw [hq, pl_dg hb d (fun j hj => h j (by omega)) e (by omega)]
      congr 1
      omega
theorem hX_dg (b d x j : Nat) : hX b d x j = dg b (d - 1 - j) x := rfl
theorem pl_hX {b : Nat} (hb : 1 ≤ b) {d x : Nat} (hx : x < b ^ d) : pl (hX b d x) b d = x := by
  have hl : ∀ j, j < d → hX b d x j < b := fun j _ => Nat.mod_lt _ hb
  refine dg_ext hb d _ _ (pl_lt hl) hx (fun e he => ?_)
  rw [pl_dg hb d hl e he, hX_dg]
  congr 1
  omega
theorem pl_add (f g : Nat → Nat) (b : Nat) : ∀ d, pl f b d + pl g b d = pl (fun j => f j + g j) b d
  | 0 => rfl
  | d + 1 => by
    simp only [pl]
    rw [← pl_add f g b d, Nat.add_mul]
    omega
theorem dgn_pl (b : Nat) : ∀ d, dgn b d = pl (fun _ => 1) b d
  | 0 => rfl
  | d + 1 => by simp only [dgn, pl, dgn_pl b d]
/-- one diagonal further all HIGHS are 1 more -/
theorem diag {c d x : Nat} (hx : x < (c + 1) ^ d) (h : ∀ j, j < d → hX (c + 1) d x j < c) : x + dgn (c + 1) d < (c + 1) ^ d ∧ ∀ j, j < d → hX (c + 1) d (x + dgn (c + 1) d) j = hX (c + 1) d x j + 1 := by
  have e : x + dgn (c + 1) d = pl (fun j => hX (c + 1) d x j + 1) (c + 1) d := by
    rw [← pl_add, ← dgn_pl, pl_hX (by omega) hx]
  have hl : ∀ j, j < d → hX (c + 1) d x j + 1 < c + 1 := fun j hj => by have := h j hj; omega
  rw [e]
  refine ⟨pl_lt hl, fun j hj => ?_⟩
  rw [hX_dg, pl_dg (by omega) d hl _ (by omega)]
  show hX (c + 1) d x (d - 1 - (d - 1 - j)) + 1 = _
  rw [show d - 1 - (d - 1 - j) = j by omega]
/-- how many points the corner box has, its upper sides left out -/
theorem bel_is {P : Nat → Nat → Nat} {c d x : Nat} (hP : ∀ n j, P n j < c) : bel P c d x = sumN (fun n => b2 (allB (fun j => decide (P n j < hX (c + 1) d x j)) d)) c := by
  unfold bel cB
  apply sumN_congr
  intro n _
  congr 1
  have hl : ∀ j, j < d → P n j + 1 < c + 1 := fun j _ => by have := hP n j; omega
  have key : (allB (fun e => if e < d then decide (dg (c + 1) e (pl (fun j => P n j + 1) (c + 1) d) ≤ dg (c + 1) e x) else decide (dg (c + 1) e (pl (fun j => P n j + 1) (c + 1) d) = dg (c + 1) e x)) d = true) ↔ (allB (fun j => decide (P n j < hX (c + 1) d x j)) d = true) := by
    rw [allB_iff, allB_iff]
    constructor
    · intro q j hj
      have := q (d - 1 - j) (by omega)
      rw [if_pos (by omega), pl_dg (by omega) d hl _ (by omega), show d - 1 - (d - 1 - j) = j by omega] at this
      exact decide_eq_true (of_decide_eq_true this)
    · intro q e he
      have := q (d - 1 - e) (by omega)
      rw [if_pos he, pl_dg (by omega) d hl e he]
      have h2 := of_decide_eq_true this
      rw [hX_dg, show d - 1 - (d - 1 - e) = e by omega] at h2
      exact decide_eq_true h2
  exact Bool.eq_iff_iff.mpr key
theorem bel_op {D : SD} {x : Nat} (hO : OkD D) : inW D (fun j => nI (hX (D 4 0 + 1) (D 2 0) x j)) false (D 4 0) = bel (prt D) (D 4 0) (D 2 0) x := by
  rw [bel_is (fun n j => prt_lt hO n j)]
  refine sumN_congr (fun n _ => ?_)
  have e : allB (coW D (fun j => nI (hX (D 4 0 + 1) (D 2 0) x j)) false n) (D 2 0) = allB (fun j => decide (prt D n j < hX (D 4 0 + 1) (D 2 0) x j)) (D 2 0) := allB_congr (fun j _ => by
    unfold coW
    rw [Bool.and_false, Bool.or_false]
    have h1 := prt_lt hO n j
    have h2 := hX_le (D 4 0) (D 2 0) x j
    have h3 := hO.2.2.2.2.2.1
    exact decide_eq_decide.mpr (nI_ltI (by omega) (by omega)))
  rw [e]
theorem bel_cl {D : SD} {x : Nat} (hO : OkD D) (hx : x < (D 4 0 + 1) ^ D 2 0) (h : ∀ j, j < D 2 0 → hX (D 4 0 + 1) (D 2 0) x j < D 4 0) : inW D (fun j => nI (hX (D 4 0 + 1) (D 2 0) x j)) true (D 4 0) = bel (prt D) (D 4 0) (D 2 0) (x + dgn (D 4 0 + 1) (D 2 0)) := by
  rw [bel_is (fun n j => prt_lt hO n j)]
  obtain ⟨-, hd⟩ := diag hx h
  refine sumN_congr (fun n _ => ?_)
  have e : allB (coW D (fun j => nI (hX (D 4 0 + 1) (D 2 0) x j)) true n) (D 2 0) = allB (fun j => decide (prt D n j < hX (D 4 0 + 1) (D 2 0) (x + dgn (D 4 0 + 1) (D 2 0)) j)) (D 2 0) := allB_congr (fun j hj => by
    unfold coW
    rw [Bool.and_true, hd j hj]
    have h1 := prt_lt hO n j
    have h2 := hX_le (D 4 0) (D 2 0) x j
    have h3 := hO.2.2.2.2.2.1
    rw [decide_eq_decide.mpr (nI_ltI (a := prt D n j) (b := hX (D 4 0 + 1) (D 2 0) x j) (by omega) (by omega)), decide_eq_decide.mpr (nI_eq (a := prt D n j) (b := hX (D 4 0 + 1) (D 2 0) x j) (by omega) (by omega))]
    rw [← Bool.decide_or]
    exact decide_eq_decide.mpr (by omega))
  rw [e]
/-! the model's search -/
abbrev MW : Type := Bool × Int64 × Nat × Bool
def mup (s : MW) (v : Int64) (x : Nat) (cl : Bool) : MW := if s.1 = true ∧ ¬ s.2.1 < v then s else (true, v, x, cl)
def mwO (mo : Nat → Bool) (vo : Nat → Int64) (x : Nat) (s : MW) : MW := if mo x = true then mup s (vo x) x false else s
def mwC (mc : Nat → Bool) (vc : Nat → Int64) (x : Nat) (s : MW) : MW := if mc x = true then mup s (vc x) x true else s
def mse (mo mc : Nat → Bool) (vo vc : Nat → Int64) : Nat → Nat → MW → MW
  | 0, _, s => s
  | f + 1, x, s => mse mo mc vo vc f (x + 1) (mwC mc vc x (mwO mo vo x s))
def RlW (h : Nat → Nat → Nat) (m : MW) (s : WS) : Prop := (m.1 = false ∧ s.1 = minL) ∨ (m.1 = true ∧ m.2.1 = s.1 ∧ m.2.2.2 = s.2.1 ∧ s.2.2 = h m.2.2.1 ∧ sm s.1)
theorem RlW_up {h : Nat → Nat → Nat} {m : MW} {s : WS} {v : Int64} {x : Nat} {cl : Bool} (H : RlW h m s) (hv : sm v) : RlW h (mup m v x cl) (cns s v cl (h x)) := by
  rcases H with ⟨h1, h2⟩ | ⟨h1, h2, h3, h4, h5⟩
  · unfold mup cns
    rw [if_neg (fun q => by rw [h1] at q; exact absurd q.1 (by decide)), if_pos (by rw [h2]; exact sm_ne hv)]
    exact Or.inr ⟨rfl, rfl, rfl, rfl, hv⟩
  · unfold mup cns
    by_cases e : s.1 < v
    · rw [if_neg (fun q => q.2 (by rw [h2]; exact e)), if_pos e]
      exact Or.inr ⟨rfl, rfl, rfl, rfl, hv⟩
    · rw [if_pos ⟨h1, by rw [h2]; exact e⟩, if_neg e]
      exact Or.inr ⟨h1, h2, h3, h4, h5⟩
theorem RlW_se {mo mc mc' : Nat → Bool} {vo vc vo' vc' : Nat → Int64} {h : Nat → Nat → Nat} {N : Nat} (h1 : ∀ y, sm (vo y)) (h2 : ∀ y, sm (vc y)) (hmc : ∀ y, y < N → mc' y = mc y) (hcm : ∀ y, y < N → mc y = true → mo y = true) (hvo : ∀ y, y < N → mo y = true → vo' y = vo y) (hvc : ∀ y, y < N → mc y = true → vc' y = vc y) : ∀ f x, x + f = N → ∀ m s, RlW h m s → RlW h (mse mo mc' vo' vc' f x m) (srch mo mc vo vc h f x s)
  | 0, _, _, _, _, H => H
  | f + 1, x, hx, m, s, H => by
    simp only [mse, srch]
    refine RlW_se h1 h2 hmc hcm hvo hvc f (x + 1) (by omega) _ _ ?_
    unfold mwC mwO wst
    rw [hmc x (by omega)]
    by_cases e : mo x = true
    · rw [if_pos e, if_pos e, hvo x (by omega) e]
      by_cases e2 : mc x = true
      · rw [if_pos e2, if_pos e2, hvc x (by omega) e2]
        exact RlW_up (RlW_up H (h1 x)) (h2 x)
      · rw [if_neg e2, if_neg e2]; exact RlW_up H (h1 x)
    · rw [if_neg e, if_neg e, if_neg (fun q => e (hcm x (by omega) q))]
      exact H
theorem mse_lt {mo mc : Nat → Bool} {vo vc : Nat → Int64} {N : Nat} : ∀ f x, x + f ≤ N → ∀ m : MW, (m.2.2.1 < N ∨ m.1 = false) → ((mse mo mc vo vc f x m).2.2.1 < N ∨ (mse mo mc vo vc f x m).1 = false)
  | 0, _, _, _, H => H
  | f + 1, x, hx, m, H => by
    simp only [mse]
    have up : ∀ (m : MW) (v : Int64) (cl : Bool), (m.2.2.1 < N ∨ m.1 = false) → ((mup m v x cl).2.2.1 < N ∨ (mup m v x cl).1 = false) := fun m v cl H => by
      unfold mup
      by_cases e : m.1 = true ∧ ¬ m.2.1 < v
      · rw [if_pos e]; exact H
      · rw [if_neg e]; exact Or.inl (by show x < N; omega)
    refine mse_lt f (x + 1) (by omega) _ ?_
    unfold mwC mwO
    by_cases e : mo x = true
    · rw [if_pos e]
      by_cases e2 : mc x = true
      · rw [if_pos e2]; exact up _ _ _ (up _ _ _ H)
      · rw [if_neg e2]; exact up _ _ _ H
    · rw [if_neg e]
      by_cases e2 : mc x = true
      · rw [if_pos e2]; exact up _ _ _ H
      · rw [if_neg e2]; exact H
def voM (D : SD) (x : Nat) : Int64 := lN (prodN (hX (D 4 0 + 1) (D 2 0) x) (D 2 0)) - lN (inW D (fun j => nI (hX (D 4 0 + 1) (D 2 0) x j)) false (D 4 0) * D 4 0 ^ (D 2 0 - 1))
def vcM (D : SD) (x : Nat) : Int64 := -(lN (prodN (hX (D 4 0 + 1) (D 2 0) x) (D 2 0)) - lN (inW D (fun j => nI (hX (D 4 0 + 1) (D 2 0) x j)) true (D 4 0) * D 4 0 ^ (D 2 0 - 1)))
def moM (D : SD) (op : Bool) (x : Nat) : Bool := mOp (prt D) (D 4 0) (D 2 0) op x
def rsM (D : SD) : MW := mse (moM D true) (moM D false) (voM D) (vcM D) ((D 4 0 + 1) ^ D 2 0) 0 (false, lN 0, 0, false)
theorem qc_0 {g : Nat → Nat} {b : Nat} : ∀ {n : Nat}, (∀ i, g i ≠ b) → qc g b n = 0
  | 0, _ => rfl
  | n + 1, h => by rw [hist_o (h n), qc_0 h]
theorem mo_lt {D : SD} {x : Nat} (hO : OkD D) (h : moM D false x = true) : ∀ j, j < D 2 0 → hX (D 4 0 + 1) (D 2 0) x j < D 4 0 := fun j hj => by
  have q := allB_iff.mp h j hj
  have hl := hX_le (D 4 0) (D 2 0) x j
  rcases Nat.lt_or_ge (hX (D 4 0 + 1) (D 2 0) x j) (D 4 0) with g | g
  · exact g
  · have e : hX (D 4 0 + 1) (D 2 0) x j = D 4 0 := by omega
    rw [e, qc_0 (fun i => by have := prt_lt hO i j; omega)] at q
    simp at q
theorem rsM_is {D : SD} (hO : OkD D) : (rsM D).1 = true ∧ (rsM D).2.1 = (wsW D).1 ∧ (rsM D).2.2.2 = (wsW D).2.1 ∧ (wsW D).2.2 = hX (D 4 0 + 1) (D 2 0) (rsM D).2.2.1 ∧ (rsM D).2.2.1 < (D 4 0 + 1) ^ D 2 0 := by
  obtain ⟨o1, o2, o3, o4, o5, o6, -⟩ := id hO
  have cp : ∀ x, prodN (hX (D 4 0 + 1) (D 2 0) x) (D 2 0) ≤ 281474976710656 := fun x => Nat.le_trans (prodN_le (fun j _ => hX_le _ _ _ _)) (c48 o6 o3)
  have cb : ∀ x, D 4 0 ^ (D 2 0 - 1) * bel (prt D) (D 4 0) (D 2 0) x ≤ 281474976710656 := fun x => by
    refine Nat.le_trans (Nat.mul_le_mul_left _ (bel_le _ _ _ _)) ?_
    rw [Nat.mul_comm, pow_pred o2]
    exact c48 o6 o3
  have H := RlW_se (mo := moM D true) (mc := mCl (prt D) (D 4 0) (D 2 0)) (mc' := moM D false) (vo := vOp (prt D) (D 4 0) (D 2 0)) (vc := vCl (prt D) (D 4 0) (D 2 0)) (vo' := voM D) (vc' := vcM D) (h := hX (D 4 0 + 1) (D 2 0)) (N := (D 4 0 + 1) ^ D 2 0) (fun y => sm_sub (cp y) (cb y)) (fun y => sm_sub (cb _) (cp y)) (fun y hy => by
      unfold mCl
      cases hq : moM D false y with
      | false => rw [show mOp (prt D) (D 4 0) (D 2 0) false y = false from hq]; rfl
      | true => rw [show mOp (prt D) (D 4 0) (D 2 0) false y = true from hq, decide_eq_true (diag hy (mo_lt hO hq)).1]; rfl) (fun y hy q => by
      unfold mCl at q
      rw [Bool.and_eq_true] at q
      have q1 := q.1
      unfold mOp at q1
      exact allB_iff.mpr (fun j hj => by
        have := allB_iff.mp q1 j hj
        rw [Bool.false_and, Bool.false_or] at this
        rw [this, Bool.or_true])) (fun y hy q => by
      unfold voM vOp
      rw [bel_op hO, Nat.mul_comm (bel _ _ _ _)]) (fun y hy q => by
      unfold mCl at q
      rw [Bool.and_eq_true] at q
      unfold vcM vCl
      rw [bel_cl hO hy (mo_lt hO q.1), Nat.mul_comm (bel _ _ _ _), Int64.neg_sub]) ((D 4 0 + 1) ^ D 2 0) 0 (by omega) (false, lN 0, 0, false) (minL, false, fun _ => 0) (Or.inl ⟨rfl, rfl⟩)
  have hsm := wsW_sm hO
  have H2 : RlW (hX (D 4 0 + 1) (D 2 0)) (rsM D) (wsW D) := H
  rcases H2 with ⟨q1, q2⟩ | ⟨q1, q2, q3, q4, q5⟩
  · have := sm_ne hsm
    rw [q2] at this
    exact absurd this Int64.lt_irrefl
  · refine ⟨q1, q2, q3, q4, ?_⟩
    rcases mse_lt (mo := moM D true) (mc := moM D false) (vo := voM D) (vc := vcM D) (N := (D 4 0 + 1) ^ D 2 0) ((D 4 0 + 1) ^ D 2 0) 0 (by omega) (false, lN 0, 0, false) (Or.inr rfl) with g | g
    · exact g
    · rw [show (rsM D).1 = false from g] at q1; exact absurd q1 (by decide)
