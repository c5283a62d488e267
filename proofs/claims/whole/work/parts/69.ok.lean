/-! the state stays as it may be -/
theorem Ok_ww {st st' : St} (h1 : st'.1 = st.1) (h2 : st'.2.1 = st.2.1) (hO : Ok st) : Ok st' := by
  unfold Ok at hO ⊢
  rw [h1, h2]; exact hO
theorem Ok_rf {st : St} {v : Int32} {k : Nat} (hO : Ok st) : Ok (rfs st v k).2 := Ok_ww rfl rfl hO
theorem Ok_rg {st : St} {v : Int32} {k : Nat} (hO : Ok st) : Ok (rfg st v k).2 := Ok_ww rfl rfl hO
theorem Ok_set {st : St} {k : Nat} {D : SD} (hO : Ok st) (hk : k < st.1) (hD : OkD D) : Ok (setS st k D) := by
  refine ⟨hO.1, fun l hl => ?_, fun l hl f i => ?_⟩
  · show OkD (upF st.2.1 k D l)
    by_cases e : l = k
    · rw [e, upF_at]; exact hD
    · rw [upF_ne _ _ e]; exact hO.2.1 l hl
  · have hl' : st.1 ≤ l := hl
    show upF st.2.1 k D l f i = 0
    rw [upF_ne _ _ (by omega)]; exact hO.2.2 l hl' f i
theorem Ok_add {st : St} {D : SD} (hO : Ok st) (hn : st.1 < 12) (hD : OkD D) : Ok (addS st D) := by
  refine ⟨(by show st.1 + 1 ≤ 12; omega), fun l hl => ?_, fun l hl f i => ?_⟩
  · have hl' : l < st.1 + 1 := hl
    show OkD (upF st.2.1 st.1 D l)
    by_cases e : l = st.1
    · rw [e, upF_at]; exact hD
    · rw [upF_ne _ _ e]; exact hO.2.1 l (by omega)
  · have hl' : st.1 + 1 ≤ l := hl
    show upF st.2.1 st.1 D l f i = 0
    rw [upF_ne _ _ (by omega)]; exact hO.2.2 l (by omega) f i
theorem onS_ok {α : Type} {n : Nat} {s : Int32} {r : α × St} {f : Nat → α × St} (hn : n < 2147483648) (hr : Ok r.2) (hf : ∀ k, k < n → Ok (f k).2) : Ok (onS n s r f).2 := by
  rcases Oo_or s n hn with ho | ⟨k, hk, rfl⟩
  · rw [onS_o ho]; exact hr
  · rw [onS_k hk hn]; exact hf k hk
theorem OkD_up {D : SD} {f i v : Nat} (hO : OkD D) (h : (f = 5 ∧ i = 0 ∧ v ≤ 1000000) ∨ ((f = 6 ∨ f = 7 ∨ f = 8) ∧ v < D 4 0)) : OkD (mu D f i v) := by
  obtain ⟨h1, h2, h3, h4, h5, h6, h7, h8, h9, h10, h11, h12⟩ := hO
  have lo : ∀ g, g < 5 → mu D f i v g 0 = D g 0 := fun g hg => mu_other _ _ (by omega)
  have hi : ∀ g j, 6 ≤ g → g ≤ 9 → D g j < D 4 0 → mu D f i v g j < D 4 0 := fun g j a b c => by
    by_cases e : g = f ∧ j = i
    · rw [e.1, e.2, mu_at]; omega
    · rw [mu_other _ _ e]; exact c
  have hv : mu D f i v 5 0 ≤ 1000000 := by
    by_cases e : 5 = f ∧ 0 = i
    · rw [e.1, e.2, mu_at]; omega
    · rw [mu_other _ _ e]; exact h8
  unfold OkD
  rw [lo 1 (by decide), lo 2 (by decide), lo 3 (by decide), lo 4 (by decide)]
  exact ⟨h1, h2, h3, h4, h5, h6, h7, hv, fun j => hi 6 j (by decide) (by decide) (h9 j), fun j => hi 7 j (by decide) (by decide) (h10 j), fun j => hi 8 j (by decide) (by decide) (h11 j), fun j => hi 9 j (by decide) (by decide) (h12 j)⟩
theorem newD_z {k d p c : Nat} (f i : Nat) (hf : 5 ≤ f) : newD k d p c f i = 0 := by
  unfold newD
  rw [if_neg (by omega), if_neg (by omega), if_neg (by omega), if_neg (by omega)]
theorem OkD_new {k d p c : Nat} (hk : k < 5) (hd : 1 ≤ d) (hd6 : d ≤ 6) (hp : p ≤ 8) (hc : 1 ≤ c) (hc2 : c ≤ 256) (h : k ≠ 3 → c = 2 ^ p) : OkD (newD k d p c) := by
  have n1 : newD k d p c 1 0 = k := by simp [newD]
  have n2 : newD k d p c 2 0 = d := by simp [newD]
  have n3 : newD k d p c 3 0 = p := by simp [newD]
  have n4 : newD k d p c 4 0 = c := by simp [newD]
  unfold OkD
  rw [n1, n2, n3, n4, newD_z 5 0 (by decide)]
  exact ⟨hk, hd, hd6, hp, hc, hc2, h, Nat.zero_le _, fun i => by rw [newD_z 6 i (by decide)]; omega, fun i => by rw [newD_z 7 i (by decide)]; omega, fun i => by rw [newD_z 8 i (by decide)]; omega, fun i => by rw [newD_z 9 i (by decide)]; omega⟩
/-- one row of numbers is another one's -/
theorem OkD_put {D D' : SD} {f : Nat} (hO : OkD D) (hf : f = 6 ∨ f = 7 ∨ f = 9) (he : ∀ g, g ≠ f → D' g = D g) (h : ∀ i, D' f i < D 4 0) : OkD D' := by
  obtain ⟨h1, h2, h3, h4, h5, h6, h7, h8, h9, h10, h11, h12⟩ := hO
  have hi : ∀ g j, D g j < D 4 0 → D' g j < D 4 0 := fun g j c => by
    by_cases e : g = f
    · rw [e]; exact h j
    · rw [he g e]; exact c
  unfold OkD
  rw [he 1 (by omega), he 2 (by omega), he 3 (by omega), he 4 (by omega), he 5 (by omega)]
  exact ⟨h1, h2, h3, h4, h5, h6, h7, h8, fun j => hi 6 j (h9 j), fun j => hi 7 j (h10 j), fun j => hi 8 j (h11 j), fun j => hi 9 j (h12 j)⟩
theorem pw_256 {p : Nat} (h : p ≤ 8) : 1 ≤ 2 ^ p ∧ 2 ^ p ≤ 256 := ⟨Nat.two_pow_pos p, Nat.le_trans (Nat.pow_le_pow_right (by decide) h) (by decide)⟩
theorem OkD_lad {p : Nat} (hp : p ≤ 8) : OkD (ladD p) := by
  obtain ⟨p1, p2⟩ := pw_256 hp
  refine OkD_put (f := 6) (OkD_new (k := 1) (d := 1) (p := p) (c := 2 ^ p) (by decide) (by decide) (by decide) hp p1 p2 (fun _ => rfl)) (Or.inl rfl) (fun g hg => by funext i; unfold ladD; rw [if_neg hg]) (fun i => ?_)
  show ladD p 6 i < newD 1 1 p (2 ^ p) 4 0
  rw [show newD 1 1 p (2 ^ p) 4 0 = 2 ^ p by simp [newD]]
  unfold ladD
  rw [if_pos rfl]
  by_cases c : i < p
  · rw [if_pos c]; exact Nat.pow_lt_pow_right (by decide) c
  · rw [if_neg c]; exact p1
theorem OkD_lot {F d p : Nat} (hF : F < 18446744073709551616) (hd : 1 ≤ d) (hd6 : d ≤ 6) (hp : p ≤ 8) : OkD (lotD F d p) := by
  obtain ⟨p1, p2⟩ := pw_256 hp
  refine OkD_put (f := 9) (OkD_new (k := 4) (d := d) (p := p) (c := 2 ^ p) (by decide) hd hd6 hp p1 p2 (fun _ => rfl)) (Or.inr (Or.inr rfl)) (fun g hg => by funext i; unfold lotD; rw [if_neg hg]) (fun i => ?_)
  rw [show newD 4 d p (2 ^ p) 4 0 = 2 ^ p by simp [newD]]
  unfold lotD
  rw [if_pos rfl]
  by_cases c : i % 6 < d ∧ i / 6 < 2 ^ p
  · rw [if_pos c]; exact lotV_lt hF hp
  · rw [if_neg c]; exact p1
theorem OkD_trn {D : SD} (hO : OkD D) (hk : D 1 0 < 3) : OkD (trnD D) := by
  obtain ⟨h1, h2, h3, h4, h5, h6, h7, h8, h9, h10, h11, h12⟩ := hO
  have n4 : newD 2 (D 2 0) (D 3 0) (D 4 0) 4 0 = D 4 0 := by simp [newD]
  have a1 : OkD (fun f i => if f = 6 then D f i else newD 2 (D 2 0) (D 3 0) (D 4 0) f i) := OkD_put (f := 6) (OkD_new (k := 2) (by decide) h2 h3 h4 h5 h6 (fun _ => h7 (by omega))) (Or.inl rfl) (fun g hg => by funext i; show (if g = 6 then D g i else _) = _; rw [if_neg hg]) (fun i => by rw [n4]; show (if 6 = 6 then D 6 i else _) < _; rw [if_pos rfl]; exact h9 i)
  refine OkD_put (f := 7) a1 (Or.inr (Or.inl rfl)) (fun g hg => ?_) (fun i => ?_)
  · funext i
    show trnD D g i = if g = 6 then D g i else newD 2 (D 2 0) (D 3 0) (D 4 0) g i
    unfold trnD
    by_cases c : g = 6
    · rw [if_pos (Or.inl c), if_pos c]
    · rw [if_neg (by omega), if_neg c]
  · show trnD D 7 i < if 4 = 6 then D 4 0 else newD 2 (D 2 0) (D 3 0) (D 4 0) 4 0
    rw [if_neg (by decide), n4]
    unfold trnD
    rw [if_pos (Or.inr rfl)]; exact h10 i
theorem OkD_dir {D : SD} {F p : Nat} (hO : OkD D) (hk : D 1 0 = 1) (h6' : D 2 0 < 6) : OkD (dirD D F p) := by
  obtain ⟨h1, h2, h3, h4, h5, h6, h7, h8, h9, h10, h11, h12⟩ := hO
  have e : ∀ f i, f ≠ 2 → f ≠ 6 → dirD D F p f i = D f i := fun f i a b => by
    unfold dirD
    rw [if_neg a, if_neg (fun q => b q.1)]
  have e2 : dirD D F p 2 0 = D 2 0 + 1 := by unfold dirD; rw [if_pos rfl]
  have e6 : ∀ i, dirD D F p 6 i < D 4 0 := fun i => by
    unfold dirD
    rw [if_neg (by decide)]
    by_cases c : (6 = 6 ∧ D 2 0 * 8 ≤ i ∧ i < D 2 0 * 8 + D 3 0)
    · rw [if_pos c, h7 (by omega)]
      have := rB_lt (rnT F p (dgF p 6) 8) (i - D 2 0 * 8) (D 3 0 - (i - D 2 0 * 8))
      rw [show i - D 2 0 * 8 + (D 3 0 - (i - D 2 0 * 8)) = D 3 0 by omega] at this
      exact this
    · rw [if_neg c]; exact h9 i
  unfold OkD
  rw [e 1 0 (by decide) (by decide), e 3 0 (by decide) (by decide), e 4 0 (by decide) (by decide), e 5 0 (by decide) (by decide), e2]
  exact ⟨h1, by omega, by omega, h4, h5, h6, h7, h8, e6, fun j => by rw [e 7 j (by decide) (by decide)]; exact h10 j, fun j => by rw [e 8 j (by decide) (by decide)]; exact h11 j, fun j => by rw [e 9 j (by decide) (by decide)]; exact h12 j⟩
section OKS
variable {st : St}
theorem ok_mk {d p : Int32} {D : SD} (hO : Ok st) (hD : ∀ a b, d = nI a → p = nI b → 1 ≤ a → a ≤ 6 → b ≤ 8 → OkD D) : Ok (mkO st d p D).2 := by
  rcases szF_or d p st.1 with e | e | ⟨e, a, b, ea, eb, h1, h2, h3, h4⟩
  · rw [mkO_4 e]; exact Ok_rf hO
  · rw [mkO_6 e]; exact Ok_rf hO
  · rw [mkO_0 e]; exact Ok_add hO h4 (hD a b ea eb h1 h2 h3)
theorem n12 (hO : Ok st) : st.1 < 2147483648 := by have := hO.1; omega
theorem n4b {k : Nat} (hO : Ok st) (hk : k < st.1) : st.2.1 k 4 0 < 2147483648 := by have := (hO.2.1 k hk).2.2.2.2.2.1; omega
theorem n2b {k : Nat} (hO : Ok st) (hk : k < st.1) : st.2.1 k 2 0 < 2147483648 := by have := (hO.2.1 k hk).2.2.1; omega
theorem n3b {k : Nat} (hO : Ok st) (hk : k < st.1) : st.2.1 k 3 0 < 2147483648 := by have := (hO.2.1 k hk).2.2.2.1; omega
theorem ok_table (hO : Ok st) (d p : Int32) : Ok (o_table st d p).2 := ok_mk hO (fun a b ea eb h1 h2 h3 => by
  obtain ⟨p1, p2⟩ := pw_256 h3
  rw [ea, eb, vN_nI (by omega), vN_nI (by omega)]
  exact OkD_new (by decide) h1 h2 h3 p1 p2 (fun _ => rfl))
theorem ok_ladder (hO : Ok st) (p : Int32) : Ok (o_ladder st p).2 := ok_mk hO (fun a b ea eb h1 h2 h3 => by
  rw [eb, vN_nI (by omega)]; exact OkD_lad h3)
theorem ok_lots (hO : Ok st) (d p : Int32) (v : Int64) : Ok (o_lots st d p v).2 := ok_mk hO (fun a b ea eb h1 h2 h3 => by
  rw [ea, eb, vN_nI (by omega), vN_nI (by omega)]; exact OkD_lot (uL_lt v) h1 h2 h3)
theorem ok_scatter (hO : Ok st) (s w : Int32) : Ok (o_scatter st s w).2 := by
  unfold o_scatter
  exact onS_ok (n12 hO) (Ok_rf hO) (fun k hk => onS_ok (by decide) (Ok_rf hO) (fun _ _ => hO))
theorem ok_part (hO : Ok st) (s n j : Int32) : Ok (o_part st s n j).2 := by
  unfold o_part
  exact onS_ok (n12 hO) (Ok_rf hO) (fun k hk => onS_ok (n4b hO hk) (Ok_rf hO) (fun _ _ => onS_ok (n2b hO hk) (Ok_rf hO) (fun _ _ => hO)))
theorem ok_next (hO : Ok st) (s : Int32) : Ok (o_next st s).2 := by
  unfold o_next
  refine onS_ok (n12 hO) (Ok_rf hO) (fun k hk => ?_)
  by_cases c : 1000000 ≤ st.2.1 k 5 0
  · rw [if_pos c]; exact Ok_rf hO
  · rw [if_neg c]
    exact Ok_ww (st := setS st k (mu (st.2.1 k) 5 0 (st.2.1 k 5 0 + 1))) rfl rfl (Ok_set hO hk (OkD_up (hO.2.1 k hk) (Or.inl ⟨rfl, rfl, by omega⟩)))
theorem ok_skip (hO : Ok st) (s t : Int32) : Ok (o_skip st s t).2 := by
  unfold o_skip
  refine onS_ok (n12 hO) (Ok_rf hO) (fun k hk => ?_)
  by_cases c : t < 0
  · rw [if_pos c]; exact Ok_rf hO
  · rw [if_neg c]
    exact onS_ok (by decide) (Ok_rf hO) (fun t ht => Ok_set hO hk (OkD_up (hO.2.1 k hk) (Or.inl ⟨rfl, rfl, by omega⟩)))
theorem ok_side (hO : Ok st) (j l h : Int32) : Ok (o_side st j l h).2 := by
  unfold o_side
  exact onS_ok (by decide) (Ok_rf hO) (fun _ _ => Ok_ww rfl rfl hO)
theorem ok_mark (hO : Ok st) (j v : Int32) : Ok (o_mark st j v).2 := by
  unfold o_mark
  exact onS_ok (by decide) (Ok_rf hO) (fun _ _ => Ok_ww rfl rfl hO)
theorem ok_status (hO : Ok st) (w : Int32) : Ok (o_status st w).2 := hO
theorem ok_row (hO : Ok st) (s j i b : Int32) : Ok (o_row st s j i b).2 := by
  unfold o_row
  refine onS_ok (n12 hO) (Ok_rf hO) (fun k hk => onS_ok (n2b hO hk) (Ok_rf hO) (fun j hj => ?_))
  by_cases c : st.2.1 k 1 0 = 0
  · rw [if_pos c]
    exact onS_ok (n3b hO hk) (Ok_rf hO) (fun i hi => onS_ok (n4b hO hk) (Ok_rf hO) (fun b hb => Ok_set hO hk (OkD_up (hO.2.1 k hk) (Or.inr ⟨by omega, hb⟩))))
  · rw [if_neg c]; exact Ok_rf hO
theorem ok_mask (hO : Ok st) (s j b : Int32) : Ok (o_mask st s j b).2 := by
  unfold o_mask
  refine onS_ok (n12 hO) (Ok_rf hO) (fun k hk => onS_ok (n2b hO hk) (Ok_rf hO) (fun j hj => ?_))
  by_cases c : st.2.1 k 1 0 = 2
  · rw [if_pos c]
    exact onS_ok (n4b hO hk) (Ok_rf hO) (fun b hb => Ok_set hO hk (OkD_up (hO.2.1 k hk) (Or.inr ⟨by omega, hb⟩)))
  · rw [if_neg c]; exact Ok_rf hO
theorem ok_step (hO : Ok st) (s j b : Int32) : Ok (o_step st s j b).2 := by
  unfold o_step
  refine onS_ok (n12 hO) (Ok_rf hO) (fun k hk => onS_ok (n2b hO hk) (Ok_rf hO) (fun j hj => ?_))
  by_cases c : st.2.1 k 1 0 = 3
  · rw [if_pos c]
    exact onS_ok (n4b hO hk) (Ok_rf hO) (fun b hb => Ok_set hO hk (OkD_up (hO.2.1 k hk) (Or.inr ⟨by omega, hb⟩)))
  · rw [if_neg c]; exact Ok_rf hO
theorem ok_turned (hO : Ok st) (s : Int32) : Ok (o_turned st s).2 := by
  unfold o_turned
  refine onS_ok (n12 hO) (Ok_rf hO) (fun k hk => ?_)
  by_cases c : st.2.1 k 1 0 < 3
  · rw [if_pos c]
    by_cases c2 : st.1 < 12
    · rw [if_pos c2]; exact Ok_add hO c2 (OkD_trn (hO.2.1 k hk) c)
    · rw [if_neg c2]; exact Ok_rf hO
  · rw [if_neg c]; exact Ok_rf hO
theorem ok_grid (hO : Ok st) (c d : Int32) : Ok (o_grid st c d).2 := by
  unfold o_grid
  by_cases e1 : c < nI 1 ∨ d < nI 1
  · rw [if_pos e1]; exact Ok_rf hO
  · rw [if_neg e1]
    by_cases e2 : nI 256 < c ∨ nI 6 < d ∨ 12 ≤ st.1
    · rw [if_pos e2]; exact Ok_rf hO
    · rw [if_neg e2]
      have key : ∀ (x : Int32) (n : Nat), n < 1000 → ¬ x < nI 1 → ¬ nI n < x → 1 ≤ vN x ∧ vN x ≤ n := fun x n hn h1 h2 => by
        have x0 : ¬ x < 0 := fun q => by
          have a1 := Int32.le_iff_toInt_le.mp (Int32.not_lt.mp h1)
          have a2 := Int32.lt_iff_toInt_lt.mp q
          rw [nI_toInt (by decide)] at a1
          have : (0 : Int32).toInt = 0 := rfl
          omega
        obtain ⟨a, ha, rfl⟩ := nI_of2 (M := nI n) (n := n) (nI_toInt (by omega)) x0 (Int32.not_lt.mp h2)
        have a1 := Int32.le_iff_toInt_le.mp (Int32.not_lt.mp h1)
        rw [nI_toInt (by decide), nI_toInt (by omega)] at a1
        rw [vN_nI (by omega)]
        omega
      obtain ⟨q1, q2⟩ := key c 256 (by decide) (fun q => e1 (Or.inl q)) (fun q => e2 (Or.inl q))
      obtain ⟨q3, q4⟩ := key d 6 (by decide) (fun q => e1 (Or.inr q)) (fun q => e2 (Or.inr (Or.inl q)))
      exact Ok_add hO (by omega) (OkD_new (by decide) q3 q4 (by decide) q1 q2 (fun q => absurd rfl q))
theorem ok_direction (hO : Ok st) (s p : Int32) (v : Int64) : Ok (o_direction st s p v).2 := by
  unfold o_direction
  refine onS_ok (n12 hO) (Ok_rf hO) (fun k hk => ?_)
  by_cases c : st.2.1 k 1 0 = 1
  · rw [if_pos c]
    by_cases c2 : p < nI 3
    · rw [if_pos c2]; exact Ok_rf hO
    · rw [if_neg c2]
      by_cases c3 : nI 127 < p ∨ 6 ≤ st.2.1 k 2 0
      · rw [if_pos c3]; exact Ok_rf hO
      · rw [if_neg c3]
        by_cases c4 : vN p % 2 = 1 ∧ allB (fFi (uL v)) (dgF (vN p) 6) = true
        · rw [if_pos c4]; exact Ok_set hO hk (OkD_dir (hO.2.1 k hk) c (by omega))
        · rw [if_neg c4]; exact Ok_rf hO
  · rw [if_neg c]; exact Ok_rf hO
/-- a call that answers and leaves all as it was, or refuses -/
theorem ok_ite {α : Type} {c : Prop} [Decidable c] {a b : α × St} (ha : Ok a.2) (hb : Ok b.2) : Ok (if c then a else b).2 := by
  by_cases h : c
  · rw [if_pos h]; exact ha
  · rw [if_neg h]; exact hb
theorem ok_count (hO : Ok st) (s : Int32) : Ok (o_count st s).2 := by
  unfold o_count
  exact onS_ok (n12 hO) (Ok_rf hO) (fun _ _ => hO)
theorem ok_back (hO : Ok st) (s : Int32) : Ok (o_back st s).2 := by
  unfold o_back
  exact onS_ok (n12 hO) (Ok_rf hO) (fun _ _ => hO)
theorem ok_even (hO : Ok st) (s : Int32) : Ok (o_even st s).2 := by
  unfold o_even
  exact onS_ok (n12 hO) (Ok_rf hO) (fun _ _ => ok_ite (Ok_rf hO) (ok_ite (Ok_rf hO) (ok_ite (Ok_rf hO) hO)))
theorem ok_why (hO : Ok st) (s : Int32) : Ok (o_why st s).2 := by
  unfold o_why
  exact onS_ok (n12 hO) hO (fun _ _ => ok_ite hO hO)
theorem ok_grade (hO : Ok st) (s : Int32) : Ok (o_grade st s).2 := by
  unfold o_grade
  exact onS_ok (n12 hO) (Ok_rf hO) (fun _ _ => ok_ite hO (Ok_rf hO))
theorem ok_pair (hO : Ok st) (s j l : Int32) : Ok (o_pair st s j l).2 := by
  unfold o_pair
  exact onS_ok (n12 hO) (Ok_rf hO) (fun k hk => onS_ok (n2b hO hk) (Ok_rf hO) (fun _ _ => onS_ok (n2b hO hk) (Ok_rf hO) (fun _ _ => ok_ite (Ok_rf hO) (ok_ite hO (Ok_rf hO)))))
theorem ok_gap (hO : Ok st) (s : Int32) (cl : Bool) (w : Int32) : Ok (o_gap st s cl w).2 := by
  unfold o_gap
  exact onS_ok (n12 hO) (Ok_rg hO) (fun _ _ => onS_ok (by decide) (Ok_rg hO) (fun _ _ => ok_ite hO (Ok_rg hO)))
theorem ok_wave (hO : Ok st) (s : Int32) : Ok (o_wave st s).2 := by
  unfold o_wave
  exact onS_ok (n12 hO) (Ok_rg hO) (fun _ _ => ok_ite (Ok_rg hO) (ok_ite hO (Ok_rg hO)))
theorem ok_sum (hO : Ok st) (s w : Int32) : Ok (o_sum st s w).2 := by
  unfold o_sum
  exact onS_ok (n12 hO) (Ok_rg hO) (fun _ _ => onS_ok (by decide) (Ok_rg hO) (fun _ _ => ok_ite hO (Ok_rg hO)))
theorem ok_square (hO : Ok st) (s w : Int32) : Ok (o_square st s w).2 := by
  unfold o_square
  exact onS_ok (n12 hO) (Ok_rg hO) (fun _ _ => onS_ok (by decide) (Ok_rg hO) (fun _ _ => ok_ite hO (Ok_rg hO)))
theorem ok_worst (hO : Ok st) (s w : Int32) : Ok (o_worst st s w).2 := by
  unfold o_worst
  exact onS_ok (n12 hO) (Ok_rg hO) (fun k hk => onS_ok (by have := (hO.2.1 k hk).2.2.1; omega) (Ok_rg hO) (fun _ _ => ok_ite hO (Ok_rg hO)))
theorem ok_waves (hO : Ok st) (s w i : Int32) : Ok (o_waves st s w i).2 := by
  unfold o_waves
  exact onS_ok (n12 hO) (Ok_rg hO) (fun _ _ => ok_ite (Ok_rg hO) (ok_ite (Ok_rg hO) (ok_ite (Ok_rg hO) hO)))
end OKS
