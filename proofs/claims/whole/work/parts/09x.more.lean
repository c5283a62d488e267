section VX
variable {X : CX} {own : String} {cc : ByteArray} {rm : Room} {T0 : TC} {B0 nL0 : Nat} {kc ks z : Nat} {S : MS} {I : MI} {J : MJ} {R : MR} {pc : Nat} {lv : List (Option Value)} {st : List Value}
theorem lp_up {P : Nat → Prop} (e : Nat) (h : ∀ i, i ≤ e → (i < e → P (i + 1)) → P i) : ∀ i, i ≤ e → P i := by
  have key : ∀ d i, i + d = e → P i := by
    intro d
    induction d with
    | zero => intro i hi; exact h i (by omega) (fun q => absurd q (by omega))
    | succ d ih => intro i hi; exact h i (by omega) (fun _ => ih (i + 1) (by omega))
  exact fun i hi => key (e - i) i (by omega)
theorem v_lv {lv' : List (Option Value)} (h : lv = lv') (k : V X kc ks z S I J R pc lv' st) : V X kc ks z S I J R pc lv st := h ▸ k
def lle : List (Option Value) → List (Option Value) → Prop
  | [], _ => True
  | none :: t, _ :: u => lle t u
  | some v :: t, o :: u => o = some v ∧ lle t u
  | none :: _, [] => False
  | some _ :: _, [] => False
theorem lle_at : ∀ (a b : List (Option Value)), lle a b → ∀ (i : Nat) (v : Value), a[i]? = some (some v) → b[i]? = some (some v)
  | [], _, _, i, v, h => by simp at h
  | none :: t, x :: u, hl, 0, v, h => by simp at h
  | none :: t, x :: u, hl, i + 1, v, h => by
    simp only [List.getElem?_cons_succ] at h ⊢
    exact lle_at t u hl i v h
  | some w :: t, x :: u, hl, 0, v, h => by
    simp only [List.getElem?_cons_zero] at h ⊢
    rw [hl.1]; exact h
  | some w :: t, x :: u, hl, i + 1, v, h => by
    simp only [List.getElem?_cons_succ] at h ⊢
    exact lle_at t u hl.2 i v h
  | none :: _, [], hl, _, _, _ => absurd hl (fun q => q)
  | some _ :: _, [], hl, _, _, _ => absurd hl (fun q => q)
/-- fewer locals known -/
theorem v_less {lv' : List (Option Value)} (k : V X kc ks z S I J R pc lv' st) (h : lle lv' lv) : V X kc ks z S I J R pc lv st := by
  obtain ⟨p, l, e, Rm, s, m, args, below, meth, c, nL, T, B, Q⟩ := X
  intro H locs ls hR hS hl
  exact k H locs ls hR hS ⟨hl.1, hl.2.1, fun i v hi => hl.2.2 i v (lle_at _ _ h i v hi)⟩
theorem v_st {st' : List Value} (h : st = st') (k : V X kc ks z S I J R pc lv st') : V X kc ks z S I J R pc lv st := h ▸ k
theorem v_topi {x : Int32} (k : ∀ y : Int32, y = x → V X kc ks z S I J R pc lv (.int y :: st)) : V X kc ks z S I J R pc lv (.int x :: st) := k x rfl
theorem v_topl {x : Int64} (k : ∀ y : Int64, y = x → V X kc ks z S I J R pc lv (.long y :: st)) : V X kc ks z S I J R pc lv (.long x :: st) := k x rfl
theorem v_lcif_eq {x y : Int64} (C : Cx X own cc rm T0 B0 nL0) {off : Int} (tgt : Nat) (d : decode cc pc = .ok (.ifCond .eq off, 3)) (ht : (pc : Int) + off = (tgt : Int)) (kt : x = y → V X kc ks z S I J R tgt lv st) (kf : ¬ x = y → V X kc ks z S I J R (pc + 3) lv st) : V X kc ks z S I J R pc lv (.int (lg_cmp x y) :: st) := v_if_eq C tgt d ht (fun h => kt ((lg_cmp_eq x y).mp h)) (fun h => kf (fun q => h ((lg_cmp_eq x y).mpr q)))
theorem v_lcif_eqN {a b : Nat} (C : Cx X own cc rm T0 B0 nL0) {off : Int} (tgt : Nat) (d : decode cc pc = .ok (.ifCond .eq off, 3)) (ha : a < 9223372036854775808) (hb : b < 9223372036854775808) (ht : (pc : Int) + off = (tgt : Int)) (kt : a = b → V X kc ks z S I J R tgt lv st) (kf : ¬ a = b → V X kc ks z S I J R (pc + 3) lv st) : V X kc ks z S I J R pc lv (.int (lg_cmp (lN a) (lN b)) :: st) := v_lcif_eq C tgt d ht (fun h => kt ((pk_lEQ ha hb).mp h)) (fun h => kf (fun q => h ((pk_lEQ ha hb).mpr q)))
theorem v_if_eqN {a : Nat} (C : Cx X own cc rm T0 B0 nL0) {off : Int} (tgt : Nat) (d : decode cc pc = .ok (.ifCond .eq off, 3)) (ha : a < 2147483648) (ht : (pc : Int) + off = (tgt : Int)) (kt : a = 0 → V X kc ks z S I J R tgt lv st) (kf : ¬ a = 0 → V X kc ks z S I J R (pc + 3) lv st) : V X kc ks z S I J R pc lv (.int (nI a) :: st) := v_if_eq C tgt d ht (fun h => kt ((nI_eq ha (by decide)).mp (nI_0 ▸ h))) (fun h => kf (fun q => h (q ▸ nI_0)))
theorem v_lcif_ne {x y : Int64} (C : Cx X own cc rm T0 B0 nL0) {off : Int} (tgt : Nat) (d : decode cc pc = .ok (.ifCond .ne off, 3)) (ht : (pc : Int) + off = (tgt : Int)) (kt : ¬ x = y → V X kc ks z S I J R tgt lv st) (kf : x = y → V X kc ks z S I J R (pc + 3) lv st) : V X kc ks z S I J R pc lv (.int (lg_cmp x y) :: st) := v_if_ne C tgt d ht (fun h => kt (fun q => h ((lg_cmp_eq x y).mpr q))) (fun h => kf ((lg_cmp_eq x y).mp h))
theorem v_lcif_neN {a b : Nat} (C : Cx X own cc rm T0 B0 nL0) {off : Int} (tgt : Nat) (d : decode cc pc = .ok (.ifCond .ne off, 3)) (ha : a < 9223372036854775808) (hb : b < 9223372036854775808) (ht : (pc : Int) + off = (tgt : Int)) (kt : ¬ a = b → V X kc ks z S I J R tgt lv st) (kf : a = b → V X kc ks z S I J R (pc + 3) lv st) : V X kc ks z S I J R pc lv (.int (lg_cmp (lN a) (lN b)) :: st) := v_lcif_ne C tgt d ht (fun h => kt (fun q => h ((pk_lEQ ha hb).mpr q))) (fun h => kf ((pk_lEQ ha hb).mp h))
theorem v_if_neN {a : Nat} (C : Cx X own cc rm T0 B0 nL0) {off : Int} (tgt : Nat) (d : decode cc pc = .ok (.ifCond .ne off, 3)) (ha : a < 2147483648) (ht : (pc : Int) + off = (tgt : Int)) (kt : ¬ a = 0 → V X kc ks z S I J R tgt lv st) (kf : a = 0 → V X kc ks z S I J R (pc + 3) lv st) : V X kc ks z S I J R pc lv (.int (nI a) :: st) := v_if_ne C tgt d ht (fun h => kt (fun q => h (q ▸ nI_0))) (fun h => kf ((nI_eq ha (by decide)).mp (nI_0 ▸ h)))
theorem v_lcif_lt {x y : Int64} (C : Cx X own cc rm T0 B0 nL0) {off : Int} (tgt : Nat) (d : decode cc pc = .ok (.ifCond .lt off, 3)) (ht : (pc : Int) + off = (tgt : Int)) (kt : x < y → V X kc ks z S I J R tgt lv st) (kf : ¬ x < y → V X kc ks z S I J R (pc + 3) lv st) : V X kc ks z S I J R pc lv (.int (lg_cmp x y) :: st) := v_if_lt C tgt d ht (fun h => kt ((lg_cmp_lt x y).mp h)) (fun h => kf (fun q => h ((lg_cmp_lt x y).mpr q)))
theorem v_lcif_ltN {a b : Nat} (C : Cx X own cc rm T0 B0 nL0) {off : Int} (tgt : Nat) (d : decode cc pc = .ok (.ifCond .lt off, 3)) (ha : a < 9223372036854775808) (hb : b < 9223372036854775808) (ht : (pc : Int) + off = (tgt : Int)) (kt : a < b → V X kc ks z S I J R tgt lv st) (kf : b ≤ a → V X kc ks z S I J R (pc + 3) lv st) : V X kc ks z S I J R pc lv (.int (lg_cmp (lN a) (lN b)) :: st) := v_lcif_lt C tgt d ht (fun h => kt ((pk_lLT ha hb).mp h)) (fun h => kf (Nat.le_of_not_lt fun q => h ((pk_lLT ha hb).mpr q)))
theorem v_if_ltN {a : Nat} (C : Cx X own cc rm T0 B0 nL0) {off : Int} (tgt : Nat) (d : decode cc pc = .ok (.ifCond .lt off, 3)) (ha : a < 2147483648) (ht : (pc : Int) + off = (tgt : Int)) (kt : False → V X kc ks z S I J R tgt lv st) (kf : True → V X kc ks z S I J R (pc + 3) lv st) : V X kc ks z S I J R pc lv (.int (nI a) :: st) := v_if_lt C tgt d ht (fun h => kt (nI_pos ha h)) (fun h => kf (trivial))
theorem v_lcif_ge {x y : Int64} (C : Cx X own cc rm T0 B0 nL0) {off : Int} (tgt : Nat) (d : decode cc pc = .ok (.ifCond .ge off, 3)) (ht : (pc : Int) + off = (tgt : Int)) (kt : y ≤ x → V X kc ks z S I J R tgt lv st) (kf : ¬ y ≤ x → V X kc ks z S I J R (pc + 3) lv st) : V X kc ks z S I J R pc lv (.int (lg_cmp x y) :: st) := v_if_ge C tgt d ht (fun h => kt ((lg_cmp_ge x y).mp h)) (fun h => kf (fun q => h ((lg_cmp_ge x y).mpr q)))
theorem v_lcif_geN {a b : Nat} (C : Cx X own cc rm T0 B0 nL0) {off : Int} (tgt : Nat) (d : decode cc pc = .ok (.ifCond .ge off, 3)) (ha : a < 9223372036854775808) (hb : b < 9223372036854775808) (ht : (pc : Int) + off = (tgt : Int)) (kt : b ≤ a → V X kc ks z S I J R tgt lv st) (kf : a < b → V X kc ks z S I J R (pc + 3) lv st) : V X kc ks z S I J R pc lv (.int (lg_cmp (lN a) (lN b)) :: st) := v_lcif_ge C tgt d ht (fun h => kt ((pk_lLE hb ha).mp h)) (fun h => kf (Nat.lt_of_not_le fun q => h ((pk_lLE hb ha).mpr q)))
theorem v_if_geN {a : Nat} (C : Cx X own cc rm T0 B0 nL0) {off : Int} (tgt : Nat) (d : decode cc pc = .ok (.ifCond .ge off, 3)) (ha : a < 2147483648) (ht : (pc : Int) + off = (tgt : Int)) (kt : True → V X kc ks z S I J R tgt lv st) (kf : False → V X kc ks z S I J R (pc + 3) lv st) : V X kc ks z S I J R pc lv (.int (nI a) :: st) := v_if_ge C tgt d ht (fun h => kt (trivial)) (fun h => kf (h (nI_pos' ha)))
theorem v_lcif_gt {x y : Int64} (C : Cx X own cc rm T0 B0 nL0) {off : Int} (tgt : Nat) (d : decode cc pc = .ok (.ifCond .gt off, 3)) (ht : (pc : Int) + off = (tgt : Int)) (kt : y < x → V X kc ks z S I J R tgt lv st) (kf : ¬ y < x → V X kc ks z S I J R (pc + 3) lv st) : V X kc ks z S I J R pc lv (.int (lg_cmp x y) :: st) := v_if_gt C tgt d ht (fun h => kt ((lg_cmp_gt x y).mp h)) (fun h => kf (fun q => h ((lg_cmp_gt x y).mpr q)))
theorem v_lcif_gtN {a b : Nat} (C : Cx X own cc rm T0 B0 nL0) {off : Int} (tgt : Nat) (d : decode cc pc = .ok (.ifCond .gt off, 3)) (ha : a < 9223372036854775808) (hb : b < 9223372036854775808) (ht : (pc : Int) + off = (tgt : Int)) (kt : b < a → V X kc ks z S I J R tgt lv st) (kf : a ≤ b → V X kc ks z S I J R (pc + 3) lv st) : V X kc ks z S I J R pc lv (.int (lg_cmp (lN a) (lN b)) :: st) := v_lcif_gt C tgt d ht (fun h => kt ((pk_lLT hb ha).mp h)) (fun h => kf (Nat.le_of_not_lt fun q => h ((pk_lLT hb ha).mpr q)))
theorem v_if_gtN {a : Nat} (C : Cx X own cc rm T0 B0 nL0) {off : Int} (tgt : Nat) (d : decode cc pc = .ok (.ifCond .gt off, 3)) (ha : a < 2147483648) (ht : (pc : Int) + off = (tgt : Int)) (kt : 0 < a → V X kc ks z S I J R tgt lv st) (kf : a = 0 → V X kc ks z S I J R (pc + 3) lv st) : V X kc ks z S I J R pc lv (.int (nI a) :: st) := v_if_gt C tgt d ht (fun h => kt ((nI_ltI (by decide) ha).mp (nI_0 ▸ h))) (fun h => kf (Nat.eq_zero_of_not_pos fun q => h (nI_0 ▸ (nI_ltI (by decide) ha).mpr q)))
theorem v_lcif_le {x y : Int64} (C : Cx X own cc rm T0 B0 nL0) {off : Int} (tgt : Nat) (d : decode cc pc = .ok (.ifCond .le off, 3)) (ht : (pc : Int) + off = (tgt : Int)) (kt : x ≤ y → V X kc ks z S I J R tgt lv st) (kf : ¬ x ≤ y → V X kc ks z S I J R (pc + 3) lv st) : V X kc ks z S I J R pc lv (.int (lg_cmp x y) :: st) := v_if_le C tgt d ht (fun h => kt ((lg_cmp_le x y).mp h)) (fun h => kf (fun q => h ((lg_cmp_le x y).mpr q)))
theorem v_lcif_leN {a b : Nat} (C : Cx X own cc rm T0 B0 nL0) {off : Int} (tgt : Nat) (d : decode cc pc = .ok (.ifCond .le off, 3)) (ha : a < 9223372036854775808) (hb : b < 9223372036854775808) (ht : (pc : Int) + off = (tgt : Int)) (kt : a ≤ b → V X kc ks z S I J R tgt lv st) (kf : b < a → V X kc ks z S I J R (pc + 3) lv st) : V X kc ks z S I J R pc lv (.int (lg_cmp (lN a) (lN b)) :: st) := v_lcif_le C tgt d ht (fun h => kt ((pk_lLE ha hb).mp h)) (fun h => kf (Nat.lt_of_not_le fun q => h ((pk_lLE ha hb).mpr q)))
theorem v_if_leN {a : Nat} (C : Cx X own cc rm T0 B0 nL0) {off : Int} (tgt : Nat) (d : decode cc pc = .ok (.ifCond .le off, 3)) (ha : a < 2147483648) (ht : (pc : Int) + off = (tgt : Int)) (kt : a = 0 → V X kc ks z S I J R tgt lv st) (kf : 0 < a → V X kc ks z S I J R (pc + 3) lv st) : V X kc ks z S I J R pc lv (.int (nI a) :: st) := v_if_le C tgt d ht (fun h => kt (Nat.eq_zero_of_not_pos fun q => nI_nle q ha h)) (fun h => kf (Nat.pos_of_ne_zero fun q => h (by rw [q, nI_0]; exact Int32.le_refl 0)))
theorem s_l : ∀ n, n < 32 → ((nI n &&& 31).toBitVec.smod 32).toNat = n := by decide +kernel
theorem s_u : ∀ n, n < 32 → (((nI n).toUInt32 &&& Int32.toUInt32 31).toBitVec % 32).toNat = n := by decide +kernel
theorem v_ishlN {a b : Nat} (C : Cx X own cc rm T0 B0 nL0) (d : decode cc pc = .ok (.ishl, 1)) (hb : b < 32) (ha : a * 2 ^ b < 4294967296) (k : V X kc ks z S I J R (pc + 1) lv (.int (nI (a * 2 ^ b)) :: st)) : V X kc ks z S I J R pc lv (.int (nI b) :: .int (nI a) :: st) := v_ishl C d (by rw [pk_shlN _ b (s_l b hb) ha]; exact k)
theorem v_ishrN {a b : Nat} (C : Cx X own cc rm T0 B0 nL0) (d : decode cc pc = .ok (.ishr, 1)) (hb : b < 32) (ha : a < 2147483648) (k : V X kc ks z S I J R (pc + 1) lv (.int (nI (a / 2 ^ b)) :: st)) : V X kc ks z S I J R pc lv (.int (nI b) :: .int (nI a) :: st) := v_ishr C d (by rw [pk_shrN ha _ b (s_l b hb)]; exact k)
theorem v_iushrN {a b : Nat} (C : Cx X own cc rm T0 B0 nL0) (d : decode cc pc = .ok (.iushr, 1)) (hb : b < 32) (ha : a < 4294967296) (k : V X kc ks z S I J R (pc + 1) lv (.int (nI (a / 2 ^ b)) :: st)) : V X kc ks z S I J R pc lv (.int (nI b) :: .int (nI a) :: st) := v_iushr C d (by rw [pk_ushrN ha _ b (s_u b hb)]; exact k)
theorem nI_and (a b : Nat) : nI a &&& nI b = nI (a &&& b) := by
  apply Int32.toBitVec_inj.mp
  show BitVec.ofNat 32 a &&& BitVec.ofNat 32 b = BitVec.ofNat 32 (a &&& b)
  exact (BitVec.ofNat_and).symm
theorem nI_xor (a b : Nat) : nI a ^^^ nI b = nI (a ^^^ b) := by
  apply Int32.toBitVec_inj.mp
  show BitVec.ofNat 32 a ^^^ BitVec.ofNat 32 b = BitVec.ofNat 32 (a ^^^ b)
  exact (BitVec.ofNat_xor).symm
theorem nI_or (a b : Nat) : nI a ||| nI b = nI (a ||| b) := by
  apply Int32.toBitVec_inj.mp
  show BitVec.ofNat 32 a ||| BitVec.ofNat 32 b = BitVec.ofNat 32 (a ||| b)
  exact (BitVec.ofNat_or).symm
theorem v_iandN {a b : Nat} (C : Cx X own cc rm T0 B0 nL0) (d : decode cc pc = .ok (.iand, 1)) (k : V X kc ks z S I J R (pc + 1) lv (.int (nI (a &&& b)) :: st)) : V X kc ks z S I J R pc lv (.int (nI b) :: .int (nI a) :: st) := v_iand C d (by rw [nI_and]; exact k)
theorem v_ixorN {a b : Nat} (C : Cx X own cc rm T0 B0 nL0) (d : decode cc pc = .ok (.ixor, 1)) (k : V X kc ks z S I J R (pc + 1) lv (.int (nI (a ^^^ b)) :: st)) : V X kc ks z S I J R pc lv (.int (nI b) :: .int (nI a) :: st) := v_ixor C d (by rw [nI_xor]; exact k)
theorem v_iorN {a b : Nat} (C : Cx X own cc rm T0 B0 nL0) (d : decode cc pc = .ok (.ior, 1)) (k : V X kc ks z S I J R (pc + 1) lv (.int (nI (a ||| b)) :: st)) : V X kc ks z S I J R pc lv (.int (nI b) :: .int (nI a) :: st) := v_ior C d (by rw [nI_or]; exact k)
theorem v_lremN {a b : Nat} (C : Cx X own cc rm T0 B0 nL0) (d : decode cc pc = .ok (.lrem, 1)) (ha : a < 9223372036854775808) (h0 : 0 < b) (hb : b < 9223372036854775808) (k : V X kc ks z S I J R (pc + 1) lv (.long (lN (a % b)) :: st)) : V X kc ks z S I J R pc lv (.long (lN b) :: .long (lN a) :: st) := v_lrem C d (fun q => by have := (pk_lEQ (a := b) (b := 0) hb (by decide)).mp q; omega) (by rw [pk_lRem ha h0 hb]; exact k)
/-- an int that is none of 0 .. n - 1 -/
def Oo (x : Int32) (n : Nat) : Prop := x < 0 ∨ nI n ≤ x
theorem Oo_or (x : Int32) (n : Nat) (hn : n < 2147483648) : Oo x n ∨ ∃ k : Nat, k < n ∧ x = nI k := by
  rcases pk_ix x hn with h | h | h
  · exact Or.inl (Or.inl h)
  · exact Or.inl (Or.inr h)
  · exact Or.inr h
theorem Oo_not {k n : Nat} (hk : k < n) (hn : n < 2147483648) : ¬ Oo (nI k) n := by
  intro h
  rcases h with h | h
  · exact nI_pos (by omega) h
  · exact nI_ge hk hn h
end VX
