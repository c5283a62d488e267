/-! the law's own rows: its script, its end -/
def Scr (X : CX) (b L : Nat) (xs : Nat → Int32) : Prop := match X with
  | (_, _, _, _, s, _, _, _, _, _, _, _, B, _) => va_X b L xs s s.heap ∧ b < B
def LEn (X : CX) (b : Nat) : Prop := match X with
  | (_, _, _, Rm, s, _, args, below, meth, _, _, _, B, Q) => Rm = room_1 ∧ args = #[Value.ref b] ∧ meth.sig.returnType = ret ∧ B = s.heap.size ∧ Q = lw_Z below #[Value.ref b] s
section LW
variable {X : CX} {own : String} {cc : ByteArray} {rm : Room} {T0 : TC} {B0 nL0 : Nat} {kc ks z : Nat} {S : MS} {I : MI} {J : MJ} {R : MR} {pc : Nat} {lv : List (Option Value)} {st : List Value}
theorem v_sld (C : Cx X own cc rm T0 B0 nL0) {b L i : Nat} {xs : Nat → Int32} (hs : Scr X b L xs) (hi : i < L) (hb : i < 2147483648) (d : decode cc pc = .ok (.iaload, 1)) (kk : V X kc ks z S I J R (pc + 1) lv (.int (xs i) :: st)) : V X kc ks z S I J R pc lv (.int (nI i) :: .ref b :: st) := by
  obtain ⟨p, l, e, Rm, s, m, args, below, meth, c, nL, T, B, Q⟩ := X
  intro H locs ls hR hS hl
  obtain ⟨c1, c2, c3, c4, c5, c6, c7, c8, c9, c10, c11, c12⟩ := id C
  obtain ⟨h1, h2⟩ := hs
  refine va_sld c1 c2 h1 (Nat.lt_of_lt_of_le h2 c7) (Nat.not_le.mpr h2) hS (by rw [vp_in_iff, nI_toInt hb]; omega) d ?_
  rw [nI_clamp hb]
  exact kk H locs ls hR hS hl
theorem v_slen (C : Cx X own cc rm T0 B0 nL0) {b L : Nat} {xs : Nat → Int32} (hs : Scr X b L xs) (d : decode cc pc = .ok (.arraylength, 1)) (kk : V X kc ks z S I J R (pc + 1) lv (.int (nI L) :: st)) : V X kc ks z S I J R pc lv (.ref b :: st) := by
  obtain ⟨p, l, e, Rm, s, m, args, below, meth, c, nL, T, B, Q⟩ := X
  intro H locs ls hR hS hl
  obtain ⟨c1, c2, c3, c4, c5, c6, c7, c8, c9, c10, c11, c12⟩ := id C
  obtain ⟨h1, h2⟩ := hs
  exact va_slen c1 c2 h1 (Nat.lt_of_lt_of_le h2 c7) (Nat.not_le.mpr h2) hS d (kk H locs ls hR hS hl)
theorem v_lend (C : Cx X own code rm T0 B0 nL0) {b : Nat} (hE : LEn X b) (d : decode code pc = .ok (.ireturn, 1)) (h1 : kc ≤ 600000) (h2 : ks ≤ 7302250) : V X kc ks z S I J R pc lv [.int (nI 1)] := by
  obtain ⟨p, l, e, Rm, s, m, args, below, meth, c, nL, T, B, Q⟩ := X
  intro H locs ls hR hS hl
  obtain ⟨c1, c2, c3, c4, c5, c6, c7, c8, c9, c10, c11, c12⟩ := id C
  obtain ⟨e1, e2, hr, e4, e5⟩ := hE
  subst e1 e2 e4 e5
  refine va_forget (fun q hq => hS.2.2 q hq) ?_
  refine W.widen h1 h2 ?_
  exact lw_ret c1 c2 hr c8 d
end LW
/-! class and model side by side -/
def Jn (x : Nat) (st : St) (z : Nat) (S : MS) (I : MI) (R : MR) : Prop := Rc x st z S I R ∧ MoS S R (x + 15) ∧ Rm (x + 15) st I ∧ Ok st
def Nx (X : CX) (b x j : Nat) : Prop := ∀ (z : Nat) (S : MS) (I : MI) (J : MJ) (R : MR) (st : St), Jn x st z S I R → V X (40 + (j + 5)) (100000 + 321 * (j + 5)) z S I J R 1176 [some (.ref b), some (.ref x), some (.ref (x + 15)), some (.int (nI j))] []
theorem MoS_kp {x : Nat} {S S' : MS} {I I' : MI} {J J' : MJ} {R R' : MR} (k : Kp x S I J R S' I' J' R') (h : MoS S R (x + 15)) : MoS S' R' (x + 15) := by
  have a : ∀ q, x + 15 ≤ q → q ≤ x + 34 → S' q = S q := fun q h1 h2 => (k q h1 h2).1
  have r : ∀ i, R' (x + 15) i = R (x + 15) i := (k (x + 15) (by omega) (by omega)).2.2.2
  unfold MoS at h ⊢
  simp only [r]
  rw [a (x + 15) (by omega) (by omega), a (x + 15 + 1) (by omega) (by omega), a (x + 15 + 2) (by omega) (by omega), a (x + 15 + 3) (by omega) (by omega), a (x + 15 + 4) (by omega) (by omega), a (x + 15 + 5) (by omega) (by omega), a (x + 15 + 6) (by omega) (by omega), a (x + 15 + 7) (by omega) (by omega), a (x + 15 + 8) (by omega) (by omega), a (x + 15 + 9) (by omega) (by omega), a (x + 15 + 10) (by omega) (by omega), a (x + 15 + 11) (by omega) (by omega), a (x + 15 + 12) (by omega) (by omega), a (x + 15 + 13) (by omega) (by omega), a (x + 15 + 14) (by omega) (by omega), a (x + 15 + 15) (by omega) (by omega), a (x + 15 + 16) (by omega) (by omega), a (x + 15 + 17) (by omega) (by omega), a (x + 15 + 18) (by omega) (by omega), a (x + 15 + 19) (by omega) (by omega)]
  exact h
theorem Rm_kp {x : Nat} {st : St} {S S' : MS} {I I' : MI} {J J' : MJ} {R R' : MR} (k : Kp x S I J R S' I' J' R') (h : Rm (x + 15) st I) : Rm (x + 15) st I' := by
  have q : ∀ g i, x + 15 ≤ g → g ≤ x + 34 → I' g i = I g i := fun g i h1 h2 => (k g h1 h2).2.1 i
  obtain ⟨h1, h2, h3, h4, h5⟩ := h
  exact ⟨(q _ _ (by omega) (by omega)).trans h1, (q _ _ (by omega) (by omega)).trans h2, fun s hs => (h3 s hs).up (fun g i a b => q g i (by omega) (by omega)), fun j hj => ⟨(q _ _ (by omega) (by omega)).trans (h4 j hj).1, (q _ _ (by omega) (by omega)).trans (h4 j hj).2.1, (q _ _ (by omega) (by omega)).trans (h4 j hj).2.2⟩, fun i hi => (q _ _ (by omega) (by omega)).trans (h5 i hi)⟩
theorem Rc_fm {x z : Nat} {st : St} {S : MS} {I I' : MI} {R : MR} (h : Rc x st z S I R) (hF : FrS I I' (x + 15) (x + 15 + 19)) : Rc x st z S I' R := by
  obtain ⟨sa, hX, hn, htl, hsc, hord, htr, hrf, hzz⟩ := h
  refine ⟨sa, hX, (hF _ _ (by omega)).trans hn, (hF _ _ (by omega)).trans htl, fun k hk => ?_, hord, fun j hj => ?_, fun i hi => (hF _ _ (by omega)).trans (hrf i hi), hzz⟩
  · obtain ⟨a1, a2, a3, a4⟩ := hsc k hk
    exact ⟨a1, a2.up (fun _ _ _ => rfl) (fun b i h1 h2 => hF b i (by omega)) (fun _ => rfl), a3, a4⟩
  · obtain ⟨b1, b2, b3⟩ := htr j hj
    exact ⟨(hF _ _ (by omega)).trans b1, (hF _ _ (by omega)).trans b2, (hF _ _ (by omega)).trans b3⟩
theorem Jn_next {x z : Nat} {st : St} {S : MS} {I I' : MI} {R : MR} (h : Rc x st z S I R) (hM : MoS S R (x + 15)) (hm : Rm (x + 15) st I') (hF : FrS I I' (x + 15) (x + 15 + 19)) (hO : Ok st) : Jn x st z S I' R := ⟨Rc_fm h hF, hM, hm, hO⟩
theorem and31 (v : Int32) : ∃ w, w < 32 ∧ v &&& nI 31 = nI w := by
  refine ⟨v.toBitVec.toNat % 32, Nat.mod_lt _ (by decide), ?_⟩
  apply Int32.toBitVec_inj.mp
  apply BitVec.eq_of_toNat_eq
  have h1 : (v &&& nI 31).toBitVec.toNat = v.toBitVec.toNat &&& 31 := rfl
  have h2 : (nI (v.toBitVec.toNat % 32)).toBitVec.toNat = v.toBitVec.toNat % 32 % 2 ^ 32 := rfl
  rw [h1, h2, Nat.mod_eq_of_lt (a := v.toBitVec.toNat % 32) (by have := Nat.mod_lt v.toBitVec.toNat (show 0 < 32 by decide); omega)]
  exact Nat.and_two_pow_sub_one_eq_mod (n := 5) _
theorem neg5 {L j : Nat} (h : L < 5) (hj : j < 2147483648) : nI L - nI 5 < nI j := by
  have h0 : nI L - nI 5 < 0 := by
    rcases (show L = 0 ∨ L = 1 ∨ L = 2 ∨ L = 3 ∨ L = 4 by omega) with e | e | e | e | e <;> rw [e] <;> decide
  have h1 := Int32.lt_iff_toInt_lt.mp h0
  apply Int32.lt_iff_toInt_lt.mpr
  rw [nI_toInt hj]
  have : (0 : Int32).toInt = 0 := rfl
  omega
